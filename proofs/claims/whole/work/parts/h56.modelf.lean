theorem o_X12_fair {g : ac_G} {τ : Nat → Nat → Int64} (d : Nat) (p1 : Int32) (p2 : Int32) {Q : Int32 → ac_m → Prop} {s : ac_m} (H : w_X12_fair p1 p2 Q s) : ac_M g i_X12_fair (d + 1) 0 0 [.ref 69, .int p1, .int p2] (false, 586, SH, s, τ) (liI τ Q) := by
  refine ac_ofX (by decide +kernel) rfl rfl rfl ?_
  refine ax_aload_n (pc' := 1) dX12_fair_0 rfl rfl ?_
  refine ax_iconst (pc' := 2) (v := (0 : Int32)) dX12_fair_1 (by decide) rfl ?_
  refine ax_putI (pc' := 5) dX12_fair_2 fp_X12_104 sh_69 rfl rfl rfl ?_
  refine ax_aload_n (pc' := 6) dX12_fair_5 rfl rfl ?_
  refine ax_iload_n (pc' := 7) dX12_fair_6 rfl rfl ?_
  refine ax_iconst (pc' := 8) (v := (0 : Int32)) dX12_fair_7 (by decide) rfl ?_
  refine ax_aload_n (pc' := 9) dX12_fair_8 rfl rfl ?_
  refine ax_getR (pc' := 12) dX12_fair_9 fl_X12_23 sh_69 rfl rfl rfl ?_
  refine ax_iconst (pc' := 13) (v := (2 : Int32)) dX12_fair_12 (by decide) rfl ?_
  refine ax_iald (pc' := 14) dX12_fair_13 sh_73 (ac_in (by decide)) rfl rfl ?_
  refine ax_iconst (pc' := 15) (v := (1 : Int32)) dX12_fair_14 (by decide) rfl ?_
  refine ax_isub (pc' := 16) dX12_fair_15 rfl ?_
  refine ay_S3 (pc' := 19) (ce' := 0) (sl' := 0) (mc2 := 0) (ms2 := 0) (I2 := i_X12_in) dX12_fair_16 ml_X12_138 rfl rfl rfl rfl rfl rfl rfl rfl (ac_M.imp (o_X12_in _ p1 (0 : Int32) (((ac_u s 69 0 (0 : Int32)) 73 (2 : Int32).toNatClampNeg) - (1 : Int32)) H) ?_)
  rintro _ _ ⟨r16, s16, rfl, rfl, H⟩
  refine ax_if_ne (pc' := 22) (tgt := 26) dX12_fair_19 (by decide) rfl (fun hc19 => ?_) (fun hc19 => ?_)
  · have H := H.1 hc19
    refine ax_iconst (pc' := 27) (v := (0 : Int32)) dX12_fair_26 (by decide) rfl ?_
    refine ax_iconst (pc' := 28) (v := (1 : Int32)) dX12_fair_27 (by decide) rfl ?_
    refine ax_iconst (pc' := 29) (v := (0 : Int32)) dX12_fair_28 (by decide) rfl ?_
    refine ay_V3 (pc' := 32) (ce' := 0) (sl' := 0) (mc2 := 0) (ms2 := 0) (I2 := i_X12_bad) dX12_fair_29 ml_X12_183 sh_69 (by decide) rfl rfl rfl rfl rfl rfl rfl rfl rfl (ac_M.imp (o_X12_bad _ (0 : Int32) (1 : Int32) (0 : Int32) H) ?_)
    rintro _ _ ⟨r29, s29, rfl, rfl, H⟩
    refine ax_if_ne (pc' := 35) (tgt := 58) dX12_fair_32 (by decide) rfl (fun hc32 => ?_) (fun hc32 => ?_)
    · have H := H.1 hc32
      refine ax_iconst (pc' := 59) (v := (0 : Int32)) dX12_fair_58 (by decide) rfl ?_
      exact ax_iret dX12_fair_59 rfl rfl rfl ⟨_, _, rfl, rfl, H⟩
    · have H := H.2 hc32
      refine ax_aload_n (pc' := 36) dX12_fair_35 rfl rfl ?_
      refine ax_iload_n (pc' := 37) dX12_fair_36 rfl rfl ?_
      refine ax_iconst (pc' := 38) (v := (0 : Int32)) dX12_fair_37 (by decide) rfl ?_
      refine ax_iconst (pc' := 39) (v := (2 : Int32)) dX12_fair_38 (by decide) rfl ?_
      refine ay_S3 (pc' := 42) (ce' := 0) (sl' := 0) (mc2 := 0) (ms2 := 0) (I2 := i_X12_in) dX12_fair_39 ml_X12_138 rfl rfl rfl rfl rfl rfl rfl rfl (ac_M.imp (o_X12_in _ p2 (0 : Int32) (2 : Int32) H) ?_)
      rintro _ _ ⟨r39, s39, rfl, rfl, H⟩
      refine ax_if_ne (pc' := 45) (tgt := 49) dX12_fair_42 (by decide) rfl (fun hc42 => ?_) (fun hc42 => ?_)
      · have H := H.1 hc42
        refine ax_iconst (pc' := 50) (v := (0 : Int32)) dX12_fair_49 (by decide) rfl ?_
        refine ax_iconst (pc' := 51) (v := (2 : Int32)) dX12_fair_50 (by decide) rfl ?_
        refine ax_iconst (pc' := 52) (v := (1 : Int32)) dX12_fair_51 (by decide) rfl ?_
        refine ay_V3 (pc' := 55) (ce' := 0) (sl' := 0) (mc2 := 0) (ms2 := 0) (I2 := i_X12_bad) dX12_fair_52 ml_X12_183 sh_69 (by decide) rfl rfl rfl rfl rfl rfl rfl rfl rfl (ac_M.imp (o_X12_bad _ (0 : Int32) (2 : Int32) (1 : Int32) H) ?_)
        rintro _ _ ⟨r52, s52, rfl, rfl, H⟩
        refine ax_if_eq (pc' := 58) (tgt := 60) dX12_fair_55 (by decide) rfl (fun hc55 => ?_) (fun hc55 => ?_)
        · have H := H.1 hc55
          refine ax_aload_n (pc' := 61) dX12_fair_60 rfl rfl ?_
          refine ax_getR (pc' := 64) dX12_fair_61 fl_X12_43 sh_69 rfl rfl rfl ?_
          refine ax_iload_n (pc' := 65) dX12_fair_64 rfl rfl ?_
          obtain ⟨hj65, H⟩ := H
          refine ax_aald (pc' := 66) dX12_fair_65 sh_126 hj65 rfl rfl ?_
          refine ax_iload_n (pc' := 67) dX12_fair_66 rfl rfl ?_
          obtain ⟨hj67, H⟩ := H
          refine ax_iald (pc' := 68) dX12_fair_67 (sh_r_127 _ (ac_lt hj65)) hj67 (sh_n_127 _ (ac_lt hj65)) rfl ?_
          exact ax_iret dX12_fair_68 rfl rfl rfl ⟨_, _, rfl, rfl, H⟩
        · have H := H.2 hc55
          refine ax_iconst (pc' := 59) (v := (0 : Int32)) dX12_fair_58 (by decide) rfl ?_
          exact ax_iret dX12_fair_59 rfl rfl rfl ⟨_, _, rfl, rfl, H⟩
      · have H := H.2 hc42
        refine ax_iconst (pc' := 46) (v := (1 : Int32)) dX12_fair_45 (by decide) rfl ?_
        refine ax_goto (tgt := 50) dX12_fair_46 (by decide) ?_
        refine ax_iconst (pc' := 51) (v := (2 : Int32)) dX12_fair_50 (by decide) rfl ?_
        refine ax_iconst (pc' := 52) (v := (1 : Int32)) dX12_fair_51 (by decide) rfl ?_
        refine ay_V3 (pc' := 55) (ce' := 0) (sl' := 0) (mc2 := 0) (ms2 := 0) (I2 := i_X12_bad) dX12_fair_52 ml_X12_183 sh_69 (by decide) rfl rfl rfl rfl rfl rfl rfl rfl rfl (ac_M.imp (o_X12_bad _ (1 : Int32) (2 : Int32) (1 : Int32) H) ?_)
        rintro _ _ ⟨r52, s52, rfl, rfl, H⟩
        refine ax_if_eq (pc' := 58) (tgt := 60) dX12_fair_55 (by decide) rfl (fun hc55 => ?_) (fun hc55 => ?_)
        · have H := H.1 hc55
          refine ax_aload_n (pc' := 61) dX12_fair_60 rfl rfl ?_
          refine ax_getR (pc' := 64) dX12_fair_61 fl_X12_43 sh_69 rfl rfl rfl ?_
          refine ax_iload_n (pc' := 65) dX12_fair_64 rfl rfl ?_
          obtain ⟨hj65, H⟩ := H
          refine ax_aald (pc' := 66) dX12_fair_65 sh_126 hj65 rfl rfl ?_
          refine ax_iload_n (pc' := 67) dX12_fair_66 rfl rfl ?_
          obtain ⟨hj67, H⟩ := H
          refine ax_iald (pc' := 68) dX12_fair_67 (sh_r_127 _ (ac_lt hj65)) hj67 (sh_n_127 _ (ac_lt hj65)) rfl ?_
          exact ax_iret dX12_fair_68 rfl rfl rfl ⟨_, _, rfl, rfl, H⟩
        · have H := H.2 hc55
          refine ax_iconst (pc' := 59) (v := (0 : Int32)) dX12_fair_58 (by decide) rfl ?_
          exact ax_iret dX12_fair_59 rfl rfl rfl ⟨_, _, rfl, rfl, H⟩
  · have H := H.2 hc19
    refine ax_iconst (pc' := 23) (v := (1 : Int32)) dX12_fair_22 (by decide) rfl ?_
    refine ax_goto (tgt := 27) dX12_fair_23 (by decide) ?_
    refine ax_iconst (pc' := 28) (v := (1 : Int32)) dX12_fair_27 (by decide) rfl ?_
    refine ax_iconst (pc' := 29) (v := (0 : Int32)) dX12_fair_28 (by decide) rfl ?_
    refine ay_V3 (pc' := 32) (ce' := 0) (sl' := 0) (mc2 := 0) (ms2 := 0) (I2 := i_X12_bad) dX12_fair_29 ml_X12_183 sh_69 (by decide) rfl rfl rfl rfl rfl rfl rfl rfl rfl (ac_M.imp (o_X12_bad _ (1 : Int32) (1 : Int32) (0 : Int32) H) ?_)
    rintro _ _ ⟨r29, s29, rfl, rfl, H⟩
    refine ax_if_ne (pc' := 35) (tgt := 58) dX12_fair_32 (by decide) rfl (fun hc32 => ?_) (fun hc32 => ?_)
    · have H := H.1 hc32
      refine ax_iconst (pc' := 59) (v := (0 : Int32)) dX12_fair_58 (by decide) rfl ?_
      exact ax_iret dX12_fair_59 rfl rfl rfl ⟨_, _, rfl, rfl, H⟩
    · have H := H.2 hc32
      refine ax_aload_n (pc' := 36) dX12_fair_35 rfl rfl ?_
      refine ax_iload_n (pc' := 37) dX12_fair_36 rfl rfl ?_
      refine ax_iconst (pc' := 38) (v := (0 : Int32)) dX12_fair_37 (by decide) rfl ?_
      refine ax_iconst (pc' := 39) (v := (2 : Int32)) dX12_fair_38 (by decide) rfl ?_
      refine ay_S3 (pc' := 42) (ce' := 0) (sl' := 0) (mc2 := 0) (ms2 := 0) (I2 := i_X12_in) dX12_fair_39 ml_X12_138 rfl rfl rfl rfl rfl rfl rfl rfl (ac_M.imp (o_X12_in _ p2 (0 : Int32) (2 : Int32) H) ?_)
      rintro _ _ ⟨r39, s39, rfl, rfl, H⟩
      refine ax_if_ne (pc' := 45) (tgt := 49) dX12_fair_42 (by decide) rfl (fun hc42 => ?_) (fun hc42 => ?_)
      · have H := H.1 hc42
        refine ax_iconst (pc' := 50) (v := (0 : Int32)) dX12_fair_49 (by decide) rfl ?_
        refine ax_iconst (pc' := 51) (v := (2 : Int32)) dX12_fair_50 (by decide) rfl ?_
        refine ax_iconst (pc' := 52) (v := (1 : Int32)) dX12_fair_51 (by decide) rfl ?_
        refine ay_V3 (pc' := 55) (ce' := 0) (sl' := 0) (mc2 := 0) (ms2 := 0) (I2 := i_X12_bad) dX12_fair_52 ml_X12_183 sh_69 (by decide) rfl rfl rfl rfl rfl rfl rfl rfl rfl (ac_M.imp (o_X12_bad _ (0 : Int32) (2 : Int32) (1 : Int32) H) ?_)
        rintro _ _ ⟨r52, s52, rfl, rfl, H⟩
        refine ax_if_eq (pc' := 58) (tgt := 60) dX12_fair_55 (by decide) rfl (fun hc55 => ?_) (fun hc55 => ?_)
        · have H := H.1 hc55
          refine ax_aload_n (pc' := 61) dX12_fair_60 rfl rfl ?_
          refine ax_getR (pc' := 64) dX12_fair_61 fl_X12_43 sh_69 rfl rfl rfl ?_
          refine ax_iload_n (pc' := 65) dX12_fair_64 rfl rfl ?_
          obtain ⟨hj65, H⟩ := H
          refine ax_aald (pc' := 66) dX12_fair_65 sh_126 hj65 rfl rfl ?_
          refine ax_iload_n (pc' := 67) dX12_fair_66 rfl rfl ?_
          obtain ⟨hj67, H⟩ := H
          refine ax_iald (pc' := 68) dX12_fair_67 (sh_r_127 _ (ac_lt hj65)) hj67 (sh_n_127 _ (ac_lt hj65)) rfl ?_
          exact ax_iret dX12_fair_68 rfl rfl rfl ⟨_, _, rfl, rfl, H⟩
        · have H := H.2 hc55
          refine ax_iconst (pc' := 59) (v := (0 : Int32)) dX12_fair_58 (by decide) rfl ?_
          exact ax_iret dX12_fair_59 rfl rfl rfl ⟨_, _, rfl, rfl, H⟩
      · have H := H.2 hc42
        refine ax_iconst (pc' := 46) (v := (1 : Int32)) dX12_fair_45 (by decide) rfl ?_
        refine ax_goto (tgt := 50) dX12_fair_46 (by decide) ?_
        refine ax_iconst (pc' := 51) (v := (2 : Int32)) dX12_fair_50 (by decide) rfl ?_
        refine ax_iconst (pc' := 52) (v := (1 : Int32)) dX12_fair_51 (by decide) rfl ?_
        refine ay_V3 (pc' := 55) (ce' := 0) (sl' := 0) (mc2 := 0) (ms2 := 0) (I2 := i_X12_bad) dX12_fair_52 ml_X12_183 sh_69 (by decide) rfl rfl rfl rfl rfl rfl rfl rfl rfl (ac_M.imp (o_X12_bad _ (1 : Int32) (2 : Int32) (1 : Int32) H) ?_)
        rintro _ _ ⟨r52, s52, rfl, rfl, H⟩
        refine ax_if_eq (pc' := 58) (tgt := 60) dX12_fair_55 (by decide) rfl (fun hc55 => ?_) (fun hc55 => ?_)
        · have H := H.1 hc55
          refine ax_aload_n (pc' := 61) dX12_fair_60 rfl rfl ?_
          refine ax_getR (pc' := 64) dX12_fair_61 fl_X12_43 sh_69 rfl rfl rfl ?_
          refine ax_iload_n (pc' := 65) dX12_fair_64 rfl rfl ?_
          obtain ⟨hj65, H⟩ := H
          refine ax_aald (pc' := 66) dX12_fair_65 sh_126 hj65 rfl rfl ?_
          refine ax_iload_n (pc' := 67) dX12_fair_66 rfl rfl ?_
          obtain ⟨hj67, H⟩ := H
          refine ax_iald (pc' := 68) dX12_fair_67 (sh_r_127 _ (ac_lt hj65)) hj67 (sh_n_127 _ (ac_lt hj65)) rfl ?_
          exact ax_iret dX12_fair_68 rfl rfl rfl ⟨_, _, rfl, rfl, H⟩
        · have H := H.2 hc55
          refine ax_iconst (pc' := 59) (v := (0 : Int32)) dX12_fair_58 (by decide) rfl ?_
          exact ax_iret dX12_fair_59 rfl rfl rfl ⟨_, _, rfl, rfl, H⟩
theorem o_X12_cool {g : ac_G} {τ : Nat → Nat → Int64} (d : Nat) (p1 : Int32) (p2 : Int32) {Q : Int32 → ac_m → Prop} {s : ac_m} (H : w_X12_cool p1 p2 Q s) : ac_M g i_X12_cool (d + 2) 0 0 [.ref 69, .int p1, .int p2] (false, 586, SH, s, τ) (liI τ Q) := by
  refine ac_ofX (by decide +kernel) rfl rfl rfl ?_
  refine ax_aload_n (pc' := 1) dX12_cool_0 rfl rfl ?_
  refine ax_iconst (pc' := 2) (v := (0 : Int32)) dX12_cool_1 (by decide) rfl ?_
  refine ax_putI (pc' := 5) dX12_cool_2 fp_X12_104 sh_69 rfl rfl rfl ?_
  refine ax_aload_n (pc' := 6) dX12_cool_5 rfl rfl ?_
  refine ax_aload_n (pc' := 7) dX12_cool_6 rfl rfl ?_
  refine ax_iload_n (pc' := 8) dX12_cool_7 rfl rfl ?_
  refine ay_V1 (pc' := 11) (ce' := 0) (sl' := 0) (mc2 := 0) (ms2 := 0) (I2 := i_X12_isFolk) dX12_cool_8 ml_X12_348 sh_69 (by decide) rfl rfl rfl rfl rfl rfl rfl rfl rfl (ac_M.imp (o_X12_isFolk _ p1 H) ?_)
  rintro _ _ ⟨r8, s8, rfl, rfl, H⟩
  refine ax_if_eq (pc' := 14) (tgt := 22) dX12_cool_11 (by decide) rfl (fun hc11 => ?_) (fun hc11 => ?_)
  · have H := H.1 hc11
    refine ax_iconst (pc' := 23) (v := (1 : Int32)) dX12_cool_22 (by decide) rfl ?_
    refine ax_goto (tgt := 27) dX12_cool_23 (by decide) ?_
    refine ax_iconst (pc' := 28) (v := (1 : Int32)) dX12_cool_27 (by decide) rfl ?_
    refine ax_iconst (pc' := 29) (v := (0 : Int32)) dX12_cool_28 (by decide) rfl ?_
    refine ay_V3 (pc' := 32) (ce' := 0) (sl' := 0) (mc2 := 0) (ms2 := 0) (I2 := i_X12_bad) dX12_cool_29 ml_X12_183 sh_69 (by decide) rfl rfl rfl rfl rfl rfl rfl rfl rfl (ac_M.imp (o_X12_bad _ (1 : Int32) (1 : Int32) (0 : Int32) H) ?_)
    rintro _ _ ⟨r29, s29, rfl, rfl, H⟩
    refine ax_if_eq (pc' := 35) (tgt := 37) dX12_cool_32 (by decide) rfl (fun hc32 => ?_) (fun hc32 => ?_)
    · have H := H.1 hc32
      refine ax_aload_n (pc' := 38) dX12_cool_37 rfl rfl ?_
      refine ax_getR (pc' := 41) dX12_cool_38 fl_X12_67 sh_69 rfl rfl rfl ?_
      refine ax_bipush (pc' := 43) (v := (45 : Int32)) dX12_cool_41 (by decide) rfl ?_
      refine ax_bipush (pc' := 45) (v := (6 : Int32)) dX12_cool_43 (by decide) rfl ?_
      refine ax_iload_n (pc' := 46) dX12_cool_45 rfl rfl ?_
      refine ax_imul (pc' := 47) dX12_cool_46 rfl ?_
      refine ax_iadd (pc' := 48) dX12_cool_47 rfl ?_
      refine ax_iload_n (pc' := 49) dX12_cool_48 rfl rfl ?_
      refine ax_iadd (pc' := 50) dX12_cool_49 rfl ?_
      obtain ⟨hj50, H⟩ := H
      refine ax_iald (pc' := 51) dX12_cool_50 sh_556 hj50 rfl rfl ?_
      exact ax_iret dX12_cool_51 rfl rfl rfl ⟨_, _, rfl, rfl, H⟩
    · have H := H.2 hc32
      refine ax_iconst (pc' := 36) (v := (0 : Int32)) dX12_cool_35 (by decide) rfl ?_
      exact ax_iret dX12_cool_36 rfl rfl rfl ⟨_, _, rfl, rfl, H⟩
  · have H := H.2 hc11
    refine ax_aload_n (pc' := 15) dX12_cool_14 rfl rfl ?_
    refine ax_iload_n (pc' := 16) dX12_cool_15 rfl rfl ?_
    refine ay_V1 (pc' := 19) (ce' := 0) (sl' := 0) (mc2 := 0) (ms2 := 0) (I2 := i_X12_isFolk) dX12_cool_16 ml_X12_348 sh_69 (by decide) rfl rfl rfl rfl rfl rfl rfl rfl rfl (ac_M.imp (o_X12_isFolk _ p2 H) ?_)
    rintro _ _ ⟨r16, s16, rfl, rfl, H⟩
    refine ax_if_ne (pc' := 22) (tgt := 26) dX12_cool_19 (by decide) rfl (fun hc19 => ?_) (fun hc19 => ?_)
    · have H := H.1 hc19
      refine ax_iconst (pc' := 27) (v := (0 : Int32)) dX12_cool_26 (by decide) rfl ?_
      refine ax_iconst (pc' := 28) (v := (1 : Int32)) dX12_cool_27 (by decide) rfl ?_
      refine ax_iconst (pc' := 29) (v := (0 : Int32)) dX12_cool_28 (by decide) rfl ?_
      refine ay_V3 (pc' := 32) (ce' := 0) (sl' := 0) (mc2 := 0) (ms2 := 0) (I2 := i_X12_bad) dX12_cool_29 ml_X12_183 sh_69 (by decide) rfl rfl rfl rfl rfl rfl rfl rfl rfl (ac_M.imp (o_X12_bad _ (0 : Int32) (1 : Int32) (0 : Int32) H) ?_)
      rintro _ _ ⟨r29, s29, rfl, rfl, H⟩
      refine ax_if_eq (pc' := 35) (tgt := 37) dX12_cool_32 (by decide) rfl (fun hc32 => ?_) (fun hc32 => ?_)
      · have H := H.1 hc32
        refine ax_aload_n (pc' := 38) dX12_cool_37 rfl rfl ?_
        refine ax_getR (pc' := 41) dX12_cool_38 fl_X12_67 sh_69 rfl rfl rfl ?_
        refine ax_bipush (pc' := 43) (v := (45 : Int32)) dX12_cool_41 (by decide) rfl ?_
        refine ax_bipush (pc' := 45) (v := (6 : Int32)) dX12_cool_43 (by decide) rfl ?_
        refine ax_iload_n (pc' := 46) dX12_cool_45 rfl rfl ?_
        refine ax_imul (pc' := 47) dX12_cool_46 rfl ?_
        refine ax_iadd (pc' := 48) dX12_cool_47 rfl ?_
        refine ax_iload_n (pc' := 49) dX12_cool_48 rfl rfl ?_
        refine ax_iadd (pc' := 50) dX12_cool_49 rfl ?_
        obtain ⟨hj50, H⟩ := H
        refine ax_iald (pc' := 51) dX12_cool_50 sh_556 hj50 rfl rfl ?_
        exact ax_iret dX12_cool_51 rfl rfl rfl ⟨_, _, rfl, rfl, H⟩
      · have H := H.2 hc32
        refine ax_iconst (pc' := 36) (v := (0 : Int32)) dX12_cool_35 (by decide) rfl ?_
        exact ax_iret dX12_cool_36 rfl rfl rfl ⟨_, _, rfl, rfl, H⟩
    · have H := H.2 hc19
      refine ax_iconst (pc' := 23) (v := (1 : Int32)) dX12_cool_22 (by decide) rfl ?_
      refine ax_goto (tgt := 27) dX12_cool_23 (by decide) ?_
      refine ax_iconst (pc' := 28) (v := (1 : Int32)) dX12_cool_27 (by decide) rfl ?_
      refine ax_iconst (pc' := 29) (v := (0 : Int32)) dX12_cool_28 (by decide) rfl ?_
      refine ay_V3 (pc' := 32) (ce' := 0) (sl' := 0) (mc2 := 0) (ms2 := 0) (I2 := i_X12_bad) dX12_cool_29 ml_X12_183 sh_69 (by decide) rfl rfl rfl rfl rfl rfl rfl rfl rfl (ac_M.imp (o_X12_bad _ (1 : Int32) (1 : Int32) (0 : Int32) H) ?_)
      rintro _ _ ⟨r29, s29, rfl, rfl, H⟩
      refine ax_if_eq (pc' := 35) (tgt := 37) dX12_cool_32 (by decide) rfl (fun hc32 => ?_) (fun hc32 => ?_)
      · have H := H.1 hc32
        refine ax_aload_n (pc' := 38) dX12_cool_37 rfl rfl ?_
        refine ax_getR (pc' := 41) dX12_cool_38 fl_X12_67 sh_69 rfl rfl rfl ?_
        refine ax_bipush (pc' := 43) (v := (45 : Int32)) dX12_cool_41 (by decide) rfl ?_
        refine ax_bipush (pc' := 45) (v := (6 : Int32)) dX12_cool_43 (by decide) rfl ?_
        refine ax_iload_n (pc' := 46) dX12_cool_45 rfl rfl ?_
        refine ax_imul (pc' := 47) dX12_cool_46 rfl ?_
        refine ax_iadd (pc' := 48) dX12_cool_47 rfl ?_
        refine ax_iload_n (pc' := 49) dX12_cool_48 rfl rfl ?_
        refine ax_iadd (pc' := 50) dX12_cool_49 rfl ?_
        obtain ⟨hj50, H⟩ := H
        refine ax_iald (pc' := 51) dX12_cool_50 sh_556 hj50 rfl rfl ?_
        exact ax_iret dX12_cool_51 rfl rfl rfl ⟨_, _, rfl, rfl, H⟩
      · have H := H.2 hc32
        refine ax_iconst (pc' := 36) (v := (0 : Int32)) dX12_cool_35 (by decide) rfl ?_
        exact ax_iret dX12_cool_36 rfl rfl rfl ⟨_, _, rfl, rfl, H⟩
theorem o_X12_would {g : ac_G} {τ : Nat → Nat → Int64} (d : Nat) (p1 : Int32) (p2 : Int32) (p3 : Int32) (p4 : Int32) (p5 : Int32) (p6 : Int32) (p7 : Int32) (p8 : Int32) {Q : Int32 → ac_m → Prop} {s : ac_m} (H : w_X12_would p1 p2 p3 p4 p5 p6 p7 p8 Q s) : ac_M g i_X12_would (d + 4) 0 0 [.ref 69, .int p1, .int p2, .int p3, .int p4, .int p5, .int p6, .int p7, .int p8] (false, 586, SH, s, τ) (liI τ Q) := by
  refine ac_ofX (by decide +kernel) rfl rfl rfl ?_
  refine ax_aload_n (pc' := 1) dX12_would_0 rfl rfl ?_
  refine ax_iconst (pc' := 2) (v := (0 : Int32)) dX12_would_1 (by decide) rfl ?_
  refine ax_putI (pc' := 5) dX12_would_2 fp_X12_104 sh_69 rfl rfl rfl ?_
  refine ax_aload_n (pc' := 6) dX12_would_5 rfl rfl ?_
  refine ax_iload_n (pc' := 7) dX12_would_6 rfl rfl ?_
  refine ax_iconst (pc' := 8) (v := (1 : Int32)) dX12_would_7 (by decide) rfl ?_
  refine ax_bipush (pc' := 10) (v := (30 : Int32)) dX12_would_8 (by decide) rfl ?_
  refine ay_S3 (pc' := 13) (ce' := 0) (sl' := 0) (mc2 := 0) (ms2 := 0) (I2 := i_X12_in) dX12_would_10 ml_X12_138 rfl rfl rfl rfl rfl rfl rfl rfl (ac_M.imp (o_X12_in _ p1 (1 : Int32) (30 : Int32) H) ?_)
  rintro _ _ ⟨r10, s10, rfl, rfl, H⟩
  refine ax_if_eq (pc' := 16) (tgt := 92) dX12_would_13 (by decide) rfl (fun hc13 => ?_) (fun hc13 => ?_)
  · have H := H.1 hc13
    refine ax_iconst (pc' := 93) (v := (1 : Int32)) dX12_would_92 (by decide) rfl ?_
    refine ax_goto (tgt := 97) dX12_would_93 (by decide) ?_
    refine ax_iconst (pc' := 98) (v := (1 : Int32)) dX12_would_97 (by decide) rfl ?_
    refine ax_iconst (pc' := 99) (v := (1 : Int32)) dX12_would_98 (by decide) rfl ?_
    refine ay_V3 (pc' := 102) (ce' := 0) (sl' := 0) (mc2 := 0) (ms2 := 0) (I2 := i_X12_bad) dX12_would_99 ml_X12_183 sh_69 (by decide) rfl rfl rfl rfl rfl rfl rfl rfl rfl (ac_M.imp (o_X12_bad _ (1 : Int32) (1 : Int32) (1 : Int32) H) ?_)
    rintro _ _ ⟨r99, s99, rfl, rfl, H⟩
    refine ax_if_eq (pc' := 105) (tgt := 107) dX12_would_102 (by decide) rfl (fun hc102 => ?_) (fun hc102 => ?_)
    · have H := H.1 hc102
      refine ax_aload_n (pc' := 108) dX12_would_107 rfl rfl ?_
      refine ax_iload_n (pc' := 109) dX12_would_108 rfl rfl ?_
      refine ax_iload_n (pc' := 110) dX12_would_109 rfl rfl ?_
      refine ax_iload_n (pc' := 111) dX12_would_110 rfl rfl ?_
      refine ax_iload (pc' := 113) dX12_would_111 rfl rfl ?_
      refine ax_iload (pc' := 115) dX12_would_113 rfl rfl ?_
      refine ax_iload (pc' := 117) dX12_would_115 rfl rfl ?_
      refine ax_iload (pc' := 119) dX12_would_117 rfl rfl ?_
      refine ax_iload (pc' := 121) dX12_would_119 rfl rfl ?_
      refine ay_V8 (pc' := 124) (ce' := 0) (sl' := 0) (mc2 := 0) (ms2 := 0) (I2 := i_X12_eatBy) dX12_would_121 ml_X12_287 sh_69 (by decide) rfl rfl rfl rfl rfl rfl rfl rfl rfl (ac_M.imp (o_X12_eatBy _ p1 p2 p3 p4 p5 p6 p7 p8 H) ?_)
      rintro _ _ ⟨r121, s121, rfl, rfl, H⟩
      exact ax_iret dX12_would_124 rfl rfl rfl ⟨_, _, rfl, rfl, H⟩
    · have H := H.2 hc102
      refine ax_iconst (pc' := 106) (v := (0 : Int32)) dX12_would_105 (by decide) rfl ?_
      exact ax_iret dX12_would_106 rfl rfl rfl ⟨_, _, rfl, rfl, H⟩
  · have H := H.2 hc13
    refine ax_iload_n (pc' := 17) dX12_would_16 rfl rfl ?_
    refine ax_iconst (pc' := 18) (v := (0 : Int32)) dX12_would_17 (by decide) rfl ?_
    refine ax_iconst (pc' := 19) (v := (5 : Int32)) dX12_would_18 (by decide) rfl ?_
    refine ay_S3 (pc' := 22) (ce' := 0) (sl' := 0) (mc2 := 0) (ms2 := 0) (I2 := i_X12_in) dX12_would_19 ml_X12_138 rfl rfl rfl rfl rfl rfl rfl rfl (ac_M.imp (o_X12_in _ p2 (0 : Int32) (5 : Int32) H) ?_)
    rintro _ _ ⟨r19, s19, rfl, rfl, H⟩
    refine ax_if_eq (pc' := 25) (tgt := 92) dX12_would_22 (by decide) rfl (fun hc22 => ?_) (fun hc22 => ?_)
    · have H := H.1 hc22
      refine ax_iconst (pc' := 93) (v := (1 : Int32)) dX12_would_92 (by decide) rfl ?_
      refine ax_goto (tgt := 97) dX12_would_93 (by decide) ?_
      refine ax_iconst (pc' := 98) (v := (1 : Int32)) dX12_would_97 (by decide) rfl ?_
      refine ax_iconst (pc' := 99) (v := (1 : Int32)) dX12_would_98 (by decide) rfl ?_
      refine ay_V3 (pc' := 102) (ce' := 0) (sl' := 0) (mc2 := 0) (ms2 := 0) (I2 := i_X12_bad) dX12_would_99 ml_X12_183 sh_69 (by decide) rfl rfl rfl rfl rfl rfl rfl rfl rfl (ac_M.imp (o_X12_bad _ (1 : Int32) (1 : Int32) (1 : Int32) H) ?_)
      rintro _ _ ⟨r99, s99, rfl, rfl, H⟩
      refine ax_if_eq (pc' := 105) (tgt := 107) dX12_would_102 (by decide) rfl (fun hc102 => ?_) (fun hc102 => ?_)
      · have H := H.1 hc102
        refine ax_aload_n (pc' := 108) dX12_would_107 rfl rfl ?_
        refine ax_iload_n (pc' := 109) dX12_would_108 rfl rfl ?_
        refine ax_iload_n (pc' := 110) dX12_would_109 rfl rfl ?_
        refine ax_iload_n (pc' := 111) dX12_would_110 rfl rfl ?_
        refine ax_iload (pc' := 113) dX12_would_111 rfl rfl ?_
        refine ax_iload (pc' := 115) dX12_would_113 rfl rfl ?_
        refine ax_iload (pc' := 117) dX12_would_115 rfl rfl ?_
        refine ax_iload (pc' := 119) dX12_would_117 rfl rfl ?_
        refine ax_iload (pc' := 121) dX12_would_119 rfl rfl ?_
        refine ay_V8 (pc' := 124) (ce' := 0) (sl' := 0) (mc2 := 0) (ms2 := 0) (I2 := i_X12_eatBy) dX12_would_121 ml_X12_287 sh_69 (by decide) rfl rfl rfl rfl rfl rfl rfl rfl rfl (ac_M.imp (o_X12_eatBy _ p1 p2 p3 p4 p5 p6 p7 p8 H) ?_)
        rintro _ _ ⟨r121, s121, rfl, rfl, H⟩
        exact ax_iret dX12_would_124 rfl rfl rfl ⟨_, _, rfl, rfl, H⟩
      · have H := H.2 hc102
        refine ax_iconst (pc' := 106) (v := (0 : Int32)) dX12_would_105 (by decide) rfl ?_
        exact ax_iret dX12_would_106 rfl rfl rfl ⟨_, _, rfl, rfl, H⟩
    · have H := H.2 hc22
      refine ax_iload_n (pc' := 26) dX12_would_25 rfl rfl ?_
      refine ax_iconst (pc' := 27) (v := (0 : Int32)) dX12_would_26 (by decide) rfl ?_
      refine ax_sipush (pc' := 30) (v := (999 : Int32)) dX12_would_27 (by decide) rfl ?_
      refine ay_S3 (pc' := 33) (ce' := 0) (sl' := 0) (mc2 := 0) (ms2 := 0) (I2 := i_X12_in) dX12_would_30 ml_X12_138 rfl rfl rfl rfl rfl rfl rfl rfl (ac_M.imp (o_X12_in _ p3 (0 : Int32) (999 : Int32) H) ?_)
      rintro _ _ ⟨r30, s30, rfl, rfl, H⟩
      refine ax_if_eq (pc' := 36) (tgt := 92) dX12_would_33 (by decide) rfl (fun hc33 => ?_) (fun hc33 => ?_)
      · have H := H.1 hc33
        refine ax_iconst (pc' := 93) (v := (1 : Int32)) dX12_would_92 (by decide) rfl ?_
        refine ax_goto (tgt := 97) dX12_would_93 (by decide) ?_
        refine ax_iconst (pc' := 98) (v := (1 : Int32)) dX12_would_97 (by decide) rfl ?_
        refine ax_iconst (pc' := 99) (v := (1 : Int32)) dX12_would_98 (by decide) rfl ?_
        refine ay_V3 (pc' := 102) (ce' := 0) (sl' := 0) (mc2 := 0) (ms2 := 0) (I2 := i_X12_bad) dX12_would_99 ml_X12_183 sh_69 (by decide) rfl rfl rfl rfl rfl rfl rfl rfl rfl (ac_M.imp (o_X12_bad _ (1 : Int32) (1 : Int32) (1 : Int32) H) ?_)
        rintro _ _ ⟨r99, s99, rfl, rfl, H⟩
        refine ax_if_eq (pc' := 105) (tgt := 107) dX12_would_102 (by decide) rfl (fun hc102 => ?_) (fun hc102 => ?_)
        · have H := H.1 hc102
          refine ax_aload_n (pc' := 108) dX12_would_107 rfl rfl ?_
          refine ax_iload_n (pc' := 109) dX12_would_108 rfl rfl ?_
          refine ax_iload_n (pc' := 110) dX12_would_109 rfl rfl ?_
          refine ax_iload_n (pc' := 111) dX12_would_110 rfl rfl ?_
          refine ax_iload (pc' := 113) dX12_would_111 rfl rfl ?_
          refine ax_iload (pc' := 115) dX12_would_113 rfl rfl ?_
          refine ax_iload (pc' := 117) dX12_would_115 rfl rfl ?_
          refine ax_iload (pc' := 119) dX12_would_117 rfl rfl ?_
          refine ax_iload (pc' := 121) dX12_would_119 rfl rfl ?_
          refine ay_V8 (pc' := 124) (ce' := 0) (sl' := 0) (mc2 := 0) (ms2 := 0) (I2 := i_X12_eatBy) dX12_would_121 ml_X12_287 sh_69 (by decide) rfl rfl rfl rfl rfl rfl rfl rfl rfl (ac_M.imp (o_X12_eatBy _ p1 p2 p3 p4 p5 p6 p7 p8 H) ?_)
          rintro _ _ ⟨r121, s121, rfl, rfl, H⟩
          exact ax_iret dX12_would_124 rfl rfl rfl ⟨_, _, rfl, rfl, H⟩
        · have H := H.2 hc102
          refine ax_iconst (pc' := 106) (v := (0 : Int32)) dX12_would_105 (by decide) rfl ?_
          exact ax_iret dX12_would_106 rfl rfl rfl ⟨_, _, rfl, rfl, H⟩
      · have H := H.2 hc33
        refine ax_iload (pc' := 38) dX12_would_36 rfl rfl ?_
        refine ax_iconst (pc' := 39) (v := (0 : Int32)) dX12_would_38 (by decide) rfl ?_
        refine ax_bipush (pc' := 41) (v := (99 : Int32)) dX12_would_39 (by decide) rfl ?_
        refine ay_S3 (pc' := 44) (ce' := 0) (sl' := 0) (mc2 := 0) (ms2 := 0) (I2 := i_X12_in) dX12_would_41 ml_X12_138 rfl rfl rfl rfl rfl rfl rfl rfl (ac_M.imp (o_X12_in _ p4 (0 : Int32) (99 : Int32) H) ?_)
        rintro _ _ ⟨r41, s41, rfl, rfl, H⟩
        refine ax_if_eq (pc' := 47) (tgt := 92) dX12_would_44 (by decide) rfl (fun hc44 => ?_) (fun hc44 => ?_)
        · have H := H.1 hc44
          refine ax_iconst (pc' := 93) (v := (1 : Int32)) dX12_would_92 (by decide) rfl ?_
          refine ax_goto (tgt := 97) dX12_would_93 (by decide) ?_
          refine ax_iconst (pc' := 98) (v := (1 : Int32)) dX12_would_97 (by decide) rfl ?_
          refine ax_iconst (pc' := 99) (v := (1 : Int32)) dX12_would_98 (by decide) rfl ?_
          refine ay_V3 (pc' := 102) (ce' := 0) (sl' := 0) (mc2 := 0) (ms2 := 0) (I2 := i_X12_bad) dX12_would_99 ml_X12_183 sh_69 (by decide) rfl rfl rfl rfl rfl rfl rfl rfl rfl (ac_M.imp (o_X12_bad _ (1 : Int32) (1 : Int32) (1 : Int32) H) ?_)
          rintro _ _ ⟨r99, s99, rfl, rfl, H⟩
          refine ax_if_eq (pc' := 105) (tgt := 107) dX12_would_102 (by decide) rfl (fun hc102 => ?_) (fun hc102 => ?_)
          · have H := H.1 hc102
            refine ax_aload_n (pc' := 108) dX12_would_107 rfl rfl ?_
            refine ax_iload_n (pc' := 109) dX12_would_108 rfl rfl ?_
            refine ax_iload_n (pc' := 110) dX12_would_109 rfl rfl ?_
            refine ax_iload_n (pc' := 111) dX12_would_110 rfl rfl ?_
            refine ax_iload (pc' := 113) dX12_would_111 rfl rfl ?_
            refine ax_iload (pc' := 115) dX12_would_113 rfl rfl ?_
            refine ax_iload (pc' := 117) dX12_would_115 rfl rfl ?_
            refine ax_iload (pc' := 119) dX12_would_117 rfl rfl ?_
            refine ax_iload (pc' := 121) dX12_would_119 rfl rfl ?_
            refine ay_V8 (pc' := 124) (ce' := 0) (sl' := 0) (mc2 := 0) (ms2 := 0) (I2 := i_X12_eatBy) dX12_would_121 ml_X12_287 sh_69 (by decide) rfl rfl rfl rfl rfl rfl rfl rfl rfl (ac_M.imp (o_X12_eatBy _ p1 p2 p3 p4 p5 p6 p7 p8 H) ?_)
            rintro _ _ ⟨r121, s121, rfl, rfl, H⟩
            exact ax_iret dX12_would_124 rfl rfl rfl ⟨_, _, rfl, rfl, H⟩
          · have H := H.2 hc102
            refine ax_iconst (pc' := 106) (v := (0 : Int32)) dX12_would_105 (by decide) rfl ?_
            exact ax_iret dX12_would_106 rfl rfl rfl ⟨_, _, rfl, rfl, H⟩
        · have H := H.2 hc44
          refine ax_iload (pc' := 49) dX12_would_47 rfl rfl ?_
          refine ax_iconst (pc' := 50) (v := (0 : Int32)) dX12_would_49 (by decide) rfl ?_
          refine ax_bipush (pc' := 52) (v := (12 : Int32)) dX12_would_50 (by decide) rfl ?_
          refine ay_S3 (pc' := 55) (ce' := 0) (sl' := 0) (mc2 := 0) (ms2 := 0) (I2 := i_X12_in) dX12_would_52 ml_X12_138 rfl rfl rfl rfl rfl rfl rfl rfl (ac_M.imp (o_X12_in _ p5 (0 : Int32) (12 : Int32) H) ?_)
          rintro _ _ ⟨r52, s52, rfl, rfl, H⟩
          refine ax_if_eq (pc' := 58) (tgt := 92) dX12_would_55 (by decide) rfl (fun hc55 => ?_) (fun hc55 => ?_)
          · have H := H.1 hc55
            refine ax_iconst (pc' := 93) (v := (1 : Int32)) dX12_would_92 (by decide) rfl ?_
            refine ax_goto (tgt := 97) dX12_would_93 (by decide) ?_
            refine ax_iconst (pc' := 98) (v := (1 : Int32)) dX12_would_97 (by decide) rfl ?_
            refine ax_iconst (pc' := 99) (v := (1 : Int32)) dX12_would_98 (by decide) rfl ?_
            refine ay_V3 (pc' := 102) (ce' := 0) (sl' := 0) (mc2 := 0) (ms2 := 0) (I2 := i_X12_bad) dX12_would_99 ml_X12_183 sh_69 (by decide) rfl rfl rfl rfl rfl rfl rfl rfl rfl (ac_M.imp (o_X12_bad _ (1 : Int32) (1 : Int32) (1 : Int32) H) ?_)
            rintro _ _ ⟨r99, s99, rfl, rfl, H⟩
            refine ax_if_eq (pc' := 105) (tgt := 107) dX12_would_102 (by decide) rfl (fun hc102 => ?_) (fun hc102 => ?_)
            · have H := H.1 hc102
              refine ax_aload_n (pc' := 108) dX12_would_107 rfl rfl ?_
              refine ax_iload_n (pc' := 109) dX12_would_108 rfl rfl ?_
              refine ax_iload_n (pc' := 110) dX12_would_109 rfl rfl ?_
              refine ax_iload_n (pc' := 111) dX12_would_110 rfl rfl ?_
              refine ax_iload (pc' := 113) dX12_would_111 rfl rfl ?_
              refine ax_iload (pc' := 115) dX12_would_113 rfl rfl ?_
              refine ax_iload (pc' := 117) dX12_would_115 rfl rfl ?_
              refine ax_iload (pc' := 119) dX12_would_117 rfl rfl ?_
              refine ax_iload (pc' := 121) dX12_would_119 rfl rfl ?_
              refine ay_V8 (pc' := 124) (ce' := 0) (sl' := 0) (mc2 := 0) (ms2 := 0) (I2 := i_X12_eatBy) dX12_would_121 ml_X12_287 sh_69 (by decide) rfl rfl rfl rfl rfl rfl rfl rfl rfl (ac_M.imp (o_X12_eatBy _ p1 p2 p3 p4 p5 p6 p7 p8 H) ?_)
              rintro _ _ ⟨r121, s121, rfl, rfl, H⟩
              exact ax_iret dX12_would_124 rfl rfl rfl ⟨_, _, rfl, rfl, H⟩
            · have H := H.2 hc102
              refine ax_iconst (pc' := 106) (v := (0 : Int32)) dX12_would_105 (by decide) rfl ?_
              exact ax_iret dX12_would_106 rfl rfl rfl ⟨_, _, rfl, rfl, H⟩
          · have H := H.2 hc55
            refine ax_iload (pc' := 60) dX12_would_58 rfl rfl ?_
            refine ax_iconst (pc' := 61) (v := (0 : Int32)) dX12_would_60 (by decide) rfl ?_
            refine ax_bipush (pc' := 63) (v := (9 : Int32)) dX12_would_61 (by decide) rfl ?_
            refine ay_S3 (pc' := 66) (ce' := 0) (sl' := 0) (mc2 := 0) (ms2 := 0) (I2 := i_X12_in) dX12_would_63 ml_X12_138 rfl rfl rfl rfl rfl rfl rfl rfl (ac_M.imp (o_X12_in _ p6 (0 : Int32) (9 : Int32) H) ?_)
            rintro _ _ ⟨r63, s63, rfl, rfl, H⟩
            refine ax_if_eq (pc' := 69) (tgt := 92) dX12_would_66 (by decide) rfl (fun hc66 => ?_) (fun hc66 => ?_)
            · have H := H.1 hc66
              refine ax_iconst (pc' := 93) (v := (1 : Int32)) dX12_would_92 (by decide) rfl ?_
              refine ax_goto (tgt := 97) dX12_would_93 (by decide) ?_
              refine ax_iconst (pc' := 98) (v := (1 : Int32)) dX12_would_97 (by decide) rfl ?_
              refine ax_iconst (pc' := 99) (v := (1 : Int32)) dX12_would_98 (by decide) rfl ?_
              refine ay_V3 (pc' := 102) (ce' := 0) (sl' := 0) (mc2 := 0) (ms2 := 0) (I2 := i_X12_bad) dX12_would_99 ml_X12_183 sh_69 (by decide) rfl rfl rfl rfl rfl rfl rfl rfl rfl (ac_M.imp (o_X12_bad _ (1 : Int32) (1 : Int32) (1 : Int32) H) ?_)
              rintro _ _ ⟨r99, s99, rfl, rfl, H⟩
              refine ax_if_eq (pc' := 105) (tgt := 107) dX12_would_102 (by decide) rfl (fun hc102 => ?_) (fun hc102 => ?_)
              · have H := H.1 hc102
                refine ax_aload_n (pc' := 108) dX12_would_107 rfl rfl ?_
                refine ax_iload_n (pc' := 109) dX12_would_108 rfl rfl ?_
                refine ax_iload_n (pc' := 110) dX12_would_109 rfl rfl ?_
                refine ax_iload_n (pc' := 111) dX12_would_110 rfl rfl ?_
                refine ax_iload (pc' := 113) dX12_would_111 rfl rfl ?_
                refine ax_iload (pc' := 115) dX12_would_113 rfl rfl ?_
                refine ax_iload (pc' := 117) dX12_would_115 rfl rfl ?_
                refine ax_iload (pc' := 119) dX12_would_117 rfl rfl ?_
                refine ax_iload (pc' := 121) dX12_would_119 rfl rfl ?_
                refine ay_V8 (pc' := 124) (ce' := 0) (sl' := 0) (mc2 := 0) (ms2 := 0) (I2 := i_X12_eatBy) dX12_would_121 ml_X12_287 sh_69 (by decide) rfl rfl rfl rfl rfl rfl rfl rfl rfl (ac_M.imp (o_X12_eatBy _ p1 p2 p3 p4 p5 p6 p7 p8 H) ?_)
                rintro _ _ ⟨r121, s121, rfl, rfl, H⟩
                exact ax_iret dX12_would_124 rfl rfl rfl ⟨_, _, rfl, rfl, H⟩
              · have H := H.2 hc102
                refine ax_iconst (pc' := 106) (v := (0 : Int32)) dX12_would_105 (by decide) rfl ?_
                exact ax_iret dX12_would_106 rfl rfl rfl ⟨_, _, rfl, rfl, H⟩
            · have H := H.2 hc66
              refine ax_iload (pc' := 71) dX12_would_69 rfl rfl ?_
              refine ax_iconst (pc' := 72) (v := (0 : Int32)) dX12_would_71 (by decide) rfl ?_
              refine ax_sipush (pc' := 75) (v := (400 : Int32)) dX12_would_72 (by decide) rfl ?_
              refine ay_S3 (pc' := 78) (ce' := 0) (sl' := 0) (mc2 := 0) (ms2 := 0) (I2 := i_X12_in) dX12_would_75 ml_X12_138 rfl rfl rfl rfl rfl rfl rfl rfl (ac_M.imp (o_X12_in _ p7 (0 : Int32) (400 : Int32) H) ?_)
              rintro _ _ ⟨r75, s75, rfl, rfl, H⟩
              refine ax_if_eq (pc' := 81) (tgt := 92) dX12_would_78 (by decide) rfl (fun hc78 => ?_) (fun hc78 => ?_)
              · have H := H.1 hc78
                refine ax_iconst (pc' := 93) (v := (1 : Int32)) dX12_would_92 (by decide) rfl ?_
                refine ax_goto (tgt := 97) dX12_would_93 (by decide) ?_
                refine ax_iconst (pc' := 98) (v := (1 : Int32)) dX12_would_97 (by decide) rfl ?_
                refine ax_iconst (pc' := 99) (v := (1 : Int32)) dX12_would_98 (by decide) rfl ?_
                refine ay_V3 (pc' := 102) (ce' := 0) (sl' := 0) (mc2 := 0) (ms2 := 0) (I2 := i_X12_bad) dX12_would_99 ml_X12_183 sh_69 (by decide) rfl rfl rfl rfl rfl rfl rfl rfl rfl (ac_M.imp (o_X12_bad _ (1 : Int32) (1 : Int32) (1 : Int32) H) ?_)
                rintro _ _ ⟨r99, s99, rfl, rfl, H⟩
                refine ax_if_eq (pc' := 105) (tgt := 107) dX12_would_102 (by decide) rfl (fun hc102 => ?_) (fun hc102 => ?_)
                · have H := H.1 hc102
                  refine ax_aload_n (pc' := 108) dX12_would_107 rfl rfl ?_
                  refine ax_iload_n (pc' := 109) dX12_would_108 rfl rfl ?_
                  refine ax_iload_n (pc' := 110) dX12_would_109 rfl rfl ?_
                  refine ax_iload_n (pc' := 111) dX12_would_110 rfl rfl ?_
                  refine ax_iload (pc' := 113) dX12_would_111 rfl rfl ?_
                  refine ax_iload (pc' := 115) dX12_would_113 rfl rfl ?_
                  refine ax_iload (pc' := 117) dX12_would_115 rfl rfl ?_
                  refine ax_iload (pc' := 119) dX12_would_117 rfl rfl ?_
                  refine ax_iload (pc' := 121) dX12_would_119 rfl rfl ?_
                  refine ay_V8 (pc' := 124) (ce' := 0) (sl' := 0) (mc2 := 0) (ms2 := 0) (I2 := i_X12_eatBy) dX12_would_121 ml_X12_287 sh_69 (by decide) rfl rfl rfl rfl rfl rfl rfl rfl rfl (ac_M.imp (o_X12_eatBy _ p1 p2 p3 p4 p5 p6 p7 p8 H) ?_)
                  rintro _ _ ⟨r121, s121, rfl, rfl, H⟩
                  exact ax_iret dX12_would_124 rfl rfl rfl ⟨_, _, rfl, rfl, H⟩
                · have H := H.2 hc102
                  refine ax_iconst (pc' := 106) (v := (0 : Int32)) dX12_would_105 (by decide) rfl ?_
                  exact ax_iret dX12_would_106 rfl rfl rfl ⟨_, _, rfl, rfl, H⟩
              · have H := H.2 hc78
                refine ax_iload (pc' := 83) dX12_would_81 rfl rfl ?_
                refine ax_iconst (pc' := 84) (v := (0 : Int32)) dX12_would_83 (by decide) rfl ?_
                refine ax_bipush (pc' := 86) (v := (12 : Int32)) dX12_would_84 (by decide) rfl ?_
                refine ay_S3 (pc' := 89) (ce' := 0) (sl' := 0) (mc2 := 0) (ms2 := 0) (I2 := i_X12_in) dX12_would_86 ml_X12_138 rfl rfl rfl rfl rfl rfl rfl rfl (ac_M.imp (o_X12_in _ p8 (0 : Int32) (12 : Int32) H) ?_)
                rintro _ _ ⟨r86, s86, rfl, rfl, H⟩
                refine ax_if_ne (pc' := 92) (tgt := 96) dX12_would_89 (by decide) rfl (fun hc89 => ?_) (fun hc89 => ?_)
                · have H := H.1 hc89
                  refine ax_iconst (pc' := 97) (v := (0 : Int32)) dX12_would_96 (by decide) rfl ?_
                  refine ax_iconst (pc' := 98) (v := (1 : Int32)) dX12_would_97 (by decide) rfl ?_
                  refine ax_iconst (pc' := 99) (v := (1 : Int32)) dX12_would_98 (by decide) rfl ?_
                  refine ay_V3 (pc' := 102) (ce' := 0) (sl' := 0) (mc2 := 0) (ms2 := 0) (I2 := i_X12_bad) dX12_would_99 ml_X12_183 sh_69 (by decide) rfl rfl rfl rfl rfl rfl rfl rfl rfl (ac_M.imp (o_X12_bad _ (0 : Int32) (1 : Int32) (1 : Int32) H) ?_)
                  rintro _ _ ⟨r99, s99, rfl, rfl, H⟩
                  refine ax_if_eq (pc' := 105) (tgt := 107) dX12_would_102 (by decide) rfl (fun hc102 => ?_) (fun hc102 => ?_)
                  · have H := H.1 hc102
                    refine ax_aload_n (pc' := 108) dX12_would_107 rfl rfl ?_
                    refine ax_iload_n (pc' := 109) dX12_would_108 rfl rfl ?_
                    refine ax_iload_n (pc' := 110) dX12_would_109 rfl rfl ?_
                    refine ax_iload_n (pc' := 111) dX12_would_110 rfl rfl ?_
                    refine ax_iload (pc' := 113) dX12_would_111 rfl rfl ?_
                    refine ax_iload (pc' := 115) dX12_would_113 rfl rfl ?_
                    refine ax_iload (pc' := 117) dX12_would_115 rfl rfl ?_
                    refine ax_iload (pc' := 119) dX12_would_117 rfl rfl ?_
                    refine ax_iload (pc' := 121) dX12_would_119 rfl rfl ?_
                    refine ay_V8 (pc' := 124) (ce' := 0) (sl' := 0) (mc2 := 0) (ms2 := 0) (I2 := i_X12_eatBy) dX12_would_121 ml_X12_287 sh_69 (by decide) rfl rfl rfl rfl rfl rfl rfl rfl rfl (ac_M.imp (o_X12_eatBy _ p1 p2 p3 p4 p5 p6 p7 p8 H) ?_)
                    rintro _ _ ⟨r121, s121, rfl, rfl, H⟩
                    exact ax_iret dX12_would_124 rfl rfl rfl ⟨_, _, rfl, rfl, H⟩
                  · have H := H.2 hc102
                    refine ax_iconst (pc' := 106) (v := (0 : Int32)) dX12_would_105 (by decide) rfl ?_
                    exact ax_iret dX12_would_106 rfl rfl rfl ⟨_, _, rfl, rfl, H⟩
                · have H := H.2 hc89
                  refine ax_iconst (pc' := 93) (v := (1 : Int32)) dX12_would_92 (by decide) rfl ?_
                  refine ax_goto (tgt := 97) dX12_would_93 (by decide) ?_
                  refine ax_iconst (pc' := 98) (v := (1 : Int32)) dX12_would_97 (by decide) rfl ?_
                  refine ax_iconst (pc' := 99) (v := (1 : Int32)) dX12_would_98 (by decide) rfl ?_
                  refine ay_V3 (pc' := 102) (ce' := 0) (sl' := 0) (mc2 := 0) (ms2 := 0) (I2 := i_X12_bad) dX12_would_99 ml_X12_183 sh_69 (by decide) rfl rfl rfl rfl rfl rfl rfl rfl rfl (ac_M.imp (o_X12_bad _ (1 : Int32) (1 : Int32) (1 : Int32) H) ?_)
                  rintro _ _ ⟨r99, s99, rfl, rfl, H⟩
                  refine ax_if_eq (pc' := 105) (tgt := 107) dX12_would_102 (by decide) rfl (fun hc102 => ?_) (fun hc102 => ?_)
                  · have H := H.1 hc102
                    refine ax_aload_n (pc' := 108) dX12_would_107 rfl rfl ?_
                    refine ax_iload_n (pc' := 109) dX12_would_108 rfl rfl ?_
                    refine ax_iload_n (pc' := 110) dX12_would_109 rfl rfl ?_
                    refine ax_iload_n (pc' := 111) dX12_would_110 rfl rfl ?_
                    refine ax_iload (pc' := 113) dX12_would_111 rfl rfl ?_
                    refine ax_iload (pc' := 115) dX12_would_113 rfl rfl ?_
                    refine ax_iload (pc' := 117) dX12_would_115 rfl rfl ?_
                    refine ax_iload (pc' := 119) dX12_would_117 rfl rfl ?_
                    refine ax_iload (pc' := 121) dX12_would_119 rfl rfl ?_
                    refine ay_V8 (pc' := 124) (ce' := 0) (sl' := 0) (mc2 := 0) (ms2 := 0) (I2 := i_X12_eatBy) dX12_would_121 ml_X12_287 sh_69 (by decide) rfl rfl rfl rfl rfl rfl rfl rfl rfl (ac_M.imp (o_X12_eatBy _ p1 p2 p3 p4 p5 p6 p7 p8 H) ?_)
                    rintro _ _ ⟨r121, s121, rfl, rfl, H⟩
                    exact ax_iret dX12_would_124 rfl rfl rfl ⟨_, _, rfl, rfl, H⟩
                  · have H := H.2 hc102
                    refine ax_iconst (pc' := 106) (v := (0 : Int32)) dX12_would_105 (by decide) rfl ?_
                    exact ax_iret dX12_would_106 rfl rfl rfl ⟨_, _, rfl, rfl, H⟩
theorem ol_X12_ahead_53 {g : ac_G} {τ : Nat → Nat → Int64} (d : Nat) (p1 : Int32) (p2 : Int32) {Q : Int32 → ac_m → Prop}  (f1 : Int32) (f2 : Int32)  {x3 : Int32} {s : ac_m} (H : l_X12_ahead_53 p1 p2 Q  f1 f2  x3 s) : ac_X g i_X12_ahead (d + 6) 0 0 (liI τ Q) 0 0 53 [some (.ref 69), some (.int f1), some (.int f2), some (.int x3)] [] (false, 586, SH, s, τ) := by
  refine H (fun x3 s => ac_X g i_X12_ahead (d + 6) 0 0 (liI τ Q) 0 0 53 [some (.ref 69), some (.int f1), some (.int f2), some (.int x3)] [] (false, 586, SH, s, τ)) ?_
  intro x3 s H
  refine ax_iload_n (pc' := 54) dX12_ahead_53 rfl rfl ?_
  refine ax_iload_n (pc' := 55) dX12_ahead_54 rfl rfl ?_
  refine ax_icmp_ge (pc' := 58) (tgt := 72) dX12_ahead_55 (by decide) rfl (fun hc55 => ?_) (fun hc55 => ?_)
  · have H := H.1 hc55
    refine ax_iload_n (pc' := 73) dX12_ahead_72 rfl rfl ?_
    refine ax_if_ne (pc' := 76) (tgt := 87) dX12_ahead_73 (by decide) rfl (fun hc73 => ?_) (fun hc73 => ?_)
    · have H := H.1 hc73
      refine ax_iload_n (pc' := 88) dX12_ahead_87 rfl rfl ?_
      refine ax_iconst (pc' := 89) (v := (1 : Int32)) dX12_ahead_88 (by decide) rfl ?_
      refine ax_icmp_ne (pc' := 92) (tgt := 102) dX12_ahead_89 (by decide) rfl (fun hc89 => ?_) (fun hc89 => ?_)
      · have H := H.1 hc89
        refine ax_aload_n (pc' := 103) dX12_ahead_102 rfl rfl ?_
        refine ax_getR (pc' := 106) dX12_ahead_103 fl_X12_70 sh_69 rfl rfl rfl ?_
        refine ay_S1 (pc' := 109) (ce' := 0) (sl' := 0) (mc2 := 0) (ms2 := 0) (I2 := i_X12_weightIn) dX12_ahead_106 ml_X12_342 rfl rfl rfl rfl rfl rfl rfl rfl (ac_M.imp (o_X12_weightIn _ 557 sh_557 rfl H) ?_)
        rintro _ _ ⟨r106, s106, rfl, rfl, H⟩
        exact ax_iret dX12_ahead_109 rfl rfl rfl ⟨_, _, rfl, rfl, H⟩
      · have H := H.2 hc89
        refine ax_aload_n (pc' := 93) dX12_ahead_92 rfl rfl ?_
        refine ax_getR (pc' := 96) dX12_ahead_93 fl_X12_70 sh_69 rfl rfl rfl ?_
        refine ay_S1 (pc' := 99) (ce' := 0) (sl' := 0) (mc2 := 0) (ms2 := 0) (I2 := i_X12_there) dX12_ahead_96 ml_X12_335 rfl rfl rfl rfl rfl rfl rfl rfl (ac_M.imp (o_X12_there _ 557 sh_557 rfl H) ?_)
        rintro _ _ ⟨r96, s96, rfl, rfl, H⟩
        refine ax_goto (tgt := 109) dX12_ahead_99 (by decide) ?_
        exact ax_iret dX12_ahead_109 rfl rfl rfl ⟨_, _, rfl, rfl, H⟩
    · have H := H.2 hc73
      refine ax_aload_n (pc' := 77) dX12_ahead_76 rfl rfl ?_
      refine ax_aload_n (pc' := 78) dX12_ahead_77 rfl rfl ?_
      refine ax_getR (pc' := 81) dX12_ahead_78 fl_X12_70 sh_69 rfl rfl rfl ?_
      refine ay_V1 (pc' := 84) (ce' := 0) (sl' := 0) (mc2 := 0) (ms2 := 0) (I2 := i_X12_grassIn) dX12_ahead_81 ml_X12_339 sh_69 (by decide) rfl rfl rfl rfl rfl rfl rfl rfl rfl (ac_M.imp (o_X12_grassIn _ 557 sh_557 rfl H) ?_)
      rintro _ _ ⟨r81, s81, rfl, rfl, H⟩
      refine ax_goto (tgt := 109) dX12_ahead_84 (by decide) ?_
      exact ax_iret dX12_ahead_109 rfl rfl rfl ⟨_, _, rfl, rfl, H⟩
  · have H := H.2 hc55
    refine ax_aload_n (pc' := 59) dX12_ahead_58 rfl rfl ?_
    refine ax_aload_n (pc' := 60) dX12_ahead_59 rfl rfl ?_
    refine ax_getR (pc' := 63) dX12_ahead_60 fl_X12_70 sh_69 rfl rfl rfl ?_
    refine ay_V1 (pc' := 66) (ce' := 0) (sl' := 0) (mc2 := 0) (ms2 := 0) (I2 := i_X12_dayEnds) dX12_ahead_63 ml_X12_314 sh_69 (by decide) rfl rfl rfl rfl rfl rfl rfl rfl rfl (ac_M.imp (o_X12_dayEnds _ 557 sh_557 rfl H) ?_)
    rintro _ _ ⟨s63, rfl, rfl, H⟩
    refine ax_iinc (pc' := 69) (v := (x3 + (1 : Int32))) dX12_ahead_66 rfl rfl rfl rfl rfl ?_
    refine ax_goto (tgt := 53) dX12_ahead_69 (by decide) ?_
    exact H
theorem o_X12_ahead {g : ac_G} {τ : Nat → Nat → Int64} (d : Nat) (p1 : Int32) (p2 : Int32) {Q : Int32 → ac_m → Prop} {s : ac_m} (H : w_X12_ahead p1 p2 Q s) : ac_M g i_X12_ahead (d + 6) 0 0 [.ref 69, .int p1, .int p2] (false, 586, SH, s, τ) (liI τ Q) := by
  refine ac_ofX (by decide +kernel) rfl rfl rfl ?_
  refine ax_aload_n (pc' := 1) dX12_ahead_0 rfl rfl ?_
  refine ax_iconst (pc' := 2) (v := (0 : Int32)) dX12_ahead_1 (by decide) rfl ?_
  refine ax_putI (pc' := 5) dX12_ahead_2 fp_X12_104 sh_69 rfl rfl rfl ?_
  refine ax_aload_n (pc' := 6) dX12_ahead_5 rfl rfl ?_
  refine ax_iload_n (pc' := 7) dX12_ahead_6 rfl rfl ?_
  refine ax_iconst (pc' := 8) (v := (0 : Int32)) dX12_ahead_7 (by decide) rfl ?_
  refine ax_bipush (pc' := 10) (v := (99 : Int32)) dX12_ahead_8 (by decide) rfl ?_
  refine ay_S3 (pc' := 13) (ce' := 0) (sl' := 0) (mc2 := 0) (ms2 := 0) (I2 := i_X12_in) dX12_ahead_10 ml_X12_138 rfl rfl rfl rfl rfl rfl rfl rfl (ac_M.imp (o_X12_in _ p1 (0 : Int32) (99 : Int32) H) ?_)
  rintro _ _ ⟨r10, s10, rfl, rfl, H⟩
  refine ax_if_eq (pc' := 16) (tgt := 25) dX12_ahead_13 (by decide) rfl (fun hc13 => ?_) (fun hc13 => ?_)
  · have H := H.1 hc13
    refine ax_iconst (pc' := 26) (v := (1 : Int32)) dX12_ahead_25 (by decide) rfl ?_
    refine ax_goto (tgt := 30) dX12_ahead_26 (by decide) ?_
    refine ax_iconst (pc' := 31) (v := (1 : Int32)) dX12_ahead_30 (by decide) rfl ?_
    refine ax_iconst (pc' := 32) (v := (1 : Int32)) dX12_ahead_31 (by decide) rfl ?_
    refine ay_V3 (pc' := 35) (ce' := 0) (sl' := 0) (mc2 := 0) (ms2 := 0) (I2 := i_X12_bad) dX12_ahead_32 ml_X12_183 sh_69 (by decide) rfl rfl rfl rfl rfl rfl rfl rfl rfl (ac_M.imp (o_X12_bad _ (1 : Int32) (1 : Int32) (1 : Int32) H) ?_)
    rintro _ _ ⟨r32, s32, rfl, rfl, H⟩
    refine ax_if_eq (pc' := 38) (tgt := 40) dX12_ahead_35 (by decide) rfl (fun hc35 => ?_) (fun hc35 => ?_)
    · have H := H.1 hc35
      refine ax_aload_n (pc' := 41) dX12_ahead_40 rfl rfl ?_
      refine ax_getR (pc' := 44) dX12_ahead_41 fl_X12_67 sh_69 rfl rfl rfl ?_
      refine ax_aload_n (pc' := 45) dX12_ahead_44 rfl rfl ?_
      refine ax_getR (pc' := 48) dX12_ahead_45 fl_X12_70 sh_69 rfl rfl rfl ?_
      refine ay_S2 (pc' := 51) (ce' := 0) (sl' := 0) (mc2 := 0) (ms2 := 0) (I2 := i_X12_copies) dX12_ahead_48 ml_X12_331 rfl rfl rfl rfl rfl rfl rfl rfl (ac_M.imp (o_X12_copies _ 556 557 sh_556 rfl sh_557 rfl H) ?_)
      rintro _ _ ⟨s48, rfl, rfl, H⟩
      refine ax_iconst (pc' := 52) (v := (0 : Int32)) dX12_ahead_51 (by decide) rfl ?_
      refine ax_istore_n (pc' := 53) dX12_ahead_52 rfl rfl rfl ?_
      refine ol_X12_ahead_53 d p1 p2  _ _    H
    · have H := H.2 hc35
      refine ax_iconst (pc' := 39) (v := (0 : Int32)) dX12_ahead_38 (by decide) rfl ?_
      exact ax_iret dX12_ahead_39 rfl rfl rfl ⟨_, _, rfl, rfl, H⟩
  · have H := H.2 hc13
    refine ax_iload_n (pc' := 17) dX12_ahead_16 rfl rfl ?_
    refine ax_iconst (pc' := 18) (v := (0 : Int32)) dX12_ahead_17 (by decide) rfl ?_
    refine ax_iconst (pc' := 19) (v := (2 : Int32)) dX12_ahead_18 (by decide) rfl ?_
    refine ay_S3 (pc' := 22) (ce' := 0) (sl' := 0) (mc2 := 0) (ms2 := 0) (I2 := i_X12_in) dX12_ahead_19 ml_X12_138 rfl rfl rfl rfl rfl rfl rfl rfl (ac_M.imp (o_X12_in _ p2 (0 : Int32) (2 : Int32) H) ?_)
    rintro _ _ ⟨r19, s19, rfl, rfl, H⟩
    refine ax_if_ne (pc' := 25) (tgt := 29) dX12_ahead_22 (by decide) rfl (fun hc22 => ?_) (fun hc22 => ?_)
    · have H := H.1 hc22
      refine ax_iconst (pc' := 30) (v := (0 : Int32)) dX12_ahead_29 (by decide) rfl ?_
      refine ax_iconst (pc' := 31) (v := (1 : Int32)) dX12_ahead_30 (by decide) rfl ?_
      refine ax_iconst (pc' := 32) (v := (1 : Int32)) dX12_ahead_31 (by decide) rfl ?_
      refine ay_V3 (pc' := 35) (ce' := 0) (sl' := 0) (mc2 := 0) (ms2 := 0) (I2 := i_X12_bad) dX12_ahead_32 ml_X12_183 sh_69 (by decide) rfl rfl rfl rfl rfl rfl rfl rfl rfl (ac_M.imp (o_X12_bad _ (0 : Int32) (1 : Int32) (1 : Int32) H) ?_)
      rintro _ _ ⟨r32, s32, rfl, rfl, H⟩
      refine ax_if_eq (pc' := 38) (tgt := 40) dX12_ahead_35 (by decide) rfl (fun hc35 => ?_) (fun hc35 => ?_)
      · have H := H.1 hc35
        refine ax_aload_n (pc' := 41) dX12_ahead_40 rfl rfl ?_
        refine ax_getR (pc' := 44) dX12_ahead_41 fl_X12_67 sh_69 rfl rfl rfl ?_
        refine ax_aload_n (pc' := 45) dX12_ahead_44 rfl rfl ?_
        refine ax_getR (pc' := 48) dX12_ahead_45 fl_X12_70 sh_69 rfl rfl rfl ?_
        refine ay_S2 (pc' := 51) (ce' := 0) (sl' := 0) (mc2 := 0) (ms2 := 0) (I2 := i_X12_copies) dX12_ahead_48 ml_X12_331 rfl rfl rfl rfl rfl rfl rfl rfl (ac_M.imp (o_X12_copies _ 556 557 sh_556 rfl sh_557 rfl H) ?_)
        rintro _ _ ⟨s48, rfl, rfl, H⟩
        refine ax_iconst (pc' := 52) (v := (0 : Int32)) dX12_ahead_51 (by decide) rfl ?_
        refine ax_istore_n (pc' := 53) dX12_ahead_52 rfl rfl rfl ?_
        refine ol_X12_ahead_53 d p1 p2  _ _    H
      · have H := H.2 hc35
        refine ax_iconst (pc' := 39) (v := (0 : Int32)) dX12_ahead_38 (by decide) rfl ?_
        exact ax_iret dX12_ahead_39 rfl rfl rfl ⟨_, _, rfl, rfl, H⟩
    · have H := H.2 hc22
      refine ax_iconst (pc' := 26) (v := (1 : Int32)) dX12_ahead_25 (by decide) rfl ?_
      refine ax_goto (tgt := 30) dX12_ahead_26 (by decide) ?_
      refine ax_iconst (pc' := 31) (v := (1 : Int32)) dX12_ahead_30 (by decide) rfl ?_
      refine ax_iconst (pc' := 32) (v := (1 : Int32)) dX12_ahead_31 (by decide) rfl ?_
      refine ay_V3 (pc' := 35) (ce' := 0) (sl' := 0) (mc2 := 0) (ms2 := 0) (I2 := i_X12_bad) dX12_ahead_32 ml_X12_183 sh_69 (by decide) rfl rfl rfl rfl rfl rfl rfl rfl rfl (ac_M.imp (o_X12_bad _ (1 : Int32) (1 : Int32) (1 : Int32) H) ?_)
      rintro _ _ ⟨r32, s32, rfl, rfl, H⟩
      refine ax_if_eq (pc' := 38) (tgt := 40) dX12_ahead_35 (by decide) rfl (fun hc35 => ?_) (fun hc35 => ?_)
      · have H := H.1 hc35
        refine ax_aload_n (pc' := 41) dX12_ahead_40 rfl rfl ?_
        refine ax_getR (pc' := 44) dX12_ahead_41 fl_X12_67 sh_69 rfl rfl rfl ?_
        refine ax_aload_n (pc' := 45) dX12_ahead_44 rfl rfl ?_
        refine ax_getR (pc' := 48) dX12_ahead_45 fl_X12_70 sh_69 rfl rfl rfl ?_
        refine ay_S2 (pc' := 51) (ce' := 0) (sl' := 0) (mc2 := 0) (ms2 := 0) (I2 := i_X12_copies) dX12_ahead_48 ml_X12_331 rfl rfl rfl rfl rfl rfl rfl rfl (ac_M.imp (o_X12_copies _ 556 557 sh_556 rfl sh_557 rfl H) ?_)
        rintro _ _ ⟨s48, rfl, rfl, H⟩
        refine ax_iconst (pc' := 52) (v := (0 : Int32)) dX12_ahead_51 (by decide) rfl ?_
        refine ax_istore_n (pc' := 53) dX12_ahead_52 rfl rfl rfl ?_
        refine ol_X12_ahead_53 d p1 p2  _ _    H
      · have H := H.2 hc35
        refine ax_iconst (pc' := 39) (v := (0 : Int32)) dX12_ahead_38 (by decide) rfl ?_
        exact ax_iret dX12_ahead_39 rfl rfl rfl ⟨_, _, rfl, rfl, H⟩
theorem ol_X12_bare_42 {g : ac_G} {τ : Nat → Nat → Int64} (d : Nat) (p1 : Int32) {Q : Int32 → ac_m → Prop}  (f1 : Int32)  {x2 : Int32} {s : ac_m} (H : l_X12_bare_42 p1 Q  f1  x2 s) : ac_X g i_X12_bare (d + 6) 0 0 (liI τ Q) 0 0 42 [some (.ref 69), some (.int f1), some (.int x2)] [] (false, 586, SH, s, τ) := by
  refine H (fun x2 s => ac_X g i_X12_bare (d + 6) 0 0 (liI τ Q) 0 0 42 [some (.ref 69), some (.int f1), some (.int x2)] [] (false, 586, SH, s, τ)) ?_
  intro x2 s H
  refine ax_iload_n (pc' := 43) dX12_bare_42 rfl rfl ?_
  refine ax_bipush (pc' := 45) (v := (99 : Int32)) dX12_bare_43 (by decide) rfl ?_
  refine ax_icmp_gt (pc' := 48) (tgt := 76) dX12_bare_45 (by decide) rfl (fun hc45 => ?_) (fun hc45 => ?_)
  · have H := H.1 hc45
    refine ax_iconst (pc' := 77) (v := (-1 : Int32)) dX12_bare_76 (by decide) rfl ?_
    exact ax_iret dX12_bare_77 rfl rfl rfl ⟨_, _, rfl, rfl, H⟩
  · have H := H.2 hc45
    refine ax_aload_n (pc' := 49) dX12_bare_48 rfl rfl ?_
    refine ax_getR (pc' := 52) dX12_bare_49 fl_X12_70 sh_69 rfl rfl rfl ?_
    refine ax_bipush (pc' := 54) (v := (39 : Int32)) dX12_bare_52 (by decide) rfl ?_
    refine ax_iload_n (pc' := 55) dX12_bare_54 rfl rfl ?_
    refine ax_iadd (pc' := 56) dX12_bare_55 rfl ?_
    obtain ⟨hj56, H⟩ := H
    refine ax_iald (pc' := 57) dX12_bare_56 sh_557 hj56 rfl rfl ?_
    refine ax_if_ne (pc' := 60) (tgt := 62) dX12_bare_57 (by decide) rfl (fun hc57 => ?_) (fun hc57 => ?_)
    · have H := H.1 hc57
      refine ax_aload_n (pc' := 63) dX12_bare_62 rfl rfl ?_
      refine ax_aload_n (pc' := 64) dX12_bare_63 rfl rfl ?_
      refine ax_getR (pc' := 67) dX12_bare_64 fl_X12_70 sh_69 rfl rfl rfl ?_
      refine ay_V1 (pc' := 70) (ce' := 0) (sl' := 0) (mc2 := 0) (ms2 := 0) (I2 := i_X12_dayEnds) dX12_bare_67 ml_X12_314 sh_69 (by decide) rfl rfl rfl rfl rfl rfl rfl rfl rfl (ac_M.imp (o_X12_dayEnds _ 557 sh_557 rfl H) ?_)
      rintro _ _ ⟨s67, rfl, rfl, H⟩
      refine ax_iinc (pc' := 73) (v := (x2 + (1 : Int32))) dX12_bare_70 rfl rfl rfl rfl rfl ?_
      refine ax_goto (tgt := 42) dX12_bare_73 (by decide) ?_
      exact H
    · have H := H.2 hc57
      refine ax_iload_n (pc' := 61) dX12_bare_60 rfl rfl ?_
      exact ax_iret dX12_bare_61 rfl rfl rfl ⟨_, _, rfl, rfl, H⟩
theorem o_X12_bare {g : ac_G} {τ : Nat → Nat → Int64} (d : Nat) (p1 : Int32) {Q : Int32 → ac_m → Prop} {s : ac_m} (H : w_X12_bare p1 Q s) : ac_M g i_X12_bare (d + 6) 0 0 [.ref 69, .int p1] (false, 586, SH, s, τ) (liI τ Q) := by
  refine ac_ofX (by decide +kernel) rfl rfl rfl ?_
  refine ax_aload_n (pc' := 1) dX12_bare_0 rfl rfl ?_
  refine ax_iconst (pc' := 2) (v := (0 : Int32)) dX12_bare_1 (by decide) rfl ?_
  refine ax_putI (pc' := 5) dX12_bare_2 fp_X12_104 sh_69 rfl rfl rfl ?_
  refine ax_aload_n (pc' := 6) dX12_bare_5 rfl rfl ?_
  refine ax_aload_n (pc' := 7) dX12_bare_6 rfl rfl ?_
  refine ax_iload_n (pc' := 8) dX12_bare_7 rfl rfl ?_
  refine ay_V1 (pc' := 11) (ce' := 0) (sl' := 0) (mc2 := 0) (ms2 := 0) (I2 := i_X12_isFolk) dX12_bare_8 ml_X12_348 sh_69 (by decide) rfl rfl rfl rfl rfl rfl rfl rfl rfl (ac_M.imp (o_X12_isFolk _ p1 H) ?_)
  rintro _ _ ⟨r8, s8, rfl, rfl, H⟩
  refine ax_if_ne (pc' := 14) (tgt := 18) dX12_bare_11 (by decide) rfl (fun hc11 => ?_) (fun hc11 => ?_)
  · have H := H.1 hc11
    refine ax_iconst (pc' := 19) (v := (0 : Int32)) dX12_bare_18 (by decide) rfl ?_
    refine ax_iconst (pc' := 20) (v := (1 : Int32)) dX12_bare_19 (by decide) rfl ?_
    refine ax_iconst (pc' := 21) (v := (0 : Int32)) dX12_bare_20 (by decide) rfl ?_
    refine ay_V3 (pc' := 24) (ce' := 0) (sl' := 0) (mc2 := 0) (ms2 := 0) (I2 := i_X12_bad) dX12_bare_21 ml_X12_183 sh_69 (by decide) rfl rfl rfl rfl rfl rfl rfl rfl rfl (ac_M.imp (o_X12_bad _ (0 : Int32) (1 : Int32) (0 : Int32) H) ?_)
    rintro _ _ ⟨r21, s21, rfl, rfl, H⟩
    refine ax_if_eq (pc' := 27) (tgt := 29) dX12_bare_24 (by decide) rfl (fun hc24 => ?_) (fun hc24 => ?_)
    · have H := H.1 hc24
      refine ax_aload_n (pc' := 30) dX12_bare_29 rfl rfl ?_
      refine ax_getR (pc' := 33) dX12_bare_30 fl_X12_67 sh_69 rfl rfl rfl ?_
      refine ax_aload_n (pc' := 34) dX12_bare_33 rfl rfl ?_
      refine ax_getR (pc' := 37) dX12_bare_34 fl_X12_70 sh_69 rfl rfl rfl ?_
      refine ay_S2 (pc' := 40) (ce' := 0) (sl' := 0) (mc2 := 0) (ms2 := 0) (I2 := i_X12_copies) dX12_bare_37 ml_X12_331 rfl rfl rfl rfl rfl rfl rfl rfl (ac_M.imp (o_X12_copies _ 556 557 sh_556 rfl sh_557 rfl H) ?_)
      rintro _ _ ⟨s37, rfl, rfl, H⟩
      refine ax_iconst (pc' := 41) (v := (0 : Int32)) dX12_bare_40 (by decide) rfl ?_
      refine ax_istore_n (pc' := 42) dX12_bare_41 rfl rfl rfl ?_
      refine ol_X12_bare_42 d p1  _    H
    · have H := H.2 hc24
      refine ax_iconst (pc' := 28) (v := (0 : Int32)) dX12_bare_27 (by decide) rfl ?_
      exact ax_iret dX12_bare_28 rfl rfl rfl ⟨_, _, rfl, rfl, H⟩
  · have H := H.2 hc11
    refine ax_iconst (pc' := 15) (v := (1 : Int32)) dX12_bare_14 (by decide) rfl ?_
    refine ax_goto (tgt := 19) dX12_bare_15 (by decide) ?_
    refine ax_iconst (pc' := 20) (v := (1 : Int32)) dX12_bare_19 (by decide) rfl ?_
    refine ax_iconst (pc' := 21) (v := (0 : Int32)) dX12_bare_20 (by decide) rfl ?_
    refine ay_V3 (pc' := 24) (ce' := 0) (sl' := 0) (mc2 := 0) (ms2 := 0) (I2 := i_X12_bad) dX12_bare_21 ml_X12_183 sh_69 (by decide) rfl rfl rfl rfl rfl rfl rfl rfl rfl (ac_M.imp (o_X12_bad _ (1 : Int32) (1 : Int32) (0 : Int32) H) ?_)
    rintro _ _ ⟨r21, s21, rfl, rfl, H⟩
    refine ax_if_eq (pc' := 27) (tgt := 29) dX12_bare_24 (by decide) rfl (fun hc24 => ?_) (fun hc24 => ?_)
    · have H := H.1 hc24
      refine ax_aload_n (pc' := 30) dX12_bare_29 rfl rfl ?_
      refine ax_getR (pc' := 33) dX12_bare_30 fl_X12_67 sh_69 rfl rfl rfl ?_
      refine ax_aload_n (pc' := 34) dX12_bare_33 rfl rfl ?_
      refine ax_getR (pc' := 37) dX12_bare_34 fl_X12_70 sh_69 rfl rfl rfl ?_
      refine ay_S2 (pc' := 40) (ce' := 0) (sl' := 0) (mc2 := 0) (ms2 := 0) (I2 := i_X12_copies) dX12_bare_37 ml_X12_331 rfl rfl rfl rfl rfl rfl rfl rfl (ac_M.imp (o_X12_copies _ 556 557 sh_556 rfl sh_557 rfl H) ?_)
      rintro _ _ ⟨s37, rfl, rfl, H⟩
      refine ax_iconst (pc' := 41) (v := (0 : Int32)) dX12_bare_40 (by decide) rfl ?_
      refine ax_istore_n (pc' := 42) dX12_bare_41 rfl rfl rfl ?_
      refine ol_X12_bare_42 d p1  _    H
    · have H := H.2 hc24
      refine ax_iconst (pc' := 28) (v := (0 : Int32)) dX12_bare_27 (by decide) rfl ?_
      exact ax_iret dX12_bare_28 rfl rfl rfl ⟨_, _, rfl, rfl, H⟩
theorem o_X12_everyBeast {g : ac_G} {τ : Nat → Nat → Int64} (d : Nat)  {Q : Int32 → ac_m → Prop} {s : ac_m} (H : w_X12_everyBeast  Q s) : ac_M g i_X12_everyBeast d 0 0 [.ref 69] (false, 586, SH, s, τ) (liI τ Q) := by
  refine ac_ofX (by decide +kernel) rfl rfl rfl ?_
  refine ax_iconst (pc' := 1) (v := (1 : Int32)) dX12_everyBeast_0 (by decide) rfl ?_
  refine ax_aload_n (pc' := 2) dX12_everyBeast_1 rfl rfl ?_
  refine ax_getR (pc' := 5) dX12_everyBeast_2 fl_X12_23 sh_69 rfl rfl rfl ?_
  refine ax_iconst (pc' := 6) (v := (1 : Int32)) dX12_everyBeast_5 (by decide) rfl ?_
  refine ax_iald (pc' := 7) dX12_everyBeast_6 sh_73 (ac_in (by decide)) rfl rfl ?_
  refine ax_ishl (pc' := 8) dX12_everyBeast_7 rfl ?_
  refine ax_iconst (pc' := 9) (v := (1 : Int32)) dX12_everyBeast_8 (by decide) rfl ?_
  refine ax_isub (pc' := 10) dX12_everyBeast_9 rfl ?_
  exact ax_iret dX12_everyBeast_10 rfl rfl rfl ⟨_, _, rfl, rfl, H⟩
theorem ol_X12_isEven_86 {g : ac_G} {τ : Nat → Nat → Int64} (d : Nat) (p1 : Int32) {Q : Int32 → ac_m → Prop}    {x2 : Int32} {s : ac_m} (H : l_X12_isEven_86 p1 Q    x2 s) : ac_X g i_X12_isEven (d + 1) 0 0 (liI τ Q) 0 0 86 [some (.ref 69), none, some (.int x2)] [] (false, 586, SH, s, τ) := by
  refine H (fun x2 s => ac_X g i_X12_isEven (d + 1) 0 0 (liI τ Q) 0 0 86 [some (.ref 69), none, some (.int x2)] [] (false, 586, SH, s, τ)) ?_
  intro x2 s H
  refine ax_iload_n (pc' := 87) dX12_isEven_86 rfl rfl ?_
  refine ax_bipush (pc' := 89) (v := (6 : Int32)) dX12_isEven_87 (by decide) rfl ?_
  refine ax_icmp_ge (pc' := 92) (tgt := 109) dX12_isEven_89 (by decide) rfl (fun hc89 => ?_) (fun hc89 => ?_)
  · have H := H.1 hc89
    refine ax_iconst (pc' := 110) (v := (1 : Int32)) dX12_isEven_109 (by decide) rfl ?_
    exact ax_zret dX12_isEven_110 rfl rfl rfl rfl ⟨_, _, rfl, rfl, H⟩
  · have H := H.2 hc89
    refine ax_aload_n (pc' := 93) dX12_isEven_92 rfl rfl ?_
    refine ax_getR (pc' := 96) dX12_isEven_93 fl_X12_82 sh_69 rfl rfl rfl ?_
    refine ax_iload_n (pc' := 97) dX12_isEven_96 rfl rfl ?_
    obtain ⟨hj97, H⟩ := H
    refine ax_iald (pc' := 98) dX12_isEven_97 sh_580 hj97 rfl rfl ?_
    refine ax_if_eq (pc' := 101) (tgt := 103) dX12_isEven_98 (by decide) rfl (fun hc98 => ?_) (fun hc98 => ?_)
    · have H := H.1 hc98
      refine ax_iinc (pc' := 106) (v := (x2 + (1 : Int32))) dX12_isEven_103 rfl rfl rfl rfl rfl ?_
      refine ax_goto (tgt := 86) dX12_isEven_106 (by decide) ?_
      exact H
    · have H := H.2 hc98
      refine ax_iconst (pc' := 102) (v := (0 : Int32)) dX12_isEven_101 (by decide) rfl ?_
      exact ax_zret dX12_isEven_102 rfl rfl rfl rfl ⟨_, _, rfl, rfl, H⟩
theorem ol_X12_isEven_23 {g : ac_G} {τ : Nat → Nat → Int64} (d : Nat) (p1 : Int32) {Q : Int32 → ac_m → Prop}  (f1 : Int32)  {x2 : Int32} {s : ac_m} (H : l_X12_isEven_23 p1 Q  f1  x2 s) : ac_X g i_X12_isEven (d + 1) 0 0 (liI τ Q) 0 0 23 [some (.ref 69), some (.int f1), some (.int x2)] [] (false, 586, SH, s, τ) := by
  refine H (fun x2 s => ac_X g i_X12_isEven (d + 1) 0 0 (liI τ Q) 0 0 23 [some (.ref 69), some (.int f1), some (.int x2)] [] (false, 586, SH, s, τ)) ?_
  intro x2 s H
  refine ax_iload_n (pc' := 24) dX12_isEven_23 rfl rfl ?_
  refine ax_aload_n (pc' := 25) dX12_isEven_24 rfl rfl ?_
  refine ax_getR (pc' := 28) dX12_isEven_25 fl_X12_23 sh_69 rfl rfl rfl ?_
  refine ax_iconst (pc' := 29) (v := (1 : Int32)) dX12_isEven_28 (by decide) rfl ?_
  refine ax_iald (pc' := 30) dX12_isEven_29 sh_73 (ac_in (by decide)) rfl rfl ?_
  refine ax_icmp_ge (pc' := 33) (tgt := 84) dX12_isEven_30 (by decide) rfl (fun hc30 => ?_) (fun hc30 => ?_)
  · have H := H.1 hc30
    refine ax_iconst (pc' := 85) (v := (0 : Int32)) dX12_isEven_84 (by decide) rfl ?_
    refine ax_istore_n (pc' := 86) dX12_isEven_85 rfl rfl rfl ?_
    refine ax_drop 1 rfl ?_
    refine ol_X12_isEven_86 d p1      H
  · have H := H.2 hc30
    refine ax_iload_n (pc' := 34) dX12_isEven_33 rfl rfl ?_
    refine ax_iload_n (pc' := 35) dX12_isEven_34 rfl rfl ?_
    refine ay_S2 (pc' := 38) (ce' := 0) (sl' := 0) (mc2 := 0) (ms2 := 0) (I2 := i_X12_has) dX12_isEven_35 ml_X12_266 rfl rfl rfl rfl rfl rfl rfl rfl (ac_M.imp (o_X12_has _ f1 x2 H) ?_)
    rintro _ _ ⟨r35, s35, rfl, rfl, H⟩
    refine ax_if_ne (pc' := 41) (tgt := 44) dX12_isEven_38 (by decide) rfl (fun hc38 => ?_) (fun hc38 => ?_)
    · have H := H.1 hc38
      refine ax_aload_n (pc' := 45) dX12_isEven_44 rfl rfl ?_
      refine ax_getR (pc' := 48) dX12_isEven_45 fl_X12_82 sh_69 rfl rfl rfl ?_
      refine ax_aload_n (pc' := 49) dX12_isEven_48 rfl rfl ?_
      refine ax_getR (pc' := 52) dX12_isEven_49 fl_X12_37 sh_69 rfl rfl rfl ?_
      refine ax_iload_n (pc' := 53) dX12_isEven_52 rfl rfl ?_
      obtain ⟨hj53, H⟩ := H
      refine ax_aald (pc' := 54) dX12_isEven_53 sh_101 hj53 rfl rfl ?_
      refine ax_iconst (pc' := 55) (v := (0 : Int32)) dX12_isEven_54 (by decide) rfl ?_
      refine ax_iald (pc' := 56) dX12_isEven_55 (sh_r_102 _ (ac_lt hj53)) (ac_in (by decide)) (sh_n_102 _ (ac_lt hj53)) rfl ?_
      refine ax_dup2 (pc' := 57) dX12_isEven_56 rfl rfl rfl ?_
      obtain ⟨hj57, H⟩ := H
      refine ax_iald (pc' := 58) dX12_isEven_57 sh_580 hj57 rfl rfl ?_
      refine ax_iconst (pc' := 59) (v := (1 : Int32)) dX12_isEven_58 (by decide) rfl ?_
      refine ax_iadd (pc' := 60) dX12_isEven_59 rfl ?_
      obtain ⟨hj60, H⟩ := H
      refine ax_iast (pc' := 61) dX12_isEven_60 sh_580 hj60 rfl rfl ?_
      refine ax_aload_n (pc' := 62) dX12_isEven_61 rfl rfl ?_
      refine ax_getR (pc' := 65) dX12_isEven_62 fl_X12_82 sh_69 rfl rfl rfl ?_
      refine ax_aload_n (pc' := 66) dX12_isEven_65 rfl rfl ?_
      refine ax_getR (pc' := 69) dX12_isEven_66 fl_X12_37 sh_69 rfl rfl rfl ?_
      refine ax_iload_n (pc' := 70) dX12_isEven_69 rfl rfl ?_
      obtain ⟨hj70, H⟩ := H
      refine ax_aald (pc' := 71) dX12_isEven_70 sh_101 hj70 rfl rfl ?_
      refine ax_iconst (pc' := 72) (v := (1 : Int32)) dX12_isEven_71 (by decide) rfl ?_
      refine ax_iald (pc' := 73) dX12_isEven_72 (sh_r_102 _ (ac_lt hj70)) (ac_in (by decide)) (sh_n_102 _ (ac_lt hj70)) rfl ?_
      refine ax_dup2 (pc' := 74) dX12_isEven_73 rfl rfl rfl ?_
      obtain ⟨hj74, H⟩ := H
      refine ax_iald (pc' := 75) dX12_isEven_74 sh_580 hj74 rfl rfl ?_
      refine ax_iconst (pc' := 76) (v := (1 : Int32)) dX12_isEven_75 (by decide) rfl ?_
      refine ax_isub (pc' := 77) dX12_isEven_76 rfl ?_
      obtain ⟨hj77, H⟩ := H
      refine ax_iast (pc' := 78) dX12_isEven_77 sh_580 hj77 rfl rfl ?_
      refine ax_iinc (pc' := 81) (v := (x2 + (1 : Int32))) dX12_isEven_78 rfl rfl rfl rfl rfl ?_
      refine ax_goto (tgt := 23) dX12_isEven_81 (by decide) ?_
      exact H
    · have H := H.2 hc38
      refine ax_goto (tgt := 78) dX12_isEven_41 (by decide) ?_
      refine ax_iinc (pc' := 81) (v := (x2 + (1 : Int32))) dX12_isEven_78 rfl rfl rfl rfl rfl ?_
      refine ax_goto (tgt := 23) dX12_isEven_81 (by decide) ?_
      exact H
theorem ol_X12_isEven_2 {g : ac_G} {τ : Nat → Nat → Int64} (d : Nat) (p1 : Int32) {Q : Int32 → ac_m → Prop}  (f1 : Int32)  {x2 : Int32} {s : ac_m} (H : l_X12_isEven_2 p1 Q  f1  x2 s) : ac_X g i_X12_isEven (d + 1) 0 0 (liI τ Q) 0 0 2 [some (.ref 69), some (.int f1), some (.int x2)] [] (false, 586, SH, s, τ) := by
  refine H (fun x2 s => ac_X g i_X12_isEven (d + 1) 0 0 (liI τ Q) 0 0 2 [some (.ref 69), some (.int f1), some (.int x2)] [] (false, 586, SH, s, τ)) ?_
  intro x2 s H
  refine ax_iload_n (pc' := 3) dX12_isEven_2 rfl rfl ?_
  refine ax_bipush (pc' := 5) (v := (6 : Int32)) dX12_isEven_3 (by decide) rfl ?_
  refine ax_icmp_ge (pc' := 8) (tgt := 21) dX12_isEven_5 (by decide) rfl (fun hc5 => ?_) (fun hc5 => ?_)
  · have H := H.1 hc5
    refine ax_iconst (pc' := 22) (v := (0 : Int32)) dX12_isEven_21 (by decide) rfl ?_
    refine ax_istore_n (pc' := 23) dX12_isEven_22 rfl rfl rfl ?_
    refine ol_X12_isEven_23 d p1  _    H
  · have H := H.2 hc5
    refine ax_aload_n (pc' := 9) dX12_isEven_8 rfl rfl ?_
    refine ax_getR (pc' := 12) dX12_isEven_9 fl_X12_82 sh_69 rfl rfl rfl ?_
    refine ax_iload_n (pc' := 13) dX12_isEven_12 rfl rfl ?_
    refine ax_iconst (pc' := 14) (v := (0 : Int32)) dX12_isEven_13 (by decide) rfl ?_
    obtain ⟨hj14, H⟩ := H
    refine ax_iast (pc' := 15) dX12_isEven_14 sh_580 hj14 rfl rfl ?_
    refine ax_iinc (pc' := 18) (v := (x2 + (1 : Int32))) dX12_isEven_15 rfl rfl rfl rfl rfl ?_
    refine ax_goto (tgt := 2) dX12_isEven_18 (by decide) ?_
    exact H
theorem o_X12_isEven {g : ac_G} {τ : Nat → Nat → Int64} (d : Nat) (p1 : Int32) {Q : Int32 → ac_m → Prop} {s : ac_m} (H : w_X12_isEven p1 Q s) : ac_M g i_X12_isEven (d + 1) 0 0 [.ref 69, .int p1] (false, 586, SH, s, τ) (liI τ Q) := by
  refine ac_ofX (by decide +kernel) rfl rfl rfl ?_
  refine ax_iconst (pc' := 1) (v := (0 : Int32)) dX12_isEven_0 (by decide) rfl ?_
  refine ax_istore_n (pc' := 2) dX12_isEven_1 rfl rfl rfl ?_
  refine ol_X12_isEven_2 d p1  _    H
theorem ol_X12_cancel_17 {g : ac_G} {τ : Nat → Nat → Int64} (d : Nat)  {Q : Int32 → ac_m → Prop}  (f2 : Int32)  {x1 : Int32} {x3 : Int32} {s : ac_m} (H : l_X12_cancel_17  Q  f2  x1 x3 s) : ac_X g i_X12_cancel (d + 2) 0 0 (liI τ Q) 0 0 17 [some (.ref 69), some (.int x1), some (.int f2), some (.int x3)] [] (false, 586, SH, s, τ) := by
  refine H (fun x1 x3 s => ac_X g i_X12_cancel (d + 2) 0 0 (liI τ Q) 0 0 17 [some (.ref 69), some (.int x1), some (.int f2), some (.int x3)] [] (false, 586, SH, s, τ)) ?_
  intro x1 x3 s H
  refine ax_iload_n (pc' := 18) dX12_cancel_17 rfl rfl ?_
  refine ax_aload_n (pc' := 19) dX12_cancel_18 rfl rfl ?_
  refine ay_V0 (pc' := 22) (ce' := 0) (sl' := 0) (mc2 := 0) (ms2 := 0) (I2 := i_X12_everyBeast) dX12_cancel_19 ml_X12_357 sh_69 (by decide) rfl rfl rfl rfl rfl rfl rfl rfl rfl (ac_M.imp (o_X12_everyBeast _  H) ?_)
  rintro _ _ ⟨r19, s19, rfl, rfl, H⟩
  refine ax_icmp_gt (pc' := 25) (tgt := 64) dX12_cancel_22 (by decide) rfl (fun hc22 => ?_) (fun hc22 => ?_)
  · have H := H.1 hc22
    refine ax_iload_n (pc' := 65) dX12_cancel_64 rfl rfl ?_
    exact ax_iret dX12_cancel_65 rfl rfl rfl ⟨_, _, rfl, rfl, H⟩
  · have H := H.2 hc22
    refine ax_iload_n (pc' := 26) dX12_cancel_25 rfl rfl ?_
    refine ax_iload_n (pc' := 27) dX12_cancel_26 rfl rfl ?_
    refine ax_iconst (pc' := 28) (v := (-1 : Int32)) dX12_cancel_27 (by decide) rfl ?_
    refine ax_ixor (pc' := 29) dX12_cancel_28 rfl ?_
    refine ax_iand (pc' := 30) dX12_cancel_29 rfl ?_
    refine ax_if_ne (pc' := 33) (tgt := 56) dX12_cancel_30 (by decide) rfl (fun hc30 => ?_) (fun hc30 => ?_)
    · have H := H.1 hc30
      refine ax_iload_n (pc' := 57) dX12_cancel_56 rfl rfl ?_
      refine ax_istore_n (pc' := 58) dX12_cancel_57 rfl rfl rfl ?_
      refine ax_iinc (pc' := 61) (v := (x3 + (1 : Int32))) dX12_cancel_58 rfl rfl rfl rfl rfl ?_
      refine ax_goto (tgt := 17) dX12_cancel_61 (by decide) ?_
      exact H
    · have H := H.2 hc30
      refine ax_iload_n (pc' := 34) dX12_cancel_33 rfl rfl ?_
      refine ay_S1 (pc' := 37) (ce' := 0) (sl' := 0) (mc2 := 0) (ms2 := 0) (I2 := i_X12_ones) dX12_cancel_34 ml_X12_281 rfl rfl rfl rfl rfl rfl rfl rfl (ac_M.imp (o_X12_ones _ x3 H) ?_)
      rintro _ _ ⟨r34, s34, rfl, rfl, H⟩
      refine ax_iload_n (pc' := 38) dX12_cancel_37 rfl rfl ?_
      refine ay_S1 (pc' := 41) (ce' := 0) (sl' := 0) (mc2 := 0) (ms2 := 0) (I2 := i_X12_ones) dX12_cancel_38 ml_X12_281 rfl rfl rfl rfl rfl rfl rfl rfl (ac_M.imp (o_X12_ones _ x1 H) ?_)
      rintro _ _ ⟨r38, s38, rfl, rfl, H⟩
      refine ax_icmp_le (pc' := 44) (tgt := 56) dX12_cancel_41 (by decide) rfl (fun hc41 => ?_) (fun hc41 => ?_)
      · have H := H.1 hc41
        refine ax_iload_n (pc' := 57) dX12_cancel_56 rfl rfl ?_
        refine ax_istore_n (pc' := 58) dX12_cancel_57 rfl rfl rfl ?_
        refine ax_iinc (pc' := 61) (v := (x3 + (1 : Int32))) dX12_cancel_58 rfl rfl rfl rfl rfl ?_
        refine ax_goto (tgt := 17) dX12_cancel_61 (by decide) ?_
        exact H
      · have H := H.2 hc41
        refine ax_aload_n (pc' := 45) dX12_cancel_44 rfl rfl ?_
        refine ax_iload_n (pc' := 46) dX12_cancel_45 rfl rfl ?_
        refine ay_V1 (pc' := 49) (ce' := 0) (sl' := 0) (mc2 := 0) (ms2 := 0) (I2 := i_X12_isEven) dX12_cancel_46 ml_X12_360 sh_69 (by decide) rfl rfl rfl rfl rfl rfl rfl rfl rfl (ac_M.imp (o_X12_isEven _ x3 H) ?_)
        rintro _ _ ⟨r46, s46, rfl, rfl, H⟩
        refine ax_if_eq (pc' := 52) (tgt := 56) dX12_cancel_49 (by decide) rfl (fun hc49 => ?_) (fun hc49 => ?_)
        · have H := H.1 hc49
          refine ax_iload_n (pc' := 57) dX12_cancel_56 rfl rfl ?_
          refine ax_istore_n (pc' := 58) dX12_cancel_57 rfl rfl rfl ?_
          refine ax_iinc (pc' := 61) (v := (x3 + (1 : Int32))) dX12_cancel_58 rfl rfl rfl rfl rfl ?_
          refine ax_goto (tgt := 17) dX12_cancel_61 (by decide) ?_
          exact H
        · have H := H.2 hc49
          refine ax_iload_n (pc' := 53) dX12_cancel_52 rfl rfl ?_
          refine ax_goto (tgt := 57) dX12_cancel_53 (by decide) ?_
          refine ax_istore_n (pc' := 58) dX12_cancel_57 rfl rfl rfl ?_
          refine ax_iinc (pc' := 61) (v := (x3 + (1 : Int32))) dX12_cancel_58 rfl rfl rfl rfl rfl ?_
          refine ax_goto (tgt := 17) dX12_cancel_61 (by decide) ?_
          exact H
theorem o_X12_cancel {g : ac_G} {τ : Nat → Nat → Int64} (d : Nat)  {Q : Int32 → ac_m → Prop} {s : ac_m} (H : w_X12_cancel  Q s) : ac_M g i_X12_cancel (d + 2) 0 0 [.ref 69] (false, 586, SH, s, τ) (liI τ Q) := by
  refine ac_ofX (by decide +kernel) rfl rfl rfl ?_
  refine ax_aload_n (pc' := 1) dX12_cancel_0 rfl rfl ?_
  refine ax_iconst (pc' := 2) (v := (0 : Int32)) dX12_cancel_1 (by decide) rfl ?_
  refine ax_putI (pc' := 5) dX12_cancel_2 fp_X12_104 sh_69 rfl rfl rfl ?_
  refine ax_iconst (pc' := 6) (v := (0 : Int32)) dX12_cancel_5 (by decide) rfl ?_
  refine ax_istore_n (pc' := 7) dX12_cancel_6 rfl rfl rfl ?_
  refine ax_aload_n (pc' := 8) dX12_cancel_7 rfl rfl ?_
  refine ax_getR (pc' := 11) dX12_cancel_8 fl_X12_67 sh_69 rfl rfl rfl ?_
  refine ay_S1 (pc' := 14) (ce' := 0) (sl' := 0) (mc2 := 0) (ms2 := 0) (I2 := i_X12_there) dX12_cancel_11 ml_X12_335 rfl rfl rfl rfl rfl rfl rfl rfl (ac_M.imp (o_X12_there _ 556 sh_556 rfl H) ?_)
  rintro _ _ ⟨r11, s11, rfl, rfl, H⟩
  refine ax_istore_n (pc' := 15) dX12_cancel_14 rfl rfl rfl ?_
  refine ax_iconst (pc' := 16) (v := (1 : Int32)) dX12_cancel_15 (by decide) rfl ?_
  refine ax_istore_n (pc' := 17) dX12_cancel_16 rfl rfl rfl ?_
  refine ol_X12_cancel_17 d   _    H
theorem ol_X12_heavy_4 {g : ac_G} {τ : Nat → Nat → Int64} (d : Nat) (p1 : Int32) {Q : Int32 → ac_m → Prop}  (f1 : Int32)  {x2 : Int32} {x3 : Int32} {s : ac_m} (H : l_X12_heavy_4 p1 Q  f1  x2 x3 s) : ac_X g i_X12_heavy (d + 1) 0 0 (liI τ Q) 0 0 4 [some (.ref 69), some (.int f1), some (.int x2), some (.int x3)] [] (false, 586, SH, s, τ) := by
  refine H (fun x2 x3 s => ac_X g i_X12_heavy (d + 1) 0 0 (liI τ Q) 0 0 4 [some (.ref 69), some (.int f1), some (.int x2), some (.int x3)] [] (false, 586, SH, s, τ)) ?_
  intro x2 x3 s H
  refine ax_iload_n (pc' := 5) dX12_heavy_4 rfl rfl ?_
  refine ax_aload_n (pc' := 6) dX12_heavy_5 rfl rfl ?_
  refine ax_getR (pc' := 9) dX12_heavy_6 fl_X12_23 sh_69 rfl rfl rfl ?_
  refine ax_iconst (pc' := 10) (v := (1 : Int32)) dX12_heavy_9 (by decide) rfl ?_
  refine ax_iald (pc' := 11) dX12_heavy_10 sh_73 (ac_in (by decide)) rfl rfl ?_
  refine ax_icmp_ge (pc' := 14) (tgt := 43) dX12_heavy_11 (by decide) rfl (fun hc11 => ?_) (fun hc11 => ?_)
  · have H := H.1 hc11
    refine ax_iload_n (pc' := 44) dX12_heavy_43 rfl rfl ?_
    exact ax_iret dX12_heavy_44 rfl rfl rfl ⟨_, _, rfl, rfl, H⟩
  · have H := H.2 hc11
    refine ax_iload_n (pc' := 15) dX12_heavy_14 rfl rfl ?_
    refine ax_iload_n (pc' := 16) dX12_heavy_15 rfl rfl ?_
    refine ax_iload_n (pc' := 17) dX12_heavy_16 rfl rfl ?_
    refine ay_S2 (pc' := 20) (ce' := 0) (sl' := 0) (mc2 := 0) (ms2 := 0) (I2 := i_X12_has) dX12_heavy_17 ml_X12_266 rfl rfl rfl rfl rfl rfl rfl rfl (ac_M.imp (o_X12_has _ f1 x3 H) ?_)
    rintro _ _ ⟨r17, s17, rfl, rfl, H⟩
    refine ax_if_eq (pc' := 23) (tgt := 34) dX12_heavy_20 (by decide) rfl (fun hc20 => ?_) (fun hc20 => ?_)
    · have H := H.1 hc20
      refine ax_iconst (pc' := 35) (v := (0 : Int32)) dX12_heavy_34 (by decide) rfl ?_
      refine ax_iadd (pc' := 36) dX12_heavy_35 rfl ?_
      refine ax_istore_n (pc' := 37) dX12_heavy_36 rfl rfl rfl ?_
      refine ax_iinc (pc' := 40) (v := (x3 + (1 : Int32))) dX12_heavy_37 rfl rfl rfl rfl rfl ?_
      refine ax_goto (tgt := 4) dX12_heavy_40 (by decide) ?_
      exact H
    · have H := H.2 hc20
      refine ax_aload_n (pc' := 24) dX12_heavy_23 rfl rfl ?_
      refine ax_getR (pc' := 27) dX12_heavy_24 fl_X12_67 sh_69 rfl rfl rfl ?_
      refine ax_iconst (pc' := 28) (v := (0 : Int32)) dX12_heavy_27 (by decide) rfl ?_
      refine ax_iload_n (pc' := 29) dX12_heavy_28 rfl rfl ?_
      refine ax_iadd (pc' := 30) dX12_heavy_29 rfl ?_
      obtain ⟨hj30, H⟩ := H
      refine ax_iald (pc' := 31) dX12_heavy_30 sh_556 hj30 rfl rfl ?_
      refine ax_goto (tgt := 35) dX12_heavy_31 (by decide) ?_
      refine ax_iadd (pc' := 36) dX12_heavy_35 rfl ?_
      refine ax_istore_n (pc' := 37) dX12_heavy_36 rfl rfl rfl ?_
      refine ax_iinc (pc' := 40) (v := (x3 + (1 : Int32))) dX12_heavy_37 rfl rfl rfl rfl rfl ?_
      refine ax_goto (tgt := 4) dX12_heavy_40 (by decide) ?_
      exact H
theorem o_X12_heavy {g : ac_G} {τ : Nat → Nat → Int64} (d : Nat) (p1 : Int32) {Q : Int32 → ac_m → Prop} {s : ac_m} (H : w_X12_heavy p1 Q s) : ac_M g i_X12_heavy (d + 1) 0 0 [.ref 69, .int p1] (false, 586, SH, s, τ) (liI τ Q) := by
  refine ac_ofX (by decide +kernel) rfl rfl rfl ?_
  refine ax_iconst (pc' := 1) (v := (0 : Int32)) dX12_heavy_0 (by decide) rfl ?_
  refine ax_istore_n (pc' := 2) dX12_heavy_1 rfl rfl rfl ?_
  refine ax_iconst (pc' := 3) (v := (0 : Int32)) dX12_heavy_2 (by decide) rfl ?_
  refine ax_istore_n (pc' := 4) dX12_heavy_3 rfl rfl rfl ?_
  refine ol_X12_heavy_4 d p1  _    H
theorem ol_X12_laysEats_2 {g : ac_G} {τ : Nat → Nat → Int64} (d : Nat)  {Q : ac_m → Prop}    {x1 : Int32} {s : ac_m} (H : l_X12_laysEats_2  Q    x1 s) : ac_X g i_X12_laysEats (d + 5) 0 0 (liV τ Q) 0 0 2 [some (.ref 69), some (.int x1)] [] (false, 586, SH, s, τ) := by
  refine H (fun x1 s => ac_X g i_X12_laysEats (d + 5) 0 0 (liV τ Q) 0 0 2 [some (.ref 69), some (.int x1)] [] (false, 586, SH, s, τ)) ?_
  intro x1 s H
  refine ax_iload_n (pc' := 3) dX12_laysEats_2 rfl rfl ?_
  refine ax_bipush (pc' := 5) (v := (12 : Int32)) dX12_laysEats_3 (by decide) rfl ?_
  refine ax_icmp_gt (pc' := 8) (tgt := 29) dX12_laysEats_5 (by decide) rfl (fun hc5 => ?_) (fun hc5 => ?_)
  · have H := H.1 hc5
    exact ax_vret dX12_laysEats_29 rfl rfl rfl ⟨_, rfl, rfl, H⟩
  · have H := H.2 hc5
    refine ax_aload_n (pc' := 9) dX12_laysEats_8 rfl rfl ?_
    refine ax_getR (pc' := 12) dX12_laysEats_9 fl_X12_73 sh_69 rfl rfl rfl ?_
    refine ax_iload_n (pc' := 13) dX12_laysEats_12 rfl rfl ?_
    refine ax_aload_n (pc' := 14) dX12_laysEats_13 rfl rfl ?_
    refine ax_aload_n (pc' := 15) dX12_laysEats_14 rfl rfl ?_
    refine ax_getR (pc' := 18) dX12_laysEats_15 fl_X12_67 sh_69 rfl rfl rfl ?_
    refine ax_iload_n (pc' := 19) dX12_laysEats_18 rfl rfl ?_
    refine ay_V2 (pc' := 22) (ce' := 0) (sl' := 0) (mc2 := 0) (ms2 := 0) (I2 := i_X12_eatOf) dX12_laysEats_19 ml_X12_294 sh_69 (by decide) rfl rfl rfl rfl rfl rfl rfl rfl rfl (ac_M.imp (o_X12_eatOf _ 556 x1 sh_556 rfl H) ?_)
    rintro _ _ ⟨r19, s19, rfl, rfl, H⟩
    obtain ⟨hj22, H⟩ := H
    refine ax_iast (pc' := 23) dX12_laysEats_22 sh_558 hj22 rfl rfl ?_
    refine ax_iinc (pc' := 26) (v := (x1 + (1 : Int32))) dX12_laysEats_23 rfl rfl rfl rfl rfl ?_
    refine ax_goto (tgt := 2) dX12_laysEats_26 (by decide) ?_
    exact H
theorem o_X12_laysEats {g : ac_G} {τ : Nat → Nat → Int64} (d : Nat)  {Q : ac_m → Prop} {s : ac_m} (H : w_X12_laysEats  Q s) : ac_M g i_X12_laysEats (d + 5) 0 0 [.ref 69] (false, 586, SH, s, τ) (liV τ Q) := by
  refine ac_ofX (by decide +kernel) rfl rfl rfl ?_
  refine ax_iconst (pc' := 1) (v := (0 : Int32)) dX12_laysEats_0 (by decide) rfl ?_
  refine ax_istore_n (pc' := 2) dX12_laysEats_1 rfl rfl rfl ?_
  refine ol_X12_laysEats_2 d       H
theorem ol_X12_eatenBy_4 {g : ac_G} {τ : Nat → Nat → Int64} (d : Nat) (p1 : Int32) {Q : Int32 → ac_m → Prop}  (f1 : Int32)  {x2 : Int32} {x3 : Int32} {s : ac_m} (H : l_X12_eatenBy_4 p1 Q  f1  x2 x3 s) : ac_X g i_X12_eatenBy (d + 1) 0 0 (liI τ Q) 0 0 4 [some (.ref 69), some (.int f1), some (.int x2), some (.int x3)] [] (false, 586, SH, s, τ) := by
  refine H (fun x2 x3 s => ac_X g i_X12_eatenBy (d + 1) 0 0 (liI τ Q) 0 0 4 [some (.ref 69), some (.int f1), some (.int x2), some (.int x3)] [] (false, 586, SH, s, τ)) ?_
  intro x2 x3 s H
  refine ax_iload_n (pc' := 5) dX12_eatenBy_4 rfl rfl ?_
  refine ax_aload_n (pc' := 6) dX12_eatenBy_5 rfl rfl ?_
  refine ax_getR (pc' := 9) dX12_eatenBy_6 fl_X12_23 sh_69 rfl rfl rfl ?_
  refine ax_iconst (pc' := 10) (v := (1 : Int32)) dX12_eatenBy_9 (by decide) rfl ?_
  refine ax_iald (pc' := 11) dX12_eatenBy_10 sh_73 (ac_in (by decide)) rfl rfl ?_
  refine ax_icmp_ge (pc' := 14) (tgt := 41) dX12_eatenBy_11 (by decide) rfl (fun hc11 => ?_) (fun hc11 => ?_)
  · have H := H.1 hc11
    refine ax_iload_n (pc' := 42) dX12_eatenBy_41 rfl rfl ?_
    exact ax_iret dX12_eatenBy_42 rfl rfl rfl ⟨_, _, rfl, rfl, H⟩
  · have H := H.2 hc11
    refine ax_iload_n (pc' := 15) dX12_eatenBy_14 rfl rfl ?_
    refine ax_iload_n (pc' := 16) dX12_eatenBy_15 rfl rfl ?_
    refine ax_iload_n (pc' := 17) dX12_eatenBy_16 rfl rfl ?_
    refine ay_S2 (pc' := 20) (ce' := 0) (sl' := 0) (mc2 := 0) (ms2 := 0) (I2 := i_X12_has) dX12_eatenBy_17 ml_X12_266 rfl rfl rfl rfl rfl rfl rfl rfl (ac_M.imp (o_X12_has _ f1 x3 H) ?_)
    rintro _ _ ⟨r17, s17, rfl, rfl, H⟩
    refine ax_if_eq (pc' := 23) (tgt := 32) dX12_eatenBy_20 (by decide) rfl (fun hc20 => ?_) (fun hc20 => ?_)
    · have H := H.1 hc20
      refine ax_iconst (pc' := 33) (v := (0 : Int32)) dX12_eatenBy_32 (by decide) rfl ?_
      refine ax_iadd (pc' := 34) dX12_eatenBy_33 rfl ?_
      refine ax_istore_n (pc' := 35) dX12_eatenBy_34 rfl rfl rfl ?_
      refine ax_iinc (pc' := 38) (v := (x3 + (1 : Int32))) dX12_eatenBy_35 rfl rfl rfl rfl rfl ?_
      refine ax_goto (tgt := 4) dX12_eatenBy_38 (by decide) ?_
      exact H
    · have H := H.2 hc20
      refine ax_aload_n (pc' := 24) dX12_eatenBy_23 rfl rfl ?_
      refine ax_getR (pc' := 27) dX12_eatenBy_24 fl_X12_73 sh_69 rfl rfl rfl ?_
      refine ax_iload_n (pc' := 28) dX12_eatenBy_27 rfl rfl ?_
      obtain ⟨hj28, H⟩ := H
      refine ax_iald (pc' := 29) dX12_eatenBy_28 sh_558 hj28 rfl rfl ?_
      refine ax_goto (tgt := 33) dX12_eatenBy_29 (by decide) ?_
      refine ax_iadd (pc' := 34) dX12_eatenBy_33 rfl ?_
      refine ax_istore_n (pc' := 35) dX12_eatenBy_34 rfl rfl rfl ?_
      refine ax_iinc (pc' := 38) (v := (x3 + (1 : Int32))) dX12_eatenBy_35 rfl rfl rfl rfl rfl ?_
      refine ax_goto (tgt := 4) dX12_eatenBy_38 (by decide) ?_
      exact H
theorem o_X12_eatenBy {g : ac_G} {τ : Nat → Nat → Int64} (d : Nat) (p1 : Int32) {Q : Int32 → ac_m → Prop} {s : ac_m} (H : w_X12_eatenBy p1 Q s) : ac_M g i_X12_eatenBy (d + 1) 0 0 [.ref 69, .int p1] (false, 586, SH, s, τ) (liI τ Q) := by
  refine ac_ofX (by decide +kernel) rfl rfl rfl ?_
  refine ax_iconst (pc' := 1) (v := (0 : Int32)) dX12_eatenBy_0 (by decide) rfl ?_
  refine ax_istore_n (pc' := 2) dX12_eatenBy_1 rfl rfl rfl ?_
  refine ax_iconst (pc' := 3) (v := (0 : Int32)) dX12_eatenBy_2 (by decide) rfl ?_
  refine ax_istore_n (pc' := 4) dX12_eatenBy_3 rfl rfl rfl ?_
  refine ol_X12_eatenBy_4 d p1  _    H
theorem ol_X12_herd_70 {g : ac_G} {τ : Nat → Nat → Int64} (d : Nat) (p1 : Int32) (p2 : Int32) {Q : Int32 → ac_m → Prop}  (f1 : Int32) (f2 : Int32) (f4 : Int32)  {x3 : Int32} {x5 : Int32} {s : ac_m} (H : l_X12_herd_70 p1 p2 Q  f1 f2 f4  x3 x5 s) : ac_X g i_X12_herd (d + 6) 0 0 (liI τ Q) 0 0 70 [some (.ref 69), some (.int f1), some (.int f2), some (.int x3), some (.int f4), some (.int x5)] [] (false, 586, SH, s, τ) := by
  refine H (fun x3 x5 s => ac_X g i_X12_herd (d + 6) 0 0 (liI τ Q) 0 0 70 [some (.ref 69), some (.int f1), some (.int f2), some (.int x3), some (.int f4), some (.int x5)] [] (false, 586, SH, s, τ)) ?_
  intro x3 x5 s H
  refine ax_iload (pc' := 72) dX12_herd_70 rfl rfl ?_
  refine ax_aload_n (pc' := 73) dX12_herd_72 rfl rfl ?_
  refine ay_V0 (pc' := 76) (ce' := 0) (sl' := 0) (mc2 := 0) (ms2 := 0) (I2 := i_X12_everyBeast) dX12_herd_73 ml_X12_357 sh_69 (by decide) rfl rfl rfl rfl rfl rfl rfl rfl rfl (ac_M.imp (o_X12_everyBeast _  H) ?_)
  rintro _ _ ⟨r73, s73, rfl, rfl, H⟩
  refine ax_icmp_gt (pc' := 79) (tgt := 162) dX12_herd_76 (by decide) rfl (fun hc76 => ?_) (fun hc76 => ?_)
  · have H := H.1 hc76
    refine ax_iload_n (pc' := 163) dX12_herd_162 rfl rfl ?_
    refine ax_if_ne (pc' := 166) (tgt := 174) dX12_herd_163 (by decide) rfl (fun hc163 => ?_) (fun hc163 => ?_)
    · have H := H.1 hc163
      refine ax_iload_n (pc' := 175) dX12_herd_174 rfl rfl ?_
      exact ax_iret dX12_herd_175 rfl rfl rfl ⟨_, _, rfl, rfl, H⟩
    · have H := H.2 hc163
      refine ax_aload_n (pc' := 167) dX12_herd_166 rfl rfl ?_
      refine ax_iload_n (pc' := 168) dX12_herd_167 rfl rfl ?_
      refine ay_V1 (pc' := 171) (ce' := 0) (sl' := 0) (mc2 := 0) (ms2 := 0) (I2 := i_X12_heavy) dX12_herd_168 ml_X12_369 sh_69 (by decide) rfl rfl rfl rfl rfl rfl rfl rfl rfl (ac_M.imp (o_X12_heavy _ x3 H) ?_)
      rintro _ _ ⟨r168, s168, rfl, rfl, H⟩
      refine ax_goto (tgt := 175) dX12_herd_171 (by decide) ?_
      exact ax_iret dX12_herd_175 rfl rfl rfl ⟨_, _, rfl, rfl, H⟩
  · have H := H.2 hc76
    refine ax_iload (pc' := 81) dX12_herd_79 rfl rfl ?_
    refine ax_iload (pc' := 83) dX12_herd_81 rfl rfl ?_
    refine ax_iconst (pc' := 84) (v := (-1 : Int32)) dX12_herd_83 (by decide) rfl ?_
    refine ax_ixor (pc' := 85) dX12_herd_84 rfl ?_
    refine ax_iand (pc' := 86) dX12_herd_85 rfl ?_
    refine ax_if_ne (pc' := 89) (tgt := 156) dX12_herd_86 (by decide) rfl (fun hc86 => ?_) (fun hc86 => ?_)
    · have H := H.1 hc86
      refine ax_iinc (pc' := 159) (v := (x5 + (1 : Int32))) dX12_herd_156 rfl rfl rfl rfl rfl ?_
      refine ax_goto (tgt := 70) dX12_herd_159 (by decide) ?_
      exact H
    · have H := H.2 hc86
      refine ax_aload_n (pc' := 90) dX12_herd_89 rfl rfl ?_
      refine ax_iload (pc' := 92) dX12_herd_90 rfl rfl ?_
      refine ay_V1 (pc' := 95) (ce' := 0) (sl' := 0) (mc2 := 0) (ms2 := 0) (I2 := i_X12_eatenBy) dX12_herd_92 ml_X12_366 sh_69 (by decide) rfl rfl rfl rfl rfl rfl rfl rfl rfl (ac_M.imp (o_X12_eatenBy _ x5 H) ?_)
      rintro _ _ ⟨r92, s92, rfl, rfl, H⟩
      refine ax_aload_n (pc' := 96) dX12_herd_95 rfl rfl ?_
      refine ax_getR (pc' := 99) dX12_herd_96 fl_X12_67 sh_69 rfl rfl rfl ?_
      refine ax_bipush (pc' := 101) (v := (39 : Int32)) dX12_herd_99 (by decide) rfl ?_
      refine ax_iload_n (pc' := 102) dX12_herd_101 rfl rfl ?_
      refine ax_iadd (pc' := 103) dX12_herd_102 rfl ?_
      obtain ⟨hj103, H⟩ := H
      refine ax_iald (pc' := 104) dX12_herd_103 sh_556 hj103 rfl rfl ?_
      refine ax_icmp_le (pc' := 107) (tgt := 110) dX12_herd_104 (by decide) rfl (fun hc104 => ?_) (fun hc104 => ?_)
      · have H := H.1 hc104
        refine ax_aload_n (pc' := 111) dX12_herd_110 rfl rfl ?_
        refine ax_iload (pc' := 113) dX12_herd_111 rfl rfl ?_
        refine ay_V1 (pc' := 116) (ce' := 0) (sl' := 0) (mc2 := 0) (ms2 := 0) (I2 := i_X12_heavy) dX12_herd_113 ml_X12_369 sh_69 (by decide) rfl rfl rfl rfl rfl rfl rfl rfl rfl (ac_M.imp (o_X12_heavy _ x5 H) ?_)
        rintro _ _ ⟨r113, s113, rfl, rfl, H⟩
        refine ax_aload_n (pc' := 117) dX12_herd_116 rfl rfl ?_
        refine ax_iload_n (pc' := 118) dX12_herd_117 rfl rfl ?_
        refine ay_V1 (pc' := 121) (ce' := 0) (sl' := 0) (mc2 := 0) (ms2 := 0) (I2 := i_X12_heavy) dX12_herd_118 ml_X12_369 sh_69 (by decide) rfl rfl rfl rfl rfl rfl rfl rfl rfl (ac_M.imp (o_X12_heavy _ x3 H) ?_)
        rintro _ _ ⟨r118, s118, rfl, rfl, H⟩
        refine ax_icmp_lt (pc' := 124) (tgt := 156) dX12_herd_121 (by decide) rfl (fun hc121 => ?_) (fun hc121 => ?_)
        · have H := H.1 hc121
          refine ax_iinc (pc' := 159) (v := (x5 + (1 : Int32))) dX12_herd_156 rfl rfl rfl rfl rfl ?_
          refine ax_goto (tgt := 70) dX12_herd_159 (by decide) ?_
          exact H
        · have H := H.2 hc121
          refine ax_aload_n (pc' := 125) dX12_herd_124 rfl rfl ?_
          refine ax_iload (pc' := 127) dX12_herd_125 rfl rfl ?_
          refine ay_V1 (pc' := 130) (ce' := 0) (sl' := 0) (mc2 := 0) (ms2 := 0) (I2 := i_X12_heavy) dX12_herd_127 ml_X12_369 sh_69 (by decide) rfl rfl rfl rfl rfl rfl rfl rfl rfl (ac_M.imp (o_X12_heavy _ x5 H) ?_)
          rintro _ _ ⟨r127, s127, rfl, rfl, H⟩
          refine ax_aload_n (pc' := 131) dX12_herd_130 rfl rfl ?_
          refine ax_iload_n (pc' := 132) dX12_herd_131 rfl rfl ?_
          refine ay_V1 (pc' := 135) (ce' := 0) (sl' := 0) (mc2 := 0) (ms2 := 0) (I2 := i_X12_heavy) dX12_herd_132 ml_X12_369 sh_69 (by decide) rfl rfl rfl rfl rfl rfl rfl rfl rfl (ac_M.imp (o_X12_heavy _ x3 H) ?_)
          rintro _ _ ⟨r132, s132, rfl, rfl, H⟩
          refine ax_icmp_ne (pc' := 138) (tgt := 153) dX12_herd_135 (by decide) rfl (fun hc135 => ?_) (fun hc135 => ?_)
          · have H := H.1 hc135
            refine ax_iload (pc' := 155) dX12_herd_153 rfl rfl ?_
            refine ax_istore_n (pc' := 156) dX12_herd_155 rfl rfl rfl ?_
            refine ax_iinc (pc' := 159) (v := (x5 + (1 : Int32))) dX12_herd_156 rfl rfl rfl rfl rfl ?_
            refine ax_goto (tgt := 70) dX12_herd_159 (by decide) ?_
            exact H
          · have H := H.2 hc135
            refine ax_iload (pc' := 140) dX12_herd_138 rfl rfl ?_
            refine ay_S1 (pc' := 143) (ce' := 0) (sl' := 0) (mc2 := 0) (ms2 := 0) (I2 := i_X12_ones) dX12_herd_140 ml_X12_281 rfl rfl rfl rfl rfl rfl rfl rfl (ac_M.imp (o_X12_ones _ x5 H) ?_)
            rintro _ _ ⟨r140, s140, rfl, rfl, H⟩
            refine ax_iload_n (pc' := 144) dX12_herd_143 rfl rfl ?_
            refine ay_S1 (pc' := 147) (ce' := 0) (sl' := 0) (mc2 := 0) (ms2 := 0) (I2 := i_X12_ones) dX12_herd_144 ml_X12_281 rfl rfl rfl rfl rfl rfl rfl rfl (ac_M.imp (o_X12_ones _ x3 H) ?_)
            rintro _ _ ⟨r144, s144, rfl, rfl, H⟩
            refine ax_icmp_lt (pc' := 150) (tgt := 153) dX12_herd_147 (by decide) rfl (fun hc147 => ?_) (fun hc147 => ?_)
            · have H := H.1 hc147
              refine ax_iload (pc' := 155) dX12_herd_153 rfl rfl ?_
              refine ax_istore_n (pc' := 156) dX12_herd_155 rfl rfl rfl ?_
              refine ax_iinc (pc' := 159) (v := (x5 + (1 : Int32))) dX12_herd_156 rfl rfl rfl rfl rfl ?_
              refine ax_goto (tgt := 70) dX12_herd_159 (by decide) ?_
              exact H
            · have H := H.2 hc147
              refine ax_goto (tgt := 156) dX12_herd_150 (by decide) ?_
              refine ax_iinc (pc' := 159) (v := (x5 + (1 : Int32))) dX12_herd_156 rfl rfl rfl rfl rfl ?_
              refine ax_goto (tgt := 70) dX12_herd_159 (by decide) ?_
              exact H
      · have H := H.2 hc104
        refine ax_goto (tgt := 156) dX12_herd_107 (by decide) ?_
        refine ax_iinc (pc' := 159) (v := (x5 + (1 : Int32))) dX12_herd_156 rfl rfl rfl rfl rfl ?_
        refine ax_goto (tgt := 70) dX12_herd_159 (by decide) ?_
        exact H
theorem o_X12_herd {g : ac_G} {τ : Nat → Nat → Int64} (d : Nat) (p1 : Int32) (p2 : Int32) {Q : Int32 → ac_m → Prop} {s : ac_m} (H : w_X12_herd p1 p2 Q s) : ac_M g i_X12_herd (d + 6) 0 0 [.ref 69, .int p1, .int p2] (false, 586, SH, s, τ) (liI τ Q) := by
  refine ac_ofX (by decide +kernel) rfl rfl rfl ?_
  refine ax_aload_n (pc' := 1) dX12_herd_0 rfl rfl ?_
  refine ax_iconst (pc' := 2) (v := (0 : Int32)) dX12_herd_1 (by decide) rfl ?_
  refine ax_putI (pc' := 5) dX12_herd_2 fp_X12_104 sh_69 rfl rfl rfl ?_
  refine ax_aload_n (pc' := 6) dX12_herd_5 rfl rfl ?_
  refine ax_aload_n (pc' := 7) dX12_herd_6 rfl rfl ?_
  refine ax_iload_n (pc' := 8) dX12_herd_7 rfl rfl ?_
  refine ay_V1 (pc' := 11) (ce' := 0) (sl' := 0) (mc2 := 0) (ms2 := 0) (I2 := i_X12_isFolk) dX12_herd_8 ml_X12_348 sh_69 (by decide) rfl rfl rfl rfl rfl rfl rfl rfl rfl (ac_M.imp (o_X12_isFolk _ p1 H) ?_)
  rintro _ _ ⟨r8, s8, rfl, rfl, H⟩
  refine ax_if_ne (pc' := 14) (tgt := 18) dX12_herd_11 (by decide) rfl (fun hc11 => ?_) (fun hc11 => ?_)
  · have H := H.1 hc11
    refine ax_iconst (pc' := 19) (v := (0 : Int32)) dX12_herd_18 (by decide) rfl ?_
    refine ax_iconst (pc' := 20) (v := (1 : Int32)) dX12_herd_19 (by decide) rfl ?_
    refine ax_iconst (pc' := 21) (v := (0 : Int32)) dX12_herd_20 (by decide) rfl ?_
    refine ay_V3 (pc' := 24) (ce' := 0) (sl' := 0) (mc2 := 0) (ms2 := 0) (I2 := i_X12_bad) dX12_herd_21 ml_X12_183 sh_69 (by decide) rfl rfl rfl rfl rfl rfl rfl rfl rfl (ac_M.imp (o_X12_bad _ (0 : Int32) (1 : Int32) (0 : Int32) H) ?_)
    rintro _ _ ⟨r21, s21, rfl, rfl, H⟩
    refine ax_if_ne (pc' := 27) (tgt := 50) dX12_herd_24 (by decide) rfl (fun hc24 => ?_) (fun hc24 => ?_)
    · have H := H.1 hc24
      refine ax_iconst (pc' := 51) (v := (0 : Int32)) dX12_herd_50 (by decide) rfl ?_
      exact ax_iret dX12_herd_51 rfl rfl rfl ⟨_, _, rfl, rfl, H⟩
    · have H := H.2 hc24
      refine ax_aload_n (pc' := 28) dX12_herd_27 rfl rfl ?_
      refine ax_iload_n (pc' := 29) dX12_herd_28 rfl rfl ?_
      refine ax_iconst (pc' := 30) (v := (0 : Int32)) dX12_herd_29 (by decide) rfl ?_
      refine ax_iconst (pc' := 31) (v := (1 : Int32)) dX12_herd_30 (by decide) rfl ?_
      refine ay_S3 (pc' := 34) (ce' := 0) (sl' := 0) (mc2 := 0) (ms2 := 0) (I2 := i_X12_in) dX12_herd_31 ml_X12_138 rfl rfl rfl rfl rfl rfl rfl rfl (ac_M.imp (o_X12_in _ p2 (0 : Int32) (1 : Int32) H) ?_)
      rintro _ _ ⟨r31, s31, rfl, rfl, H⟩
      refine ax_if_ne (pc' := 37) (tgt := 41) dX12_herd_34 (by decide) rfl (fun hc34 => ?_) (fun hc34 => ?_)
      · have H := H.1 hc34
        refine ax_iconst (pc' := 42) (v := (0 : Int32)) dX12_herd_41 (by decide) rfl ?_
        refine ax_iconst (pc' := 43) (v := (2 : Int32)) dX12_herd_42 (by decide) rfl ?_
        refine ax_iconst (pc' := 44) (v := (1 : Int32)) dX12_herd_43 (by decide) rfl ?_
        refine ay_V3 (pc' := 47) (ce' := 0) (sl' := 0) (mc2 := 0) (ms2 := 0) (I2 := i_X12_bad) dX12_herd_44 ml_X12_183 sh_69 (by decide) rfl rfl rfl rfl rfl rfl rfl rfl rfl (ac_M.imp (o_X12_bad _ (0 : Int32) (2 : Int32) (1 : Int32) H) ?_)
        rintro _ _ ⟨r44, s44, rfl, rfl, H⟩
        refine ax_if_eq (pc' := 50) (tgt := 52) dX12_herd_47 (by decide) rfl (fun hc47 => ?_) (fun hc47 => ?_)
        · have H := H.1 hc47
          refine ax_iconst (pc' := 53) (v := (0 : Int32)) dX12_herd_52 (by decide) rfl ?_
          refine ax_istore_n (pc' := 54) dX12_herd_53 rfl rfl rfl ?_
          refine ax_aload_n (pc' := 55) dX12_herd_54 rfl rfl ?_
          refine ax_getR (pc' := 58) dX12_herd_55 fl_X12_67 sh_69 rfl rfl rfl ?_
          refine ay_S1 (pc' := 61) (ce' := 0) (sl' := 0) (mc2 := 0) (ms2 := 0) (I2 := i_X12_there) dX12_herd_58 ml_X12_335 rfl rfl rfl rfl rfl rfl rfl rfl (ac_M.imp (o_X12_there _ 556 sh_556 rfl H) ?_)
          rintro _ _ ⟨r58, s58, rfl, rfl, H⟩
          refine ax_istore (pc' := 63) dX12_herd_61 rfl rfl rfl ?_
          refine ax_aload_n (pc' := 64) dX12_herd_63 rfl rfl ?_
          refine ay_V0 (pc' := 67) (ce' := 0) (sl' := 0) (mc2 := 0) (ms2 := 0) (I2 := i_X12_laysEats) dX12_herd_64 ml_X12_363 sh_69 (by decide) rfl rfl rfl rfl rfl rfl rfl rfl rfl (ac_M.imp (o_X12_laysEats _  H) ?_)
          rintro _ _ ⟨s64, rfl, rfl, H⟩
          refine ax_iconst (pc' := 68) (v := (1 : Int32)) dX12_herd_67 (by decide) rfl ?_
          refine ax_istore (pc' := 70) dX12_herd_68 rfl rfl rfl ?_
          refine ol_X12_herd_70 d p1 p2  _ _ _    H
        · have H := H.2 hc47
          refine ax_iconst (pc' := 51) (v := (0 : Int32)) dX12_herd_50 (by decide) rfl ?_
          exact ax_iret dX12_herd_51 rfl rfl rfl ⟨_, _, rfl, rfl, H⟩
      · have H := H.2 hc34
        refine ax_iconst (pc' := 38) (v := (1 : Int32)) dX12_herd_37 (by decide) rfl ?_
        refine ax_goto (tgt := 42) dX12_herd_38 (by decide) ?_
        refine ax_iconst (pc' := 43) (v := (2 : Int32)) dX12_herd_42 (by decide) rfl ?_
        refine ax_iconst (pc' := 44) (v := (1 : Int32)) dX12_herd_43 (by decide) rfl ?_
        refine ay_V3 (pc' := 47) (ce' := 0) (sl' := 0) (mc2 := 0) (ms2 := 0) (I2 := i_X12_bad) dX12_herd_44 ml_X12_183 sh_69 (by decide) rfl rfl rfl rfl rfl rfl rfl rfl rfl (ac_M.imp (o_X12_bad _ (1 : Int32) (2 : Int32) (1 : Int32) H) ?_)
        rintro _ _ ⟨r44, s44, rfl, rfl, H⟩
        refine ax_if_eq (pc' := 50) (tgt := 52) dX12_herd_47 (by decide) rfl (fun hc47 => ?_) (fun hc47 => ?_)
        · have H := H.1 hc47
          refine ax_iconst (pc' := 53) (v := (0 : Int32)) dX12_herd_52 (by decide) rfl ?_
          refine ax_istore_n (pc' := 54) dX12_herd_53 rfl rfl rfl ?_
          refine ax_aload_n (pc' := 55) dX12_herd_54 rfl rfl ?_
          refine ax_getR (pc' := 58) dX12_herd_55 fl_X12_67 sh_69 rfl rfl rfl ?_
          refine ay_S1 (pc' := 61) (ce' := 0) (sl' := 0) (mc2 := 0) (ms2 := 0) (I2 := i_X12_there) dX12_herd_58 ml_X12_335 rfl rfl rfl rfl rfl rfl rfl rfl (ac_M.imp (o_X12_there _ 556 sh_556 rfl H) ?_)
          rintro _ _ ⟨r58, s58, rfl, rfl, H⟩
          refine ax_istore (pc' := 63) dX12_herd_61 rfl rfl rfl ?_
          refine ax_aload_n (pc' := 64) dX12_herd_63 rfl rfl ?_
          refine ay_V0 (pc' := 67) (ce' := 0) (sl' := 0) (mc2 := 0) (ms2 := 0) (I2 := i_X12_laysEats) dX12_herd_64 ml_X12_363 sh_69 (by decide) rfl rfl rfl rfl rfl rfl rfl rfl rfl (ac_M.imp (o_X12_laysEats _  H) ?_)
          rintro _ _ ⟨s64, rfl, rfl, H⟩
          refine ax_iconst (pc' := 68) (v := (1 : Int32)) dX12_herd_67 (by decide) rfl ?_
          refine ax_istore (pc' := 70) dX12_herd_68 rfl rfl rfl ?_
          refine ol_X12_herd_70 d p1 p2  _ _ _    H
        · have H := H.2 hc47
          refine ax_iconst (pc' := 51) (v := (0 : Int32)) dX12_herd_50 (by decide) rfl ?_
          exact ax_iret dX12_herd_51 rfl rfl rfl ⟨_, _, rfl, rfl, H⟩
  · have H := H.2 hc11
    refine ax_iconst (pc' := 15) (v := (1 : Int32)) dX12_herd_14 (by decide) rfl ?_
    refine ax_goto (tgt := 19) dX12_herd_15 (by decide) ?_
    refine ax_iconst (pc' := 20) (v := (1 : Int32)) dX12_herd_19 (by decide) rfl ?_
    refine ax_iconst (pc' := 21) (v := (0 : Int32)) dX12_herd_20 (by decide) rfl ?_
    refine ay_V3 (pc' := 24) (ce' := 0) (sl' := 0) (mc2 := 0) (ms2 := 0) (I2 := i_X12_bad) dX12_herd_21 ml_X12_183 sh_69 (by decide) rfl rfl rfl rfl rfl rfl rfl rfl rfl (ac_M.imp (o_X12_bad _ (1 : Int32) (1 : Int32) (0 : Int32) H) ?_)
    rintro _ _ ⟨r21, s21, rfl, rfl, H⟩
    refine ax_if_ne (pc' := 27) (tgt := 50) dX12_herd_24 (by decide) rfl (fun hc24 => ?_) (fun hc24 => ?_)
    · have H := H.1 hc24
      refine ax_iconst (pc' := 51) (v := (0 : Int32)) dX12_herd_50 (by decide) rfl ?_
      exact ax_iret dX12_herd_51 rfl rfl rfl ⟨_, _, rfl, rfl, H⟩
    · have H := H.2 hc24
      refine ax_aload_n (pc' := 28) dX12_herd_27 rfl rfl ?_
      refine ax_iload_n (pc' := 29) dX12_herd_28 rfl rfl ?_
      refine ax_iconst (pc' := 30) (v := (0 : Int32)) dX12_herd_29 (by decide) rfl ?_
      refine ax_iconst (pc' := 31) (v := (1 : Int32)) dX12_herd_30 (by decide) rfl ?_
      refine ay_S3 (pc' := 34) (ce' := 0) (sl' := 0) (mc2 := 0) (ms2 := 0) (I2 := i_X12_in) dX12_herd_31 ml_X12_138 rfl rfl rfl rfl rfl rfl rfl rfl (ac_M.imp (o_X12_in _ p2 (0 : Int32) (1 : Int32) H) ?_)
      rintro _ _ ⟨r31, s31, rfl, rfl, H⟩
      refine ax_if_ne (pc' := 37) (tgt := 41) dX12_herd_34 (by decide) rfl (fun hc34 => ?_) (fun hc34 => ?_)
      · have H := H.1 hc34
        refine ax_iconst (pc' := 42) (v := (0 : Int32)) dX12_herd_41 (by decide) rfl ?_
        refine ax_iconst (pc' := 43) (v := (2 : Int32)) dX12_herd_42 (by decide) rfl ?_
        refine ax_iconst (pc' := 44) (v := (1 : Int32)) dX12_herd_43 (by decide) rfl ?_
        refine ay_V3 (pc' := 47) (ce' := 0) (sl' := 0) (mc2 := 0) (ms2 := 0) (I2 := i_X12_bad) dX12_herd_44 ml_X12_183 sh_69 (by decide) rfl rfl rfl rfl rfl rfl rfl rfl rfl (ac_M.imp (o_X12_bad _ (0 : Int32) (2 : Int32) (1 : Int32) H) ?_)
        rintro _ _ ⟨r44, s44, rfl, rfl, H⟩
        refine ax_if_eq (pc' := 50) (tgt := 52) dX12_herd_47 (by decide) rfl (fun hc47 => ?_) (fun hc47 => ?_)
        · have H := H.1 hc47
          refine ax_iconst (pc' := 53) (v := (0 : Int32)) dX12_herd_52 (by decide) rfl ?_
          refine ax_istore_n (pc' := 54) dX12_herd_53 rfl rfl rfl ?_
          refine ax_aload_n (pc' := 55) dX12_herd_54 rfl rfl ?_
          refine ax_getR (pc' := 58) dX12_herd_55 fl_X12_67 sh_69 rfl rfl rfl ?_
          refine ay_S1 (pc' := 61) (ce' := 0) (sl' := 0) (mc2 := 0) (ms2 := 0) (I2 := i_X12_there) dX12_herd_58 ml_X12_335 rfl rfl rfl rfl rfl rfl rfl rfl (ac_M.imp (o_X12_there _ 556 sh_556 rfl H) ?_)
          rintro _ _ ⟨r58, s58, rfl, rfl, H⟩
          refine ax_istore (pc' := 63) dX12_herd_61 rfl rfl rfl ?_
          refine ax_aload_n (pc' := 64) dX12_herd_63 rfl rfl ?_
          refine ay_V0 (pc' := 67) (ce' := 0) (sl' := 0) (mc2 := 0) (ms2 := 0) (I2 := i_X12_laysEats) dX12_herd_64 ml_X12_363 sh_69 (by decide) rfl rfl rfl rfl rfl rfl rfl rfl rfl (ac_M.imp (o_X12_laysEats _  H) ?_)
          rintro _ _ ⟨s64, rfl, rfl, H⟩
          refine ax_iconst (pc' := 68) (v := (1 : Int32)) dX12_herd_67 (by decide) rfl ?_
          refine ax_istore (pc' := 70) dX12_herd_68 rfl rfl rfl ?_
          refine ol_X12_herd_70 d p1 p2  _ _ _    H
        · have H := H.2 hc47
          refine ax_iconst (pc' := 51) (v := (0 : Int32)) dX12_herd_50 (by decide) rfl ?_
          exact ax_iret dX12_herd_51 rfl rfl rfl ⟨_, _, rfl, rfl, H⟩
      · have H := H.2 hc34
        refine ax_iconst (pc' := 38) (v := (1 : Int32)) dX12_herd_37 (by decide) rfl ?_
        refine ax_goto (tgt := 42) dX12_herd_38 (by decide) ?_
        refine ax_iconst (pc' := 43) (v := (2 : Int32)) dX12_herd_42 (by decide) rfl ?_
        refine ax_iconst (pc' := 44) (v := (1 : Int32)) dX12_herd_43 (by decide) rfl ?_
        refine ay_V3 (pc' := 47) (ce' := 0) (sl' := 0) (mc2 := 0) (ms2 := 0) (I2 := i_X12_bad) dX12_herd_44 ml_X12_183 sh_69 (by decide) rfl rfl rfl rfl rfl rfl rfl rfl rfl (ac_M.imp (o_X12_bad _ (1 : Int32) (2 : Int32) (1 : Int32) H) ?_)
        rintro _ _ ⟨r44, s44, rfl, rfl, H⟩
        refine ax_if_eq (pc' := 50) (tgt := 52) dX12_herd_47 (by decide) rfl (fun hc47 => ?_) (fun hc47 => ?_)
        · have H := H.1 hc47
          refine ax_iconst (pc' := 53) (v := (0 : Int32)) dX12_herd_52 (by decide) rfl ?_
          refine ax_istore_n (pc' := 54) dX12_herd_53 rfl rfl rfl ?_
          refine ax_aload_n (pc' := 55) dX12_herd_54 rfl rfl ?_
          refine ax_getR (pc' := 58) dX12_herd_55 fl_X12_67 sh_69 rfl rfl rfl ?_
          refine ay_S1 (pc' := 61) (ce' := 0) (sl' := 0) (mc2 := 0) (ms2 := 0) (I2 := i_X12_there) dX12_herd_58 ml_X12_335 rfl rfl rfl rfl rfl rfl rfl rfl (ac_M.imp (o_X12_there _ 556 sh_556 rfl H) ?_)
          rintro _ _ ⟨r58, s58, rfl, rfl, H⟩
          refine ax_istore (pc' := 63) dX12_herd_61 rfl rfl rfl ?_
          refine ax_aload_n (pc' := 64) dX12_herd_63 rfl rfl ?_
          refine ay_V0 (pc' := 67) (ce' := 0) (sl' := 0) (mc2 := 0) (ms2 := 0) (I2 := i_X12_laysEats) dX12_herd_64 ml_X12_363 sh_69 (by decide) rfl rfl rfl rfl rfl rfl rfl rfl rfl (ac_M.imp (o_X12_laysEats _  H) ?_)
          rintro _ _ ⟨s64, rfl, rfl, H⟩
          refine ax_iconst (pc' := 68) (v := (1 : Int32)) dX12_herd_67 (by decide) rfl ?_
          refine ax_istore (pc' := 70) dX12_herd_68 rfl rfl rfl ?_
          refine ol_X12_herd_70 d p1 p2  _ _ _    H
        · have H := H.2 hc47
          refine ax_iconst (pc' := 51) (v := (0 : Int32)) dX12_herd_50 (by decide) rfl ?_
          exact ax_iret dX12_herd_51 rfl rfl rfl ⟨_, _, rfl, rfl, H⟩
theorem ol_X12_paid_75 {g : ac_G} {τ : Nat → Nat → Int64} (d : Nat) (p1 : Int32) (p2 : Int32) {Q : Int32 → ac_m → Prop}  (f1 : Int32) (f2 : Int32) (f5 : Int32)  {x3 : Int32} {x4 : Int32} {x6 : Int32} {s : ac_m} (H : l_X12_paid_75 p1 p2 Q  f1 f2 f5  x3 x4 x6 s) : ac_X g i_X12_paid (d + 2) 0 0 (liI τ Q) 0 0 75 [some (.ref 69), some (.int f1), some (.int f2), some (.int x3), some (.int x4), some (.int f5), some (.int x6)] [] (false, 586, SH, s, τ) := by
  refine H (fun x3 x4 x6 s => ac_X g i_X12_paid (d + 2) 0 0 (liI τ Q) 0 0 75 [some (.ref 69), some (.int f1), some (.int f2), some (.int x3), some (.int x4), some (.int f5), some (.int x6)] [] (false, 586, SH, s, τ)) ?_
  intro x3 x4 x6 s H
  refine ax_iload (pc' := 77) dX12_paid_75 rfl rfl ?_
  refine ax_aload_n (pc' := 78) dX12_paid_77 rfl rfl ?_
  refine ay_V0 (pc' := 81) (ce' := 0) (sl' := 0) (mc2 := 0) (ms2 := 0) (I2 := i_X12_everyBeast) dX12_paid_78 ml_X12_357 sh_69 (by decide) rfl rfl rfl rfl rfl rfl rfl rfl rfl (ac_M.imp (o_X12_everyBeast _  H) ?_)
  rintro _ _ ⟨r78, s78, rfl, rfl, H⟩
  refine ax_icmp_gt (pc' := 84) (tgt := 162) dX12_paid_81 (by decide) rfl (fun hc81 => ?_) (fun hc81 => ?_)
  · have H := H.1 hc81
    refine ax_iload_n (pc' := 163) dX12_paid_162 rfl rfl ?_
    refine ax_if_ne (pc' := 166) (tgt := 170) dX12_paid_163 (by decide) rfl (fun hc163 => ?_) (fun hc163 => ?_)
    · have H := H.1 hc163
      refine ax_iload (pc' := 172) dX12_paid_170 rfl rfl ?_
      exact ax_iret dX12_paid_172 rfl rfl rfl ⟨_, _, rfl, rfl, H⟩
    · have H := H.2 hc163
      refine ax_iload_n (pc' := 167) dX12_paid_166 rfl rfl ?_
      refine ax_goto (tgt := 172) dX12_paid_167 (by decide) ?_
      exact ax_iret dX12_paid_172 rfl rfl rfl ⟨_, _, rfl, rfl, H⟩
  · have H := H.2 hc81
    refine ax_aload_n (pc' := 85) dX12_paid_84 rfl rfl ?_
    refine ax_getR (pc' := 88) dX12_paid_85 fl_X12_67 sh_69 rfl rfl rfl ?_
    refine ax_iload_n (pc' := 89) dX12_paid_88 rfl rfl ?_
    refine ay_S2 (pc' := 92) (ce' := 0) (sl' := 0) (mc2 := 0) (ms2 := 0) (I2 := i_X12_isThere) dX12_paid_89 ml_X12_273 rfl rfl rfl rfl rfl rfl rfl rfl (ac_M.imp (o_X12_isThere _ 556 f1 sh_556 rfl H) ?_)
    rintro _ _ ⟨r89, s89, rfl, rfl, H⟩
    refine ax_if_eq (pc' := 95) (tgt := 162) dX12_paid_92 (by decide) rfl (fun hc92 => ?_) (fun hc92 => ?_)
    · have H := H.1 hc92
      refine ax_iload_n (pc' := 163) dX12_paid_162 rfl rfl ?_
      refine ax_if_ne (pc' := 166) (tgt := 170) dX12_paid_163 (by decide) rfl (fun hc163 => ?_) (fun hc163 => ?_)
      · have H := H.1 hc163
        refine ax_iload (pc' := 172) dX12_paid_170 rfl rfl ?_
        exact ax_iret dX12_paid_172 rfl rfl rfl ⟨_, _, rfl, rfl, H⟩
      · have H := H.2 hc163
        refine ax_iload_n (pc' := 167) dX12_paid_166 rfl rfl ?_
        refine ax_goto (tgt := 172) dX12_paid_167 (by decide) ?_
        exact ax_iret dX12_paid_172 rfl rfl rfl ⟨_, _, rfl, rfl, H⟩
    · have H := H.2 hc92
      refine ax_iload (pc' := 97) dX12_paid_95 rfl rfl ?_
      refine ax_iload (pc' := 99) dX12_paid_97 rfl rfl ?_
      refine ax_iconst (pc' := 100) (v := (-1 : Int32)) dX12_paid_99 (by decide) rfl ?_
      refine ax_ixor (pc' := 101) dX12_paid_100 rfl ?_
      refine ax_iand (pc' := 102) dX12_paid_101 rfl ?_
      refine ax_if_ne (pc' := 105) (tgt := 156) dX12_paid_102 (by decide) rfl (fun hc102 => ?_) (fun hc102 => ?_)
      · have H := H.1 hc102
        refine ax_iinc (pc' := 159) (v := (x6 + (1 : Int32))) dX12_paid_156 rfl rfl rfl rfl rfl ?_
        refine ax_goto (tgt := 75) dX12_paid_159 (by decide) ?_
        exact H
      · have H := H.2 hc102
        refine ax_aload_n (pc' := 106) dX12_paid_105 rfl rfl ?_
        refine ax_iload (pc' := 108) dX12_paid_106 rfl rfl ?_
        refine ay_V1 (pc' := 111) (ce' := 0) (sl' := 0) (mc2 := 0) (ms2 := 0) (I2 := i_X12_heavy) dX12_paid_108 ml_X12_369 sh_69 (by decide) rfl rfl rfl rfl rfl rfl rfl rfl rfl (ac_M.imp (o_X12_heavy _ x6 H) ?_)
        rintro _ _ ⟨r108, s108, rfl, rfl, H⟩
        refine ax_aload_n (pc' := 112) dX12_paid_111 rfl rfl ?_
        refine ax_getR (pc' := 115) dX12_paid_112 fl_X12_67 sh_69 rfl rfl rfl ?_
        refine ax_iconst (pc' := 116) (v := (0 : Int32)) dX12_paid_115 (by decide) rfl ?_
        refine ax_iload_n (pc' := 117) dX12_paid_116 rfl rfl ?_
        refine ax_iadd (pc' := 118) dX12_paid_117 rfl ?_
        obtain ⟨hj118, H⟩ := H
        refine ax_iald (pc' := 119) dX12_paid_118 sh_556 hj118 rfl rfl ?_
        refine ax_icmp_eq (pc' := 122) (tgt := 125) dX12_paid_119 (by decide) rfl (fun hc119 => ?_) (fun hc119 => ?_)
        · have H := H.1 hc119
          refine ax_iinc (pc' := 128) (v := (x3 + (1 : Int32))) dX12_paid_125 rfl rfl rfl rfl rfl ?_
          refine ax_iload (pc' := 130) dX12_paid_128 rfl rfl ?_
          refine ax_iconst (pc' := 131) (v := (-1 : Int32)) dX12_paid_130 (by decide) rfl ?_
          refine ax_icmp_eq (pc' := 134) (tgt := 147) dX12_paid_131 (by decide) rfl (fun hc131 => ?_) (fun hc131 => ?_)
          · have H := H.1 hc131
            refine ax_iload (pc' := 149) dX12_paid_147 rfl rfl ?_
            refine ax_goto (tgt := 154) dX12_paid_149 (by decide) ?_
            refine ax_istore (pc' := 156) dX12_paid_154 rfl rfl rfl ?_
            refine ax_iinc (pc' := 159) (v := (x6 + (1 : Int32))) dX12_paid_156 rfl rfl rfl rfl rfl ?_
            refine ax_goto (tgt := 75) dX12_paid_159 (by decide) ?_
            exact H
          · have H := H.2 hc131
            refine ax_iload (pc' := 136) dX12_paid_134 rfl rfl ?_
            refine ay_S1 (pc' := 139) (ce' := 0) (sl' := 0) (mc2 := 0) (ms2 := 0) (I2 := i_X12_ones) dX12_paid_136 ml_X12_281 rfl rfl rfl rfl rfl rfl rfl rfl (ac_M.imp (o_X12_ones _ x6 H) ?_)
            rintro _ _ ⟨r136, s136, rfl, rfl, H⟩
            refine ax_iload (pc' := 141) dX12_paid_139 rfl rfl ?_
            refine ay_S1 (pc' := 144) (ce' := 0) (sl' := 0) (mc2 := 0) (ms2 := 0) (I2 := i_X12_ones) dX12_paid_141 ml_X12_281 rfl rfl rfl rfl rfl rfl rfl rfl (ac_M.imp (o_X12_ones _ x4 H) ?_)
            rintro _ _ ⟨r141, s141, rfl, rfl, H⟩
            refine ax_icmp_ge (pc' := 147) (tgt := 152) dX12_paid_144 (by decide) rfl (fun hc144 => ?_) (fun hc144 => ?_)
            · have H := H.1 hc144
              refine ax_iload (pc' := 154) dX12_paid_152 rfl rfl ?_
              refine ax_istore (pc' := 156) dX12_paid_154 rfl rfl rfl ?_
              refine ax_iinc (pc' := 159) (v := (x6 + (1 : Int32))) dX12_paid_156 rfl rfl rfl rfl rfl ?_
              refine ax_goto (tgt := 75) dX12_paid_159 (by decide) ?_
              exact H
            · have H := H.2 hc144
              refine ax_iload (pc' := 149) dX12_paid_147 rfl rfl ?_
              refine ax_goto (tgt := 154) dX12_paid_149 (by decide) ?_
              refine ax_istore (pc' := 156) dX12_paid_154 rfl rfl rfl ?_
              refine ax_iinc (pc' := 159) (v := (x6 + (1 : Int32))) dX12_paid_156 rfl rfl rfl rfl rfl ?_
              refine ax_goto (tgt := 75) dX12_paid_159 (by decide) ?_
              exact H
        · have H := H.2 hc119
          refine ax_goto (tgt := 156) dX12_paid_122 (by decide) ?_
          refine ax_iinc (pc' := 159) (v := (x6 + (1 : Int32))) dX12_paid_156 rfl rfl rfl rfl rfl ?_
          refine ax_goto (tgt := 75) dX12_paid_159 (by decide) ?_
          exact H
theorem o_X12_paid {g : ac_G} {τ : Nat → Nat → Int64} (d : Nat) (p1 : Int32) (p2 : Int32) {Q : Int32 → ac_m → Prop} {s : ac_m} (H : w_X12_paid p1 p2 Q s) : ac_M g i_X12_paid (d + 2) 0 0 [.ref 69, .int p1, .int p2] (false, 586, SH, s, τ) (liI τ Q) := by
  refine ac_ofX (by decide +kernel) rfl rfl rfl ?_
  refine ax_aload_n (pc' := 1) dX12_paid_0 rfl rfl ?_
  refine ax_iconst (pc' := 2) (v := (0 : Int32)) dX12_paid_1 (by decide) rfl ?_
  refine ax_putI (pc' := 5) dX12_paid_2 fp_X12_104 sh_69 rfl rfl rfl ?_
  refine ax_aload_n (pc' := 6) dX12_paid_5 rfl rfl ?_
  refine ax_aload_n (pc' := 7) dX12_paid_6 rfl rfl ?_
  refine ax_iload_n (pc' := 8) dX12_paid_7 rfl rfl ?_
  refine ay_V1 (pc' := 11) (ce' := 0) (sl' := 0) (mc2 := 0) (ms2 := 0) (I2 := i_X12_isBeast) dX12_paid_8 ml_X12_354 sh_69 (by decide) rfl rfl rfl rfl rfl rfl rfl rfl rfl (ac_M.imp (o_X12_isBeast _ p1 H) ?_)
  rintro _ _ ⟨r8, s8, rfl, rfl, H⟩
  refine ax_if_ne (pc' := 14) (tgt := 18) dX12_paid_11 (by decide) rfl (fun hc11 => ?_) (fun hc11 => ?_)
  · have H := H.1 hc11
    refine ax_iconst (pc' := 19) (v := (0 : Int32)) dX12_paid_18 (by decide) rfl ?_
    refine ax_iconst (pc' := 20) (v := (1 : Int32)) dX12_paid_19 (by decide) rfl ?_
    refine ax_iconst (pc' := 21) (v := (0 : Int32)) dX12_paid_20 (by decide) rfl ?_
    refine ay_V3 (pc' := 24) (ce' := 0) (sl' := 0) (mc2 := 0) (ms2 := 0) (I2 := i_X12_bad) dX12_paid_21 ml_X12_183 sh_69 (by decide) rfl rfl rfl rfl rfl rfl rfl rfl rfl (ac_M.imp (o_X12_bad _ (0 : Int32) (1 : Int32) (0 : Int32) H) ?_)
    rintro _ _ ⟨r21, s21, rfl, rfl, H⟩
    refine ax_if_ne (pc' := 27) (tgt := 50) dX12_paid_24 (by decide) rfl (fun hc24 => ?_) (fun hc24 => ?_)
    · have H := H.1 hc24
      refine ax_iconst (pc' := 51) (v := (0 : Int32)) dX12_paid_50 (by decide) rfl ?_
      exact ax_iret dX12_paid_51 rfl rfl rfl ⟨_, _, rfl, rfl, H⟩
    · have H := H.2 hc24
      refine ax_aload_n (pc' := 28) dX12_paid_27 rfl rfl ?_
      refine ax_iload_n (pc' := 29) dX12_paid_28 rfl rfl ?_
      refine ax_iconst (pc' := 30) (v := (0 : Int32)) dX12_paid_29 (by decide) rfl ?_
      refine ax_iconst (pc' := 31) (v := (1 : Int32)) dX12_paid_30 (by decide) rfl ?_
      refine ay_S3 (pc' := 34) (ce' := 0) (sl' := 0) (mc2 := 0) (ms2 := 0) (I2 := i_X12_in) dX12_paid_31 ml_X12_138 rfl rfl rfl rfl rfl rfl rfl rfl (ac_M.imp (o_X12_in _ p2 (0 : Int32) (1 : Int32) H) ?_)
      rintro _ _ ⟨r31, s31, rfl, rfl, H⟩
      refine ax_if_ne (pc' := 37) (tgt := 41) dX12_paid_34 (by decide) rfl (fun hc34 => ?_) (fun hc34 => ?_)
      · have H := H.1 hc34
        refine ax_iconst (pc' := 42) (v := (0 : Int32)) dX12_paid_41 (by decide) rfl ?_
        refine ax_iconst (pc' := 43) (v := (2 : Int32)) dX12_paid_42 (by decide) rfl ?_
        refine ax_iconst (pc' := 44) (v := (1 : Int32)) dX12_paid_43 (by decide) rfl ?_
        refine ay_V3 (pc' := 47) (ce' := 0) (sl' := 0) (mc2 := 0) (ms2 := 0) (I2 := i_X12_bad) dX12_paid_44 ml_X12_183 sh_69 (by decide) rfl rfl rfl rfl rfl rfl rfl rfl rfl (ac_M.imp (o_X12_bad _ (0 : Int32) (2 : Int32) (1 : Int32) H) ?_)
        rintro _ _ ⟨r44, s44, rfl, rfl, H⟩
        refine ax_if_eq (pc' := 50) (tgt := 52) dX12_paid_47 (by decide) rfl (fun hc47 => ?_) (fun hc47 => ?_)
        · have H := H.1 hc47
          refine ax_iconst (pc' := 53) (v := (0 : Int32)) dX12_paid_52 (by decide) rfl ?_
          refine ax_istore_n (pc' := 54) dX12_paid_53 rfl rfl rfl ?_
          refine ax_iconst (pc' := 55) (v := (-1 : Int32)) dX12_paid_54 (by decide) rfl ?_
          refine ax_istore (pc' := 57) dX12_paid_55 rfl rfl rfl ?_
          refine ax_aload_n (pc' := 58) dX12_paid_57 rfl rfl ?_
          refine ax_getR (pc' := 61) dX12_paid_58 fl_X12_67 sh_69 rfl rfl rfl ?_
          refine ay_S1 (pc' := 64) (ce' := 0) (sl' := 0) (mc2 := 0) (ms2 := 0) (I2 := i_X12_there) dX12_paid_61 ml_X12_335 rfl rfl rfl rfl rfl rfl rfl rfl (ac_M.imp (o_X12_there _ 556 sh_556 rfl H) ?_)
          rintro _ _ ⟨r61, s61, rfl, rfl, H⟩
          refine ax_iconst (pc' := 65) (v := (1 : Int32)) dX12_paid_64 (by decide) rfl ?_
          refine ax_iload_n (pc' := 66) dX12_paid_65 rfl rfl ?_
          refine ax_ishl (pc' := 67) dX12_paid_66 rfl ?_
          refine ax_iconst (pc' := 68) (v := (-1 : Int32)) dX12_paid_67 (by decide) rfl ?_
          refine ax_ixor (pc' := 69) dX12_paid_68 rfl ?_
          refine ax_iand (pc' := 70) dX12_paid_69 rfl ?_
          refine ax_istore (pc' := 72) dX12_paid_70 rfl rfl rfl ?_
          refine ax_iconst (pc' := 73) (v := (1 : Int32)) dX12_paid_72 (by decide) rfl ?_
          refine ax_istore (pc' := 75) dX12_paid_73 rfl rfl rfl ?_
          refine ol_X12_paid_75 d p1 p2  _ _ _    H
        · have H := H.2 hc47
          refine ax_iconst (pc' := 51) (v := (0 : Int32)) dX12_paid_50 (by decide) rfl ?_
          exact ax_iret dX12_paid_51 rfl rfl rfl ⟨_, _, rfl, rfl, H⟩
      · have H := H.2 hc34
        refine ax_iconst (pc' := 38) (v := (1 : Int32)) dX12_paid_37 (by decide) rfl ?_
        refine ax_goto (tgt := 42) dX12_paid_38 (by decide) ?_
        refine ax_iconst (pc' := 43) (v := (2 : Int32)) dX12_paid_42 (by decide) rfl ?_
        refine ax_iconst (pc' := 44) (v := (1 : Int32)) dX12_paid_43 (by decide) rfl ?_
        refine ay_V3 (pc' := 47) (ce' := 0) (sl' := 0) (mc2 := 0) (ms2 := 0) (I2 := i_X12_bad) dX12_paid_44 ml_X12_183 sh_69 (by decide) rfl rfl rfl rfl rfl rfl rfl rfl rfl (ac_M.imp (o_X12_bad _ (1 : Int32) (2 : Int32) (1 : Int32) H) ?_)
        rintro _ _ ⟨r44, s44, rfl, rfl, H⟩
        refine ax_if_eq (pc' := 50) (tgt := 52) dX12_paid_47 (by decide) rfl (fun hc47 => ?_) (fun hc47 => ?_)
        · have H := H.1 hc47
          refine ax_iconst (pc' := 53) (v := (0 : Int32)) dX12_paid_52 (by decide) rfl ?_
          refine ax_istore_n (pc' := 54) dX12_paid_53 rfl rfl rfl ?_
          refine ax_iconst (pc' := 55) (v := (-1 : Int32)) dX12_paid_54 (by decide) rfl ?_
          refine ax_istore (pc' := 57) dX12_paid_55 rfl rfl rfl ?_
          refine ax_aload_n (pc' := 58) dX12_paid_57 rfl rfl ?_
          refine ax_getR (pc' := 61) dX12_paid_58 fl_X12_67 sh_69 rfl rfl rfl ?_
          refine ay_S1 (pc' := 64) (ce' := 0) (sl' := 0) (mc2 := 0) (ms2 := 0) (I2 := i_X12_there) dX12_paid_61 ml_X12_335 rfl rfl rfl rfl rfl rfl rfl rfl (ac_M.imp (o_X12_there _ 556 sh_556 rfl H) ?_)
          rintro _ _ ⟨r61, s61, rfl, rfl, H⟩
          refine ax_iconst (pc' := 65) (v := (1 : Int32)) dX12_paid_64 (by decide) rfl ?_
          refine ax_iload_n (pc' := 66) dX12_paid_65 rfl rfl ?_
          refine ax_ishl (pc' := 67) dX12_paid_66 rfl ?_
          refine ax_iconst (pc' := 68) (v := (-1 : Int32)) dX12_paid_67 (by decide) rfl ?_
          refine ax_ixor (pc' := 69) dX12_paid_68 rfl ?_
          refine ax_iand (pc' := 70) dX12_paid_69 rfl ?_
          refine ax_istore (pc' := 72) dX12_paid_70 rfl rfl rfl ?_
          refine ax_iconst (pc' := 73) (v := (1 : Int32)) dX12_paid_72 (by decide) rfl ?_
          refine ax_istore (pc' := 75) dX12_paid_73 rfl rfl rfl ?_
          refine ol_X12_paid_75 d p1 p2  _ _ _    H
        · have H := H.2 hc47
          refine ax_iconst (pc' := 51) (v := (0 : Int32)) dX12_paid_50 (by decide) rfl ?_
          exact ax_iret dX12_paid_51 rfl rfl rfl ⟨_, _, rfl, rfl, H⟩
  · have H := H.2 hc11
    refine ax_iconst (pc' := 15) (v := (1 : Int32)) dX12_paid_14 (by decide) rfl ?_
    refine ax_goto (tgt := 19) dX12_paid_15 (by decide) ?_
    refine ax_iconst (pc' := 20) (v := (1 : Int32)) dX12_paid_19 (by decide) rfl ?_
    refine ax_iconst (pc' := 21) (v := (0 : Int32)) dX12_paid_20 (by decide) rfl ?_
    refine ay_V3 (pc' := 24) (ce' := 0) (sl' := 0) (mc2 := 0) (ms2 := 0) (I2 := i_X12_bad) dX12_paid_21 ml_X12_183 sh_69 (by decide) rfl rfl rfl rfl rfl rfl rfl rfl rfl (ac_M.imp (o_X12_bad _ (1 : Int32) (1 : Int32) (0 : Int32) H) ?_)
    rintro _ _ ⟨r21, s21, rfl, rfl, H⟩
    refine ax_if_ne (pc' := 27) (tgt := 50) dX12_paid_24 (by decide) rfl (fun hc24 => ?_) (fun hc24 => ?_)
    · have H := H.1 hc24
      refine ax_iconst (pc' := 51) (v := (0 : Int32)) dX12_paid_50 (by decide) rfl ?_
      exact ax_iret dX12_paid_51 rfl rfl rfl ⟨_, _, rfl, rfl, H⟩
    · have H := H.2 hc24
      refine ax_aload_n (pc' := 28) dX12_paid_27 rfl rfl ?_
      refine ax_iload_n (pc' := 29) dX12_paid_28 rfl rfl ?_
      refine ax_iconst (pc' := 30) (v := (0 : Int32)) dX12_paid_29 (by decide) rfl ?_
      refine ax_iconst (pc' := 31) (v := (1 : Int32)) dX12_paid_30 (by decide) rfl ?_
      refine ay_S3 (pc' := 34) (ce' := 0) (sl' := 0) (mc2 := 0) (ms2 := 0) (I2 := i_X12_in) dX12_paid_31 ml_X12_138 rfl rfl rfl rfl rfl rfl rfl rfl (ac_M.imp (o_X12_in _ p2 (0 : Int32) (1 : Int32) H) ?_)
      rintro _ _ ⟨r31, s31, rfl, rfl, H⟩
      refine ax_if_ne (pc' := 37) (tgt := 41) dX12_paid_34 (by decide) rfl (fun hc34 => ?_) (fun hc34 => ?_)
      · have H := H.1 hc34
        refine ax_iconst (pc' := 42) (v := (0 : Int32)) dX12_paid_41 (by decide) rfl ?_
        refine ax_iconst (pc' := 43) (v := (2 : Int32)) dX12_paid_42 (by decide) rfl ?_
        refine ax_iconst (pc' := 44) (v := (1 : Int32)) dX12_paid_43 (by decide) rfl ?_
        refine ay_V3 (pc' := 47) (ce' := 0) (sl' := 0) (mc2 := 0) (ms2 := 0) (I2 := i_X12_bad) dX12_paid_44 ml_X12_183 sh_69 (by decide) rfl rfl rfl rfl rfl rfl rfl rfl rfl (ac_M.imp (o_X12_bad _ (0 : Int32) (2 : Int32) (1 : Int32) H) ?_)
        rintro _ _ ⟨r44, s44, rfl, rfl, H⟩
        refine ax_if_eq (pc' := 50) (tgt := 52) dX12_paid_47 (by decide) rfl (fun hc47 => ?_) (fun hc47 => ?_)
        · have H := H.1 hc47
          refine ax_iconst (pc' := 53) (v := (0 : Int32)) dX12_paid_52 (by decide) rfl ?_
          refine ax_istore_n (pc' := 54) dX12_paid_53 rfl rfl rfl ?_
          refine ax_iconst (pc' := 55) (v := (-1 : Int32)) dX12_paid_54 (by decide) rfl ?_
          refine ax_istore (pc' := 57) dX12_paid_55 rfl rfl rfl ?_
          refine ax_aload_n (pc' := 58) dX12_paid_57 rfl rfl ?_
          refine ax_getR (pc' := 61) dX12_paid_58 fl_X12_67 sh_69 rfl rfl rfl ?_
          refine ay_S1 (pc' := 64) (ce' := 0) (sl' := 0) (mc2 := 0) (ms2 := 0) (I2 := i_X12_there) dX12_paid_61 ml_X12_335 rfl rfl rfl rfl rfl rfl rfl rfl (ac_M.imp (o_X12_there _ 556 sh_556 rfl H) ?_)
          rintro _ _ ⟨r61, s61, rfl, rfl, H⟩
          refine ax_iconst (pc' := 65) (v := (1 : Int32)) dX12_paid_64 (by decide) rfl ?_
          refine ax_iload_n (pc' := 66) dX12_paid_65 rfl rfl ?_
          refine ax_ishl (pc' := 67) dX12_paid_66 rfl ?_
          refine ax_iconst (pc' := 68) (v := (-1 : Int32)) dX12_paid_67 (by decide) rfl ?_
          refine ax_ixor (pc' := 69) dX12_paid_68 rfl ?_
          refine ax_iand (pc' := 70) dX12_paid_69 rfl ?_
          refine ax_istore (pc' := 72) dX12_paid_70 rfl rfl rfl ?_
          refine ax_iconst (pc' := 73) (v := (1 : Int32)) dX12_paid_72 (by decide) rfl ?_
          refine ax_istore (pc' := 75) dX12_paid_73 rfl rfl rfl ?_
          refine ol_X12_paid_75 d p1 p2  _ _ _    H
        · have H := H.2 hc47
          refine ax_iconst (pc' := 51) (v := (0 : Int32)) dX12_paid_50 (by decide) rfl ?_
          exact ax_iret dX12_paid_51 rfl rfl rfl ⟨_, _, rfl, rfl, H⟩
      · have H := H.2 hc34
        refine ax_iconst (pc' := 38) (v := (1 : Int32)) dX12_paid_37 (by decide) rfl ?_
        refine ax_goto (tgt := 42) dX12_paid_38 (by decide) ?_
        refine ax_iconst (pc' := 43) (v := (2 : Int32)) dX12_paid_42 (by decide) rfl ?_
        refine ax_iconst (pc' := 44) (v := (1 : Int32)) dX12_paid_43 (by decide) rfl ?_
        refine ay_V3 (pc' := 47) (ce' := 0) (sl' := 0) (mc2 := 0) (ms2 := 0) (I2 := i_X12_bad) dX12_paid_44 ml_X12_183 sh_69 (by decide) rfl rfl rfl rfl rfl rfl rfl rfl rfl (ac_M.imp (o_X12_bad _ (1 : Int32) (2 : Int32) (1 : Int32) H) ?_)
        rintro _ _ ⟨r44, s44, rfl, rfl, H⟩
        refine ax_if_eq (pc' := 50) (tgt := 52) dX12_paid_47 (by decide) rfl (fun hc47 => ?_) (fun hc47 => ?_)
        · have H := H.1 hc47
          refine ax_iconst (pc' := 53) (v := (0 : Int32)) dX12_paid_52 (by decide) rfl ?_
          refine ax_istore_n (pc' := 54) dX12_paid_53 rfl rfl rfl ?_
          refine ax_iconst (pc' := 55) (v := (-1 : Int32)) dX12_paid_54 (by decide) rfl ?_
          refine ax_istore (pc' := 57) dX12_paid_55 rfl rfl rfl ?_
          refine ax_aload_n (pc' := 58) dX12_paid_57 rfl rfl ?_
          refine ax_getR (pc' := 61) dX12_paid_58 fl_X12_67 sh_69 rfl rfl rfl ?_
          refine ay_S1 (pc' := 64) (ce' := 0) (sl' := 0) (mc2 := 0) (ms2 := 0) (I2 := i_X12_there) dX12_paid_61 ml_X12_335 rfl rfl rfl rfl rfl rfl rfl rfl (ac_M.imp (o_X12_there _ 556 sh_556 rfl H) ?_)
          rintro _ _ ⟨r61, s61, rfl, rfl, H⟩
          refine ax_iconst (pc' := 65) (v := (1 : Int32)) dX12_paid_64 (by decide) rfl ?_
          refine ax_iload_n (pc' := 66) dX12_paid_65 rfl rfl ?_
          refine ax_ishl (pc' := 67) dX12_paid_66 rfl ?_
          refine ax_iconst (pc' := 68) (v := (-1 : Int32)) dX12_paid_67 (by decide) rfl ?_
          refine ax_ixor (pc' := 69) dX12_paid_68 rfl ?_
          refine ax_iand (pc' := 70) dX12_paid_69 rfl ?_
          refine ax_istore (pc' := 72) dX12_paid_70 rfl rfl rfl ?_
          refine ax_iconst (pc' := 73) (v := (1 : Int32)) dX12_paid_72 (by decide) rfl ?_
          refine ax_istore (pc' := 75) dX12_paid_73 rfl rfl rfl ?_
          refine ol_X12_paid_75 d p1 p2  _ _ _    H
        · have H := H.2 hc47
          refine ax_iconst (pc' := 51) (v := (0 : Int32)) dX12_paid_50 (by decide) rfl ?_
          exact ax_iret dX12_paid_51 rfl rfl rfl ⟨_, _, rfl, rfl, H⟩
