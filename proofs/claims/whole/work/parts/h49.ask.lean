theorem o_X1_draw {g : ac_G} {τ : Nat → Nat → Int64} (d : Nat) (p1 : Int32) {Q : Int32 → ac_m → Prop} {s : ac_m} (H : w_X1_draw p1 Q s) : ac_M g i_X1_draw d 0 0 [.ref 68, .int p1] (false, 586, SH, s, τ) (liI τ Q) := by
  refine ac_ofX (by decide +kernel) rfl rfl rfl ?_
  refine ax_aload_n (pc' := 1) dX1_draw_0 rfl rfl ?_
  refine ax_aload_n (pc' := 2) dX1_draw_1 rfl rfl ?_
  refine ax_getI (pc' := 5) dX1_draw_2 fl_X1_9 sh_68 rfl rfl rfl ?_
  refine ax_ldc (pc' := 7) dX1_draw_5 ck_X1_62 rfl ?_
  refine ax_imul (pc' := 8) dX1_draw_7 rfl ?_
  refine ax_sipush (pc' := 11) (v := (12345 : Int32)) dX1_draw_8 (by decide) rfl ?_
  refine ax_iadd (pc' := 12) dX1_draw_11 rfl ?_
  refine ax_putI (pc' := 15) dX1_draw_12 fp_X1_9 sh_68 rfl rfl rfl ?_
  refine ax_iload_n (pc' := 16) dX1_draw_15 rfl rfl ?_
  refine ax_if_le (pc' := 19) (tgt := 35) dX1_draw_16 (by decide) rfl (fun hc16 => ?_) (fun hc16 => ?_)
  · have H := H.1 hc16
    refine ax_iconst (pc' := 36) (v := (0 : Int32)) dX1_draw_35 (by decide) rfl ?_
    exact ax_iret dX1_draw_36 rfl rfl rfl ⟨_, _, rfl, rfl, H⟩
  · have H := H.2 hc16
    refine ax_aload_n (pc' := 20) dX1_draw_19 rfl rfl ?_
    refine ax_getI (pc' := 23) dX1_draw_20 fl_X1_9 sh_68 rfl rfl rfl ?_
    refine ax_bipush (pc' := 25) (v := (16 : Int32)) dX1_draw_23 (by decide) rfl ?_
    refine ax_ishr (pc' := 26) dX1_draw_25 rfl ?_
    refine ax_sipush (pc' := 29) (v := (32767 : Int32)) dX1_draw_26 (by decide) rfl ?_
    refine ax_iand (pc' := 30) dX1_draw_29 rfl ?_
    refine ax_iload_n (pc' := 31) dX1_draw_30 rfl rfl ?_
    obtain ⟨hz, H⟩ := H
    refine ax_irem (pc' := 32) dX1_draw_31 hz rfl ?_
    refine ax_goto (tgt := 36) dX1_draw_32 (by decide) ?_
    exact ax_iret dX1_draw_36 rfl rfl rfl ⟨_, _, rfl, rfl, H⟩
theorem o_X1_meddle {g : ac_G} {τ : Nat → Nat → Int64} (d : Nat) (p1 : Int32) {Q : ac_m → Prop} {s : ac_m} (H : w_X1_meddle p1 Q s) : ac_M g i_X1_meddle (d + 2) 0 0 [.ref 68, .int p1] (false, 586, SH, s, τ) (liV τ Q) := by
  refine ac_ofX (by decide +kernel) rfl rfl rfl ?_
  refine ax_aload_n (pc' := 1) dX1_meddle_0 rfl rfl ?_
  refine ax_aload_n (pc' := 2) dX1_meddle_1 rfl rfl ?_
  refine ax_getR (pc' := 5) dX1_meddle_2 fl_X1_15 sh_68 rfl rfl rfl ?_
  refine ax_getI (pc' := 8) dX1_meddle_5 fl_X1_32 sh_3 rfl rfl rfl ?_
  refine ay_V1 (pc' := 11) (ce' := 0) (sl' := 0) (mc2 := 0) (ms2 := 0) (I2 := i_X1_draw) dX1_meddle_8 ml_X1_44 sh_68 (by decide) rfl rfl rfl rfl rfl rfl rfl rfl rfl (ac_M.imp (o_X1_draw _ (s 3 11) H) ?_)
  rintro _ _ ⟨r8, s8, rfl, rfl, H⟩
  refine ax_istore_n (pc' := 12) dX1_meddle_11 rfl rfl rfl ?_
  refine ax_aload_n (pc' := 13) dX1_meddle_12 rfl rfl ?_
  refine ax_getR (pc' := 16) dX1_meddle_13 fl_X1_23 sh_68 rfl rfl rfl ?_
  refine ax_iload_n (pc' := 17) dX1_meddle_16 rfl rfl ?_
  refine ay_V1 (pc' := 20) (ce' := 0) (sl' := 0) (mc2 := 0) (ms2 := 0) (I2 := i_X5_askBack) dX1_meddle_17 ml_X1_48 sh_50 (by decide) rfl rfl rfl rfl rfl rfl rfl rfl rfl (ac_M.imp (o_X5_askBack _ 50 r8 is_trial H) ?_)
  rintro _ _ ⟨r17, s17, rfl, rfl, H⟩
  refine ax_if_ne (pc' := 23) (tgt := 32) dX1_meddle_20 (by decide) rfl (fun hc20 => ?_) (fun hc20 => ?_)
  · have H := H.1 hc20
    refine ax_aload_n (pc' := 33) dX1_meddle_32 rfl rfl ?_
    refine ax_bipush (pc' := 35) (v := (16 : Int32)) dX1_meddle_33 (by decide) rfl ?_
    refine ay_V1 (pc' := 38) (ce' := 0) (sl' := 0) (mc2 := 0) (ms2 := 0) (I2 := i_X1_draw) dX1_meddle_35 ml_X1_44 sh_68 (by decide) rfl rfl rfl rfl rfl rfl rfl rfl rfl (ac_M.imp (o_X1_draw _ (16 : Int32) H) ?_)
    rintro _ _ ⟨r35, s35, rfl, rfl, H⟩
    refine ax_iload_n (pc' := 39) dX1_meddle_38 rfl rfl ?_
    refine ax_icmp_ge (pc' := 42) (tgt := 78) dX1_meddle_39 (by decide) rfl (fun hc39 => ?_) (fun hc39 => ?_)
    · have H := H.1 hc39
      exact ax_vret dX1_meddle_78 rfl rfl rfl ⟨_, rfl, rfl, H⟩
    · have H := H.2 hc39
      refine ax_aload_n (pc' := 43) dX1_meddle_42 rfl rfl ?_
      refine ax_aload_n (pc' := 44) dX1_meddle_43 rfl rfl ?_
      refine ax_getR (pc' := 47) dX1_meddle_44 fl_X1_15 sh_68 rfl rfl rfl ?_
      refine ax_getI (pc' := 50) dX1_meddle_47 fl_X1_32 sh_3 rfl rfl rfl ?_
      refine ay_V1 (pc' := 53) (ce' := 0) (sl' := 0) (mc2 := 0) (ms2 := 0) (I2 := i_X1_draw) dX1_meddle_50 ml_X1_44 sh_68 (by decide) rfl rfl rfl rfl rfl rfl rfl rfl rfl (ac_M.imp (o_X1_draw _ (s35 3 11) H) ?_)
      rintro _ _ ⟨r50, s50, rfl, rfl, H⟩
      refine ax_istore_n (pc' := 54) dX1_meddle_53 rfl rfl rfl ?_
      refine ax_aload_n (pc' := 55) dX1_meddle_54 rfl rfl ?_
      refine ax_aload_n (pc' := 56) dX1_meddle_55 rfl rfl ?_
      refine ax_getR (pc' := 59) dX1_meddle_56 fl_X1_15 sh_68 rfl rfl rfl ?_
      refine ax_getI (pc' := 62) dX1_meddle_59 fl_X1_55 sh_3 rfl rfl rfl ?_
      refine ay_V1 (pc' := 65) (ce' := 0) (sl' := 0) (mc2 := 0) (ms2 := 0) (I2 := i_X1_draw) dX1_meddle_62 ml_X1_44 sh_68 (by decide) rfl rfl rfl rfl rfl rfl rfl rfl rfl (ac_M.imp (o_X1_draw _ (s50 3 10) H) ?_)
      rintro _ _ ⟨r62, s62, rfl, rfl, H⟩
      refine ax_istore (pc' := 67) dX1_meddle_65 rfl rfl rfl ?_
      refine ax_aload_n (pc' := 68) dX1_meddle_67 rfl rfl ?_
      refine ax_getR (pc' := 71) dX1_meddle_68 fl_X1_23 sh_68 rfl rfl rfl ?_
      refine ax_iload_n (pc' := 72) dX1_meddle_71 rfl rfl ?_
      refine ax_iload (pc' := 74) dX1_meddle_72 rfl rfl ?_
      refine ay_V2 (pc' := 77) (ce' := 0) (sl' := 0) (mc2 := 0) (ms2 := 0) (I2 := i_X5_driveOver) dX1_meddle_74 ml_X1_58 sh_50 (by decide) rfl rfl rfl rfl rfl rfl rfl rfl rfl (ac_M.imp (o_X5_driveOver _ 50 r50 r62 is_trial H) ?_)
      rintro _ _ ⟨r74, s74, rfl, rfl, H⟩
      refine ax_pop (pc' := 78) dX1_meddle_77 rfl rfl ?_
      exact ax_vret dX1_meddle_78 rfl rfl rfl ⟨_, rfl, rfl, H⟩
  · have H := H.2 hc20
    refine ax_aload_n (pc' := 24) dX1_meddle_23 rfl rfl ?_
    refine ax_getR (pc' := 27) dX1_meddle_24 fl_X1_23 sh_68 rfl rfl rfl ?_
    refine ax_iload_n (pc' := 28) dX1_meddle_27 rfl rfl ?_
    refine ay_V1 (pc' := 31) (ce' := 0) (sl' := 0) (mc2 := 0) (ms2 := 0) (I2 := i_X5_doAgain) dX1_meddle_28 ml_X1_52 sh_50 (by decide) rfl rfl rfl rfl rfl rfl rfl rfl rfl (ac_M.imp (o_X5_doAgain _ 50 r8 is_trial H) ?_)
    rintro _ _ ⟨r28, s28, rfl, rfl, H⟩
    refine ax_pop (pc' := 32) dX1_meddle_31 rfl rfl ?_
    refine ax_aload_n (pc' := 33) dX1_meddle_32 rfl rfl ?_
    refine ax_bipush (pc' := 35) (v := (16 : Int32)) dX1_meddle_33 (by decide) rfl ?_
    refine ay_V1 (pc' := 38) (ce' := 0) (sl' := 0) (mc2 := 0) (ms2 := 0) (I2 := i_X1_draw) dX1_meddle_35 ml_X1_44 sh_68 (by decide) rfl rfl rfl rfl rfl rfl rfl rfl rfl (ac_M.imp (o_X1_draw _ (16 : Int32) H) ?_)
    rintro _ _ ⟨r35, s35, rfl, rfl, H⟩
    refine ax_iload_n (pc' := 39) dX1_meddle_38 rfl rfl ?_
    refine ax_icmp_ge (pc' := 42) (tgt := 78) dX1_meddle_39 (by decide) rfl (fun hc39 => ?_) (fun hc39 => ?_)
    · have H := H.1 hc39
      exact ax_vret dX1_meddle_78 rfl rfl rfl ⟨_, rfl, rfl, H⟩
    · have H := H.2 hc39
      refine ax_aload_n (pc' := 43) dX1_meddle_42 rfl rfl ?_
      refine ax_aload_n (pc' := 44) dX1_meddle_43 rfl rfl ?_
      refine ax_getR (pc' := 47) dX1_meddle_44 fl_X1_15 sh_68 rfl rfl rfl ?_
      refine ax_getI (pc' := 50) dX1_meddle_47 fl_X1_32 sh_3 rfl rfl rfl ?_
      refine ay_V1 (pc' := 53) (ce' := 0) (sl' := 0) (mc2 := 0) (ms2 := 0) (I2 := i_X1_draw) dX1_meddle_50 ml_X1_44 sh_68 (by decide) rfl rfl rfl rfl rfl rfl rfl rfl rfl (ac_M.imp (o_X1_draw _ (s35 3 11) H) ?_)
      rintro _ _ ⟨r50, s50, rfl, rfl, H⟩
      refine ax_istore_n (pc' := 54) dX1_meddle_53 rfl rfl rfl ?_
      refine ax_aload_n (pc' := 55) dX1_meddle_54 rfl rfl ?_
      refine ax_aload_n (pc' := 56) dX1_meddle_55 rfl rfl ?_
      refine ax_getR (pc' := 59) dX1_meddle_56 fl_X1_15 sh_68 rfl rfl rfl ?_
      refine ax_getI (pc' := 62) dX1_meddle_59 fl_X1_55 sh_3 rfl rfl rfl ?_
      refine ay_V1 (pc' := 65) (ce' := 0) (sl' := 0) (mc2 := 0) (ms2 := 0) (I2 := i_X1_draw) dX1_meddle_62 ml_X1_44 sh_68 (by decide) rfl rfl rfl rfl rfl rfl rfl rfl rfl (ac_M.imp (o_X1_draw _ (s50 3 10) H) ?_)
      rintro _ _ ⟨r62, s62, rfl, rfl, H⟩
      refine ax_istore (pc' := 67) dX1_meddle_65 rfl rfl rfl ?_
      refine ax_aload_n (pc' := 68) dX1_meddle_67 rfl rfl ?_
      refine ax_getR (pc' := 71) dX1_meddle_68 fl_X1_23 sh_68 rfl rfl rfl ?_
      refine ax_iload_n (pc' := 72) dX1_meddle_71 rfl rfl ?_
      refine ax_iload (pc' := 74) dX1_meddle_72 rfl rfl ?_
      refine ay_V2 (pc' := 77) (ce' := 0) (sl' := 0) (mc2 := 0) (ms2 := 0) (I2 := i_X5_driveOver) dX1_meddle_74 ml_X1_58 sh_50 (by decide) rfl rfl rfl rfl rfl rfl rfl rfl rfl (ac_M.imp (o_X5_driveOver _ 50 r50 r62 is_trial H) ?_)
      rintro _ _ ⟨r74, s74, rfl, rfl, H⟩
      refine ax_pop (pc' := 78) dX1_meddle_77 rfl rfl ?_
      exact ax_vret dX1_meddle_78 rfl rfl rfl ⟨_, rfl, rfl, H⟩
theorem ol_X1_pass_19 {g : ac_G} {τ : Nat → Nat → Int64} (d : Nat) (p1 : Int32) (p2 : Int32) (p3 : Int32) {Q : ac_m → Prop}  (f2 : Int32) (f3 : Int32)  {x4 : Int32} {s : ac_m} (H : l_X1_pass_19 p1 p2 p3 Q  f2 f3  x4 s) : ac_X g i_X1_pass (d + 5) 0 0 (liV τ Q) 0 0 19 [some (.ref 68), none, some (.int f2), some (.int f3), some (.int x4)] [] (false, 586, SH, s, τ) := by
  refine H (fun x4 s => ac_X g i_X1_pass (d + 5) 0 0 (liV τ Q) 0 0 19 [some (.ref 68), none, some (.int f2), some (.int f3), some (.int x4)] [] (false, 586, SH, s, τ)) ?_
  intro x4 s H
  refine ax_iload (pc' := 21) dX1_pass_19 rfl rfl ?_
  refine ax_iload_n (pc' := 22) dX1_pass_21 rfl rfl ?_
  refine ax_icmp_ge (pc' := 25) (tgt := 53) dX1_pass_22 (by decide) rfl (fun hc22 => ?_) (fun hc22 => ?_)
  · have H := H.1 hc22
    exact ax_vret dX1_pass_53 rfl rfl rfl ⟨_, rfl, rfl, H⟩
  · have H := H.2 hc22
    refine ax_aload_n (pc' := 26) dX1_pass_25 rfl rfl ?_
    refine ax_getR (pc' := 29) dX1_pass_26 fl_X1_15 sh_68 rfl rfl rfl ?_
    refine ax_getI (pc' := 32) dX1_pass_29 fl_X1_32 sh_3 rfl rfl rfl ?_
    refine ax_if_le (pc' := 35) (tgt := 40) dX1_pass_32 (by decide) rfl (fun hc32 => ?_) (fun hc32 => ?_)
    · have H := H.1 hc32
      refine ax_aload_n (pc' := 41) dX1_pass_40 rfl rfl ?_
      refine ax_getR (pc' := 44) dX1_pass_41 fl_X1_23 sh_68 rfl rfl rfl ?_
      refine ay_V0 (pc' := 47) (ce' := 0) (sl' := 0) (mc2 := 0) (ms2 := 0) (I2 := i_X5_passDay) dX1_pass_44 ml_X1_41 sh_50 (by decide) rfl rfl rfl rfl rfl rfl rfl rfl rfl (ac_M.imp (o_X5_passDay _ 50 is_trial H) ?_)
      rintro _ _ ⟨s44, rfl, rfl, H⟩
      refine ax_iinc (pc' := 50) (v := (x4 + (1 : Int32))) dX1_pass_47 rfl rfl rfl rfl rfl ?_
      refine ax_goto (tgt := 19) dX1_pass_50 (by decide) ?_
      exact H
    · have H := H.2 hc32
      refine ax_aload_n (pc' := 36) dX1_pass_35 rfl rfl ?_
      refine ax_iload_n (pc' := 37) dX1_pass_36 rfl rfl ?_
      refine ay_V1 (pc' := 40) (ce' := 0) (sl' := 0) (mc2 := 0) (ms2 := 0) (I2 := i_X1_meddle) dX1_pass_37 ml_X1_37 sh_68 (by decide) rfl rfl rfl rfl rfl rfl rfl rfl rfl (ac_M.imp (o_X1_meddle _ f3 H) ?_)
      rintro _ _ ⟨s37, rfl, rfl, H⟩
      refine ax_aload_n (pc' := 41) dX1_pass_40 rfl rfl ?_
      refine ax_getR (pc' := 44) dX1_pass_41 fl_X1_23 sh_68 rfl rfl rfl ?_
      refine ay_V0 (pc' := 47) (ce' := 0) (sl' := 0) (mc2 := 0) (ms2 := 0) (I2 := i_X5_passDay) dX1_pass_44 ml_X1_41 sh_50 (by decide) rfl rfl rfl rfl rfl rfl rfl rfl rfl (ac_M.imp (o_X5_passDay _ 50 is_trial H) ?_)
      rintro _ _ ⟨s44, rfl, rfl, H⟩
      refine ax_iinc (pc' := 50) (v := (x4 + (1 : Int32))) dX1_pass_47 rfl rfl rfl rfl rfl ?_
      refine ax_goto (tgt := 19) dX1_pass_50 (by decide) ?_
      exact H
theorem o_X1_pass {g : ac_G} {τ : Nat → Nat → Int64} (d : Nat) (p1 : Int32) (p2 : Int32) (p3 : Int32) {Q : ac_m → Prop} {s : ac_m} (H : w_X1_pass p1 p2 p3 Q s) : ac_M g i_X1_pass (d + 5) 0 0 [.ref 68, .int p1, .int p2, .int p3] (false, 586, SH, s, τ) (liV τ Q) := by
  refine ac_ofX (by decide +kernel) rfl rfl rfl ?_
  refine ax_aload_n (pc' := 1) dX1_pass_0 rfl rfl ?_
  refine ax_iload_n (pc' := 2) dX1_pass_1 rfl rfl ?_
  refine ax_putI (pc' := 5) dX1_pass_2 fp_X1_9 sh_68 rfl rfl rfl ?_
  refine ax_aload_n (pc' := 6) dX1_pass_5 rfl rfl ?_
  refine ax_getR (pc' := 9) dX1_pass_6 fl_X1_23 sh_68 rfl rfl rfl ?_
  refine ax_aload_n (pc' := 10) dX1_pass_9 rfl rfl ?_
  refine ax_getR (pc' := 13) dX1_pass_10 fl_X1_19 sh_68 rfl rfl rfl ?_
  refine ay_V1 (pc' := 16) (ce' := 0) (sl' := 0) (mc2 := 0) (ms2 := 0) (I2 := i_X5_copy) dX1_pass_13 ml_X1_26 sh_50 (by decide) rfl rfl rfl rfl rfl rfl rfl rfl rfl (ac_M.imp (o_X5_copy _  H) ?_)
  rintro _ _ ⟨s13, rfl, rfl, H⟩
  refine ax_iconst (pc' := 17) (v := (0 : Int32)) dX1_pass_16 (by decide) rfl ?_
  refine ax_istore (pc' := 19) dX1_pass_17 rfl rfl rfl ?_
  refine ax_drop 1 rfl ?_
  refine ol_X1_pass_19 d p1 p2 p3  _ _    H
theorem ol_X9_fits_32 {g : ac_G} {τ : Nat → Nat → Int64} (d : Nat) (p1 : Int32) (p2 : Int32) (p3 : Int32) (p4 : Int32) {Q : Int32 → ac_m → Prop}  (f1 : Int32) (f4 : Int32)  {x5 : Int32} {s : ac_m} (H : l_X9_fits_32 p1 p2 p3 p4 Q  f1 f4  x5 s) : ac_X g i_X9_fits (d + 5) 0 0 (liI τ Q) 0 0 32 [some (.ref 65), some (.int f1), none, none, some (.int f4), some (.int x5)] [] (false, 586, SH, s, τ) := by
  refine H (fun x5 s => ac_X g i_X9_fits (d + 5) 0 0 (liI τ Q) 0 0 32 [some (.ref 65), some (.int f1), none, none, some (.int f4), some (.int x5)] [] (false, 586, SH, s, τ)) ?_
  intro x5 s H
  refine ax_iload (pc' := 34) dX9_fits_32 rfl rfl ?_
  refine ax_iload (pc' := 36) dX9_fits_34 rfl rfl ?_
  refine ax_icmp_gt (pc' := 39) (tgt := 95) dX9_fits_36 (by decide) rfl (fun hc36 => ?_) (fun hc36 => ?_)
  · have H := H.1 hc36
    refine ax_iconst (pc' := 96) (v := (1 : Int32)) dX9_fits_95 (by decide) rfl ?_
    exact ax_zret dX9_fits_96 rfl rfl rfl rfl ⟨_, _, rfl, rfl, H⟩
  · have H := H.2 hc36
    refine ax_iload (pc' := 41) dX9_fits_39 rfl rfl ?_
    refine ax_bipush (pc' := 43) (v := (12 : Int32)) dX9_fits_41 (by decide) rfl ?_
    refine ax_icmp_gt (pc' := 46) (tgt := 95) dX9_fits_43 (by decide) rfl (fun hc43 => ?_) (fun hc43 => ?_)
    · have H := H.1 hc43
      refine ax_iconst (pc' := 96) (v := (1 : Int32)) dX9_fits_95 (by decide) rfl ?_
      exact ax_zret dX9_fits_96 rfl rfl rfl rfl ⟨_, _, rfl, rfl, H⟩
    · have H := H.2 hc43
      refine ax_aload_n (pc' := 47) dX9_fits_46 rfl rfl ?_
      refine ax_getR (pc' := 50) dX9_fits_47 fl_X9_35 sh_65 rfl rfl rfl ?_
      refine ay_V0 (pc' := 53) (ce' := 0) (sl' := 0) (mc2 := 0) (ms2 := 0) (I2 := i_X5_passDay) dX9_fits_50 ml_X9_66 sh_50 (by decide) rfl rfl rfl rfl rfl rfl rfl rfl rfl (ac_M.imp (o_X5_passDay _ 50 is_trial H) ?_)
      rintro _ _ ⟨s50, rfl, rfl, H⟩
      refine ax_aload_n (pc' := 54) dX9_fits_53 rfl rfl ?_
      refine ax_getR (pc' := 57) dX9_fits_54 fl_X9_9 sh_65 rfl rfl rfl ?_
      refine ax_iload (pc' := 59) dX9_fits_57 rfl rfl ?_
      refine ax_aload_n (pc' := 60) dX9_fits_59 rfl rfl ?_
      refine ax_getR (pc' := 63) dX9_fits_60 fl_X9_35 sh_65 rfl rfl rfl ?_
      refine ax_iload_n (pc' := 64) dX9_fits_63 rfl rfl ?_
      refine ay_V1 (pc' := 67) (ce' := 0) (sl' := 0) (mc2 := 0) (ms2 := 0) (I2 := i_X5_grassOf) dX9_fits_64 ml_X9_69 sh_50 (by decide) rfl rfl rfl rfl rfl rfl rfl rfl rfl (ac_M.imp (o_X5_grassOf _ 50 f1 is_trial H) ?_)
      rintro _ _ ⟨r64, s64, rfl, rfl, H⟩
      obtain ⟨hj67, H⟩ := H
      refine ax_iast (pc' := 68) dX9_fits_67 sh_66 hj67 rfl rfl ?_
      refine ax_aload_n (pc' := 69) dX9_fits_68 rfl rfl ?_
      refine ax_getR (pc' := 72) dX9_fits_69 fl_X9_38 sh_65 rfl rfl rfl ?_
      refine ax_iload (pc' := 74) dX9_fits_72 rfl rfl ?_
      refine ax_aload_n (pc' := 75) dX9_fits_74 rfl rfl ?_
      refine ax_getR (pc' := 78) dX9_fits_75 fl_X9_9 sh_65 rfl rfl rfl ?_
      refine ax_iload (pc' := 80) dX9_fits_78 rfl rfl ?_
      obtain ⟨hj80, H⟩ := H
      refine ax_iald (pc' := 81) dX9_fits_80 sh_66 hj80 rfl rfl ?_
      refine ay_V2 (pc' := 84) (ce' := 0) (sl' := 0) (mc2 := 0) (ms2 := 0) (I2 := i_X0_allows) dX9_fits_81 ml_X9_73 sh_33 (by decide) rfl rfl rfl rfl rfl rfl rfl rfl rfl (ac_M.imp (o_X0_allows _ x5 ((ac_u s64 66 x5.toNatClampNeg r64) 66 x5.toNatClampNeg) H) ?_)
      rintro _ _ ⟨r81, s81, rfl, rfl, H⟩
      refine ax_if_ne (pc' := 87) (tgt := 89) dX9_fits_84 (by decide) rfl (fun hc84 => ?_) (fun hc84 => ?_)
      · have H := H.1 hc84
        refine ax_iinc (pc' := 92) (v := (x5 + (1 : Int32))) dX9_fits_89 rfl rfl rfl rfl rfl ?_
        refine ax_goto (tgt := 32) dX9_fits_92 (by decide) ?_
        exact H
      · have H := H.2 hc84
        refine ax_iconst (pc' := 88) (v := (0 : Int32)) dX9_fits_87 (by decide) rfl ?_
        exact ax_zret dX9_fits_88 rfl rfl rfl rfl ⟨_, _, rfl, rfl, H⟩
theorem o_X9_fits {g : ac_G} {τ : Nat → Nat → Int64} (d : Nat) (p1 : Int32) (p2 : Int32) (p3 : Int32) (p4 : Int32) {Q : Int32 → ac_m → Prop} {s : ac_m} (H : w_X9_fits p1 p2 p3 p4 Q s) : ac_M g i_X9_fits (d + 5) 0 0 [.ref 65, .int p1, .int p2, .int p3, .int p4] (false, 586, SH, s, τ) (liI τ Q) := by
  refine ac_ofX (by decide +kernel) rfl rfl rfl ?_
  refine ax_aload_n (pc' := 1) dX9_fits_0 rfl rfl ?_
  refine ax_getR (pc' := 4) dX9_fits_1 fl_X9_35 sh_65 rfl rfl rfl ?_
  refine ax_aload_n (pc' := 5) dX9_fits_4 rfl rfl ?_
  refine ax_getR (pc' := 8) dX9_fits_5 fl_X9_31 sh_65 rfl rfl rfl ?_
  refine ay_V1 (pc' := 11) (ce' := 0) (sl' := 0) (mc2 := 0) (ms2 := 0) (I2 := i_X5_copy) dX9_fits_8 ml_X9_52 sh_50 (by decide) rfl rfl rfl rfl rfl rfl rfl rfl rfl (ac_M.imp (o_X5_copy _  H) ?_)
  rintro _ _ ⟨s8, rfl, rfl, H⟩
  refine ax_aload_n (pc' := 12) dX9_fits_11 rfl rfl ?_
  refine ax_getR (pc' := 15) dX9_fits_12 fl_X9_35 sh_65 rfl rfl rfl ?_
  refine ax_iload_n (pc' := 16) dX9_fits_15 rfl rfl ?_
  refine ay_V1 (pc' := 19) (ce' := 0) (sl' := 0) (mc2 := 0) (ms2 := 0) (I2 := i_X5_keepOnly) dX9_fits_16 ml_X9_58 sh_50 (by decide) rfl rfl rfl rfl rfl rfl rfl rfl rfl (ac_M.imp (o_X5_keepOnly _ p1 H) ?_)
  rintro _ _ ⟨s16, rfl, rfl, H⟩
  refine ax_aload_n (pc' := 20) dX9_fits_19 rfl rfl ?_
  refine ax_getR (pc' := 23) dX9_fits_20 fl_X9_35 sh_65 rfl rfl rfl ?_
  refine ax_iload_n (pc' := 24) dX9_fits_23 rfl rfl ?_
  refine ax_iload_n (pc' := 25) dX9_fits_24 rfl rfl ?_
  refine ax_iload_n (pc' := 26) dX9_fits_25 rfl rfl ?_
  refine ay_V3 (pc' := 29) (ce' := 0) (sl' := 0) (mc2 := 0) (ms2 := 0) (I2 := i_X5_addStranger) dX9_fits_26 ml_X9_62 sh_50 (by decide) rfl rfl rfl rfl rfl rfl rfl rfl rfl (ac_M.imp (o_X5_addStranger _ p1 p2 p3 H) ?_)
  rintro _ _ ⟨s26, rfl, rfl, H⟩
  refine ax_iconst (pc' := 30) (v := (1 : Int32)) dX9_fits_29 (by decide) rfl ?_
  refine ax_istore (pc' := 32) dX9_fits_30 rfl rfl rfl ?_
  refine ax_drop 2 rfl ?_
  refine ax_drop 3 rfl ?_
  refine ol_X9_fits_32 d p1 p2 p3 p4  _ _    H
theorem ol_X9_search_29 {g : ac_G} {τ : Nat → Nat → Int64} (d : Nat) (p1 : Int32) {Q : ac_m → Prop} {K90 : ac_m → Prop} (f1 : Int32) (f2 : Int32) (f3 : Int32)  {x4 : Int32} {s : ac_m} (hK90 : ∀  (s : ac_m), K90  s → ac_X g i_X9_search (d + 6) 0 0 (liV τ Q) 0 0 90 [some (.ref 65), some (.int f1), some (.int f2), some (.int f3), none] [] (false, 586, SH, s, τ)) (H : l_X9_search_29 p1 Q K90 f1 f2 f3  x4 s) : ac_X g i_X9_search (d + 6) 0 0 (liV τ Q) 0 0 29 [some (.ref 65), some (.int f1), some (.int f2), some (.int f3), some (.int x4)] [] (false, 586, SH, s, τ) := by
  refine H (fun x4 s => ac_X g i_X9_search (d + 6) 0 0 (liV τ Q) 0 0 29 [some (.ref 65), some (.int f1), some (.int f2), some (.int f3), some (.int x4)] [] (false, 586, SH, s, τ)) ?_
  intro x4 s H
  refine ax_iload (pc' := 31) dX9_search_29 rfl rfl ?_
  refine ax_bipush (pc' := 33) (v := (30 : Int32)) dX9_search_31 (by decide) rfl ?_
  refine ax_icmp_gt (pc' := 36) (tgt := 90) dX9_search_33 (by decide) rfl (fun hc33 => ?_) (fun hc33 => ?_)
  · have H := H.1 hc33
    refine ax_drop 4 rfl ?_
    exact hK90 _ H
  · have H := H.2 hc33
    refine ax_aload_n (pc' := 37) dX9_search_36 rfl rfl ?_
    refine ax_iload_n (pc' := 38) dX9_search_37 rfl rfl ?_
    refine ax_iload_n (pc' := 39) dX9_search_38 rfl rfl ?_
    refine ax_iload (pc' := 41) dX9_search_39 rfl rfl ?_
    refine ax_iload_n (pc' := 42) dX9_search_41 rfl rfl ?_
    refine ay_V4 (pc' := 45) (ce' := 0) (sl' := 0) (mc2 := 0) (ms2 := 0) (I2 := i_X9_fits) dX9_search_42 ml_X9_48 sh_65 (by decide) rfl rfl rfl rfl rfl rfl rfl rfl rfl (ac_M.imp (o_X9_fits _ f1 f3 x4 f2 H) ?_)
    rintro _ _ ⟨r42, s42, rfl, rfl, H⟩
    refine ax_if_eq (pc' := 48) (tgt := 84) dX9_search_45 (by decide) rfl (fun hc45 => ?_) (fun hc45 => ?_)
    · have H := H.1 hc45
      refine ax_iinc (pc' := 87) (v := (x4 + (1 : Int32))) dX9_search_84 rfl rfl rfl rfl rfl ?_
      refine ax_goto (tgt := 29) dX9_search_87 (by decide) ?_
      exact H
    · have H := H.2 hc45
      refine ax_aload_n (pc' := 49) dX9_search_48 rfl rfl ?_
      refine ax_dup (pc' := 50) dX9_search_49 rfl rfl ?_
      refine ax_getI (pc' := 53) dX9_search_50 fl_X9_18 sh_65 rfl rfl rfl ?_
      refine ax_iconst (pc' := 54) (v := (1 : Int32)) dX9_search_53 (by decide) rfl ?_
      refine ax_iadd (pc' := 55) dX9_search_54 rfl ?_
      refine ax_putI (pc' := 58) dX9_search_55 fp_X9_18 sh_65 rfl rfl rfl ?_
      refine ax_aload_n (pc' := 59) dX9_search_58 rfl rfl ?_
      refine ax_aload_n (pc' := 60) dX9_search_59 rfl rfl ?_
      refine ax_getI (pc' := 63) dX9_search_60 fl_X9_22 sh_65 rfl rfl rfl ?_
      refine ax_iconst (pc' := 64) (v := (-1 : Int32)) dX9_search_63 (by decide) rfl ?_
      refine ax_icmp_ne (pc' := 67) (tgt := 77) dX9_search_64 (by decide) rfl (fun hc64 => ?_) (fun hc64 => ?_)
      · have H := H.1 hc64
        refine ax_aload_n (pc' := 78) dX9_search_77 rfl rfl ?_
        refine ax_getI (pc' := 81) dX9_search_78 fl_X9_22 sh_65 rfl rfl rfl ?_
        refine ax_putI (pc' := 84) dX9_search_81 fp_X9_22 sh_65 rfl rfl rfl ?_
        refine ax_iinc (pc' := 87) (v := (x4 + (1 : Int32))) dX9_search_84 rfl rfl rfl rfl rfl ?_
        refine ax_goto (tgt := 29) dX9_search_87 (by decide) ?_
        exact H
      · have H := H.2 hc64
        refine ax_bipush (pc' := 69) (v := (100 : Int32)) dX9_search_67 (by decide) rfl ?_
        refine ax_iload_n (pc' := 70) dX9_search_69 rfl rfl ?_
        refine ax_imul (pc' := 71) dX9_search_70 rfl ?_
        refine ax_iload (pc' := 73) dX9_search_71 rfl rfl ?_
        refine ax_iadd (pc' := 74) dX9_search_73 rfl ?_
        refine ax_goto (tgt := 81) dX9_search_74 (by decide) ?_
        refine ax_putI (pc' := 84) dX9_search_81 fp_X9_22 sh_65 rfl rfl rfl ?_
        refine ax_iinc (pc' := 87) (v := (x4 + (1 : Int32))) dX9_search_84 rfl rfl rfl rfl rfl ?_
        refine ax_goto (tgt := 29) dX9_search_87 (by decide) ?_
        exact H
theorem ol_X9_search_20 {g : ac_G} {τ : Nat → Nat → Int64} (d : Nat) (p1 : Int32) {Q : ac_m → Prop}  (f1 : Int32) (f2 : Int32)  {x3 : Int32} {s : ac_m} (H : l_X9_search_20 p1 Q  f1 f2  x3 s) : ac_X g i_X9_search (d + 6) 0 0 (liV τ Q) 0 0 20 [some (.ref 65), some (.int f1), some (.int f2), some (.int x3), none] [] (false, 586, SH, s, τ) := by
  refine H (fun x3 s => ac_X g i_X9_search (d + 6) 0 0 (liV τ Q) 0 0 20 [some (.ref 65), some (.int f1), some (.int f2), some (.int x3), none] [] (false, 586, SH, s, τ)) ?_
  intro x3 s H
  refine ax_iload_n (pc' := 21) dX9_search_20 rfl rfl ?_
  refine ax_bipush (pc' := 23) (v := (6 : Int32)) dX9_search_21 (by decide) rfl ?_
  refine ax_icmp_ge (pc' := 26) (tgt := 96) dX9_search_23 (by decide) rfl (fun hc23 => ?_) (fun hc23 => ?_)
  · have H := H.1 hc23
    exact ax_vret dX9_search_96 rfl rfl rfl ⟨_, rfl, rfl, H⟩
  · have H := H.2 hc23
    refine ax_iconst (pc' := 27) (v := (1 : Int32)) dX9_search_26 (by decide) rfl ?_
    refine ax_istore (pc' := 29) dX9_search_27 rfl rfl rfl ?_
    refine ol_X9_search_29 d p1  _ _ _   ?_ H
    · intro  sk29 H
      refine ax_iinc (pc' := 93) (v := (x3 + (1 : Int32))) dX9_search_90 rfl rfl rfl rfl rfl ?_
      refine ax_goto (tgt := 20) dX9_search_93 (by decide) ?_
      exact H
theorem o_X9_search {g : ac_G} {τ : Nat → Nat → Int64} (d : Nat) (p1 : Int32) {Q : ac_m → Prop} {s : ac_m} (H : w_X9_search p1 Q s) : ac_M g i_X9_search (d + 6) 0 0 [.ref 65, .int p1] (false, 586, SH, s, τ) (liV τ Q) := by
  refine ac_ofX (by decide +kernel) rfl rfl rfl ?_
  refine ax_aload_n (pc' := 1) dX9_search_0 rfl rfl ?_
  refine ax_iconst (pc' := 2) (v := (0 : Int32)) dX9_search_1 (by decide) rfl ?_
  refine ax_putI (pc' := 5) dX9_search_2 fp_X9_18 sh_65 rfl rfl rfl ?_
  refine ax_aload_n (pc' := 6) dX9_search_5 rfl rfl ?_
  refine ax_iconst (pc' := 7) (v := (-1 : Int32)) dX9_search_6 (by decide) rfl ?_
  refine ax_putI (pc' := 10) dX9_search_7 fp_X9_22 sh_65 rfl rfl rfl ?_
  refine ax_aload_n (pc' := 11) dX9_search_10 rfl rfl ?_
  refine ax_getR (pc' := 14) dX9_search_11 fl_X9_38 sh_65 rfl rfl rfl ?_
  refine ay_V0 (pc' := 17) (ce' := 0) (sl' := 0) (mc2 := 0) (ms2 := 0) (I2 := i_X0_lastDay) dX9_search_14 ml_X9_42 sh_33 (by decide) rfl rfl rfl rfl rfl rfl rfl rfl rfl (ac_M.imp (o_X0_lastDay _  H) ?_)
  rintro _ _ ⟨r14, s14, rfl, rfl, H⟩
  refine ax_istore_n (pc' := 18) dX9_search_17 rfl rfl rfl ?_
  refine ax_iconst (pc' := 19) (v := (0 : Int32)) dX9_search_18 (by decide) rfl ?_
  refine ax_istore_n (pc' := 20) dX9_search_19 rfl rfl rfl ?_
  refine ol_X9_search_20 d p1  _ _    H
theorem ol_X9_tally_2 {g : ac_G} {τ : Nat → Nat → Int64} (d : Nat)  {Q : ac_m → Prop}    {x1 : Int32} {s : ac_m} (H : l_X9_tally_2  Q    x1 s) : ac_X g i_X9_tally d 0 0 (liV τ Q) 0 0 2 [some (.ref 65), some (.int x1), none] [] (false, 586, SH, s, τ) := by
  refine H (fun x1 s => ac_X g i_X9_tally d 0 0 (liV τ Q) 0 0 2 [some (.ref 65), some (.int x1), none] [] (false, 586, SH, s, τ)) ?_
  intro x1 s H
  refine ax_iload_n (pc' := 3) dX9_tally_2 rfl rfl ?_
  refine ax_bipush (pc' := 5) (v := (12 : Int32)) dX9_tally_3 (by decide) rfl ?_
  refine ax_icmp_gt (pc' := 8) (tgt := 49) dX9_tally_5 (by decide) rfl (fun hc5 => ?_) (fun hc5 => ?_)
  · have H := H.1 hc5
    exact ax_vret dX9_tally_49 rfl rfl rfl ⟨_, rfl, rfl, H⟩
  · have H := H.2 hc5
    refine ax_iload_n (pc' := 9) dX9_tally_8 rfl rfl ?_
    refine ax_bipush (pc' := 11) (v := (100 : Int32)) dX9_tally_9 (by decide) rfl ?_
    refine ax_imul (pc' := 12) dX9_tally_11 rfl ?_
    refine ax_aload_n (pc' := 13) dX9_tally_12 rfl rfl ?_
    refine ax_getR (pc' := 16) dX9_tally_13 fl_X9_9 sh_65 rfl rfl rfl ?_
    refine ax_iload_n (pc' := 17) dX9_tally_16 rfl rfl ?_
    obtain ⟨hj17, H⟩ := H
    refine ax_iald (pc' := 18) dX9_tally_17 sh_66 hj17 rfl rfl ?_
    refine ax_iadd (pc' := 19) dX9_tally_18 rfl ?_
    refine ax_istore_n (pc' := 20) dX9_tally_19 rfl rfl rfl ?_
    refine ax_iload_n (pc' := 21) dX9_tally_20 rfl rfl ?_
    refine ax_if_lt (pc' := 24) (tgt := 43) dX9_tally_21 (by decide) rfl (fun hc21 => ?_) (fun hc21 => ?_)
    · have H := H.1 hc21
      refine ax_iinc (pc' := 46) (v := (x1 + (1 : Int32))) dX9_tally_43 rfl rfl rfl rfl rfl ?_
      refine ax_goto (tgt := 2) dX9_tally_46 (by decide) ?_
      refine ax_drop 2 rfl ?_
      exact H
    · have H := H.2 hc21
      refine ax_iload_n (pc' := 25) dX9_tally_24 rfl rfl ?_
      refine ax_aload_n (pc' := 26) dX9_tally_25 rfl rfl ?_
      refine ax_getR (pc' := 29) dX9_tally_26 fl_X9_15 sh_65 rfl rfl rfl ?_
      refine ax_alen (pc' := 30) (v := (1300 : Int32)) dX9_tally_29 sh_67 rfl (by decide) rfl rfl ?_
      refine ax_icmp_ge (pc' := 33) (tgt := 43) dX9_tally_30 (by decide) rfl (fun hc30 => ?_) (fun hc30 => ?_)
      · have H := H.1 hc30
        refine ax_iinc (pc' := 46) (v := (x1 + (1 : Int32))) dX9_tally_43 rfl rfl rfl rfl rfl ?_
        refine ax_goto (tgt := 2) dX9_tally_46 (by decide) ?_
        refine ax_drop 2 rfl ?_
        exact H
      · have H := H.2 hc30
        refine ax_aload_n (pc' := 34) dX9_tally_33 rfl rfl ?_
        refine ax_getR (pc' := 37) dX9_tally_34 fl_X9_15 sh_65 rfl rfl rfl ?_
        refine ax_iload_n (pc' := 38) dX9_tally_37 rfl rfl ?_
        refine ax_dup2 (pc' := 39) dX9_tally_38 rfl rfl rfl ?_
        obtain ⟨hj39, H⟩ := H
        refine ax_iald (pc' := 40) dX9_tally_39 sh_67 hj39 rfl rfl ?_
        refine ax_iconst (pc' := 41) (v := (1 : Int32)) dX9_tally_40 (by decide) rfl ?_
        refine ax_iadd (pc' := 42) dX9_tally_41 rfl ?_
        obtain ⟨hj42, H⟩ := H
        refine ax_iast (pc' := 43) dX9_tally_42 sh_67 hj42 rfl rfl ?_
        refine ax_iinc (pc' := 46) (v := (x1 + (1 : Int32))) dX9_tally_43 rfl rfl rfl rfl rfl ?_
        refine ax_goto (tgt := 2) dX9_tally_46 (by decide) ?_
        refine ax_drop 2 rfl ?_
        exact H
theorem o_X9_tally {g : ac_G} {τ : Nat → Nat → Int64} (d : Nat)  {Q : ac_m → Prop} {s : ac_m} (H : w_X9_tally  Q s) : ac_M g i_X9_tally d 0 0 [.ref 65] (false, 586, SH, s, τ) (liV τ Q) := by
  refine ac_ofX (by decide +kernel) rfl rfl rfl ?_
  refine ax_iconst (pc' := 1) (v := (1 : Int32)) dX9_tally_0 (by decide) rfl ?_
  refine ax_istore_n (pc' := 2) dX9_tally_1 rfl rfl rfl ?_
  refine ol_X9_tally_2 d       H
theorem ol_X9_weighDay_4 {g : ac_G} {τ : Nat → Nat → Int64} (d : Nat) (p1 : Int32) {Q : ac_m → Prop}  (f1 : Int32)  {x2 : Int32} {x3 : Int32} {s : ac_m} (H : l_X9_weighDay_4 p1 Q  f1  x2 x3 s) : ac_X g i_X9_weighDay d 0 0 (liV τ Q) 0 0 4 [some (.ref 65), some (.int f1), some (.int x2), some (.int x3), none] [] (false, 586, SH, s, τ) := by
  refine H (fun x2 x3 s => ac_X g i_X9_weighDay d 0 0 (liV τ Q) 0 0 4 [some (.ref 65), some (.int f1), some (.int x2), some (.int x3), none] [] (false, 586, SH, s, τ)) ?_
  intro x2 x3 s H
  refine ax_iload_n (pc' := 5) dX9_weighDay_4 rfl rfl ?_
  refine ax_bipush (pc' := 7) (v := (100 : Int32)) dX9_weighDay_5 (by decide) rfl ?_
  refine ax_icmp_ge (pc' := 10) (tgt := 51) dX9_weighDay_7 (by decide) rfl (fun hc7 => ?_) (fun hc7 => ?_)
  · have H := H.1 hc7
    refine ax_aload_n (pc' := 52) dX9_weighDay_51 rfl rfl ?_
    refine ax_getI (pc' := 55) dX9_weighDay_52 fl_X9_25 sh_65 rfl rfl rfl ?_
    refine ax_iconst (pc' := 56) (v := (-1 : Int32)) dX9_weighDay_55 (by decide) rfl ?_
    refine ax_icmp_eq (pc' := 59) (tgt := 67) dX9_weighDay_56 (by decide) rfl (fun hc56 => ?_) (fun hc56 => ?_)
    · have H := H.1 hc56
      refine ax_aload_n (pc' := 68) dX9_weighDay_67 rfl rfl ?_
      refine ax_iload_n (pc' := 69) dX9_weighDay_68 rfl rfl ?_
      refine ax_putI (pc' := 72) dX9_weighDay_69 fp_X9_25 sh_65 rfl rfl rfl ?_
      refine ax_aload_n (pc' := 73) dX9_weighDay_72 rfl rfl ?_
      refine ax_iload_n (pc' := 74) dX9_weighDay_73 rfl rfl ?_
      refine ax_putI (pc' := 77) dX9_weighDay_74 fp_X9_28 sh_65 rfl rfl rfl ?_
      exact ax_vret dX9_weighDay_77 rfl rfl rfl ⟨_, rfl, rfl, H⟩
    · have H := H.2 hc56
      refine ax_iload_n (pc' := 60) dX9_weighDay_59 rfl rfl ?_
      refine ax_aload_n (pc' := 61) dX9_weighDay_60 rfl rfl ?_
      refine ax_getI (pc' := 64) dX9_weighDay_61 fl_X9_28 sh_65 rfl rfl rfl ?_
      refine ax_icmp_ge (pc' := 67) (tgt := 77) dX9_weighDay_64 (by decide) rfl (fun hc64 => ?_) (fun hc64 => ?_)
      · have H := H.1 hc64
        exact ax_vret dX9_weighDay_77 rfl rfl rfl ⟨_, rfl, rfl, H⟩
      · have H := H.2 hc64
        refine ax_aload_n (pc' := 68) dX9_weighDay_67 rfl rfl ?_
        refine ax_iload_n (pc' := 69) dX9_weighDay_68 rfl rfl ?_
        refine ax_putI (pc' := 72) dX9_weighDay_69 fp_X9_25 sh_65 rfl rfl rfl ?_
        refine ax_aload_n (pc' := 73) dX9_weighDay_72 rfl rfl ?_
        refine ax_iload_n (pc' := 74) dX9_weighDay_73 rfl rfl ?_
        refine ax_putI (pc' := 77) dX9_weighDay_74 fp_X9_28 sh_65 rfl rfl rfl ?_
        exact ax_vret dX9_weighDay_77 rfl rfl rfl ⟨_, rfl, rfl, H⟩
  · have H := H.2 hc7
    refine ax_iload_n (pc' := 11) dX9_weighDay_10 rfl rfl ?_
    refine ax_bipush (pc' := 13) (v := (100 : Int32)) dX9_weighDay_11 (by decide) rfl ?_
    refine ax_imul (pc' := 14) dX9_weighDay_13 rfl ?_
    refine ax_iload_n (pc' := 15) dX9_weighDay_14 rfl rfl ?_
    refine ax_iadd (pc' := 16) dX9_weighDay_15 rfl ?_
    refine ax_istore (pc' := 18) dX9_weighDay_16 rfl rfl rfl ?_
    refine ax_iload (pc' := 20) dX9_weighDay_18 rfl rfl ?_
    refine ax_if_lt (pc' := 23) (tgt := 45) dX9_weighDay_20 (by decide) rfl (fun hc20 => ?_) (fun hc20 => ?_)
    · have H := H.1 hc20
      refine ax_iinc (pc' := 48) (v := (x3 + (1 : Int32))) dX9_weighDay_45 rfl rfl rfl rfl rfl ?_
      refine ax_goto (tgt := 4) dX9_weighDay_48 (by decide) ?_
      refine ax_drop 4 rfl ?_
      exact H
    · have H := H.2 hc20
      refine ax_iload (pc' := 25) dX9_weighDay_23 rfl rfl ?_
      refine ax_aload_n (pc' := 26) dX9_weighDay_25 rfl rfl ?_
      refine ax_getR (pc' := 29) dX9_weighDay_26 fl_X9_15 sh_65 rfl rfl rfl ?_
      refine ax_alen (pc' := 30) (v := (1300 : Int32)) dX9_weighDay_29 sh_67 rfl (by decide) rfl rfl ?_
      refine ax_icmp_ge (pc' := 33) (tgt := 45) dX9_weighDay_30 (by decide) rfl (fun hc30 => ?_) (fun hc30 => ?_)
      · have H := H.1 hc30
        refine ax_iinc (pc' := 48) (v := (x3 + (1 : Int32))) dX9_weighDay_45 rfl rfl rfl rfl rfl ?_
        refine ax_goto (tgt := 4) dX9_weighDay_48 (by decide) ?_
        refine ax_drop 4 rfl ?_
        exact H
      · have H := H.2 hc30
        refine ax_iload_n (pc' := 34) dX9_weighDay_33 rfl rfl ?_
        refine ax_aload_n (pc' := 35) dX9_weighDay_34 rfl rfl ?_
        refine ax_getR (pc' := 38) dX9_weighDay_35 fl_X9_15 sh_65 rfl rfl rfl ?_
        refine ax_iload (pc' := 40) dX9_weighDay_38 rfl rfl ?_
        obtain ⟨hj40, H⟩ := H
        refine ax_iald (pc' := 41) dX9_weighDay_40 sh_67 hj40 rfl rfl ?_
        refine ax_max (pc' := 44) dX9_weighDay_41 mj_X9_93 mk_max.1 mk_max.2.1 mk_max.2.2 rfl rfl rfl rfl ?_
        refine ax_topi (fun y44 hy44 => ?_)
        have H := H y44 hy44
        refine ax_istore_n (pc' := 45) dX9_weighDay_44 rfl rfl rfl ?_
        refine ax_iinc (pc' := 48) (v := (x3 + (1 : Int32))) dX9_weighDay_45 rfl rfl rfl rfl rfl ?_
        refine ax_goto (tgt := 4) dX9_weighDay_48 (by decide) ?_
        refine ax_drop 4 rfl ?_
        exact H
theorem o_X9_weighDay {g : ac_G} {τ : Nat → Nat → Int64} (d : Nat) (p1 : Int32) {Q : ac_m → Prop} {s : ac_m} (H : w_X9_weighDay p1 Q s) : ac_M g i_X9_weighDay d 0 0 [.ref 65, .int p1] (false, 586, SH, s, τ) (liV τ Q) := by
  refine ac_ofX (by decide +kernel) rfl rfl rfl ?_
  refine ax_iconst (pc' := 1) (v := (0 : Int32)) dX9_weighDay_0 (by decide) rfl ?_
  refine ax_istore_n (pc' := 2) dX9_weighDay_1 rfl rfl rfl ?_
  refine ax_iconst (pc' := 3) (v := (0 : Int32)) dX9_weighDay_2 (by decide) rfl ?_
  refine ax_istore_n (pc' := 4) dX9_weighDay_3 rfl rfl rfl ?_
  refine ol_X9_weighDay_4 d p1  _    H
theorem ol_X9_chooseDay_59 {g : ac_G} {τ : Nat → Nat → Int64} (d : Nat) (p1 : Int32) {Q : ac_m → Prop}    {x2 : Int32} {s : ac_m} (H : l_X9_chooseDay_59 p1 Q    x2 s) : ac_X g i_X9_chooseDay (d + 6) 0 0 (liV τ Q) 0 0 59 [some (.ref 65), none, some (.int x2), none] [] (false, 586, SH, s, τ) := by
  refine H (fun x2 s => ac_X g i_X9_chooseDay (d + 6) 0 0 (liV τ Q) 0 0 59 [some (.ref 65), none, some (.int x2), none] [] (false, 586, SH, s, τ)) ?_
  intro x2 s H
  refine ax_iload_n (pc' := 60) dX9_chooseDay_59 rfl rfl ?_
  refine ax_bipush (pc' := 62) (v := (12 : Int32)) dX9_chooseDay_60 (by decide) rfl ?_
  refine ax_icmp_gt (pc' := 65) (tgt := 87) dX9_chooseDay_62 (by decide) rfl (fun hc62 => ?_) (fun hc62 => ?_)
  · have H := H.1 hc62
    exact ax_vret dX9_chooseDay_87 rfl rfl rfl ⟨_, rfl, rfl, H⟩
  · have H := H.2 hc62
    refine ax_aload_n (pc' := 66) dX9_chooseDay_65 rfl rfl ?_
    refine ax_getR (pc' := 69) dX9_chooseDay_66 fl_X9_38 sh_65 rfl rfl rfl ?_
    refine ax_iload_n (pc' := 70) dX9_chooseDay_69 rfl rfl ?_
    refine ay_V1 (pc' := 73) (ce' := 0) (sl' := 0) (mc2 := 0) (ms2 := 0) (I2 := i_X0_hasLine) dX9_chooseDay_70 ml_X9_86 sh_33 (by decide) rfl rfl rfl rfl rfl rfl rfl rfl rfl (ac_M.imp (o_X0_hasLine _ x2 H) ?_)
    rintro _ _ ⟨r70, s70, rfl, rfl, H⟩
    refine ax_if_ne (pc' := 76) (tgt := 81) dX9_chooseDay_73 (by decide) rfl (fun hc73 => ?_) (fun hc73 => ?_)
    · have H := H.1 hc73
      refine ax_iinc (pc' := 84) (v := (x2 + (1 : Int32))) dX9_chooseDay_81 rfl rfl rfl rfl rfl ?_
      refine ax_goto (tgt := 59) dX9_chooseDay_84 (by decide) ?_
      exact H
    · have H := H.2 hc73
      refine ax_aload_n (pc' := 77) dX9_chooseDay_76 rfl rfl ?_
      refine ax_iload_n (pc' := 78) dX9_chooseDay_77 rfl rfl ?_
      refine ay_V1 (pc' := 81) (ce' := 0) (sl' := 0) (mc2 := 0) (ms2 := 0) (I2 := i_X9_weighDay) dX9_chooseDay_78 ml_X9_90 sh_65 (by decide) rfl rfl rfl rfl rfl rfl rfl rfl rfl (ac_M.imp (o_X9_weighDay _ x2 H) ?_)
      rintro _ _ ⟨s78, rfl, rfl, H⟩
      refine ax_iinc (pc' := 84) (v := (x2 + (1 : Int32))) dX9_chooseDay_81 rfl rfl rfl rfl rfl ?_
      refine ax_goto (tgt := 59) dX9_chooseDay_84 (by decide) ?_
      exact H
theorem ol_X9_chooseDay_18 {g : ac_G} {τ : Nat → Nat → Int64} (d : Nat) (p1 : Int32) {Q : ac_m → Prop} {K46 : ac_m → Prop} (f1 : Int32) (f2 : Int32)  {x3 : Int32} {s : ac_m} (hK46 : ∀  (s : ac_m), K46  s → ac_X g i_X9_chooseDay (d + 6) 0 0 (liV τ Q) 0 0 46 [some (.ref 65), some (.int f1), some (.int f2), none] [] (false, 586, SH, s, τ)) (H : l_X9_chooseDay_18 p1 Q K46 f1 f2  x3 s) : ac_X g i_X9_chooseDay (d + 6) 0 0 (liV τ Q) 0 0 18 [some (.ref 65), some (.int f1), some (.int f2), some (.int x3)] [] (false, 586, SH, s, τ) := by
  refine H (fun x3 s => ac_X g i_X9_chooseDay (d + 6) 0 0 (liV τ Q) 0 0 18 [some (.ref 65), some (.int f1), some (.int f2), some (.int x3)] [] (false, 586, SH, s, τ)) ?_
  intro x3 s H
  refine ax_iload_n (pc' := 19) dX9_chooseDay_18 rfl rfl ?_
  refine ax_bipush (pc' := 21) (v := (30 : Int32)) dX9_chooseDay_19 (by decide) rfl ?_
  refine ax_icmp_gt (pc' := 24) (tgt := 46) dX9_chooseDay_21 (by decide) rfl (fun hc21 => ?_) (fun hc21 => ?_)
  · have H := H.1 hc21
    refine ax_drop 3 rfl ?_
    exact hK46 _ H
  · have H := H.2 hc21
    refine ax_aload_n (pc' := 25) dX9_chooseDay_24 rfl rfl ?_
    refine ax_iload_n (pc' := 26) dX9_chooseDay_25 rfl rfl ?_
    refine ax_iload_n (pc' := 27) dX9_chooseDay_26 rfl rfl ?_
    refine ax_iload_n (pc' := 28) dX9_chooseDay_27 rfl rfl ?_
    refine ax_bipush (pc' := 30) (v := (12 : Int32)) dX9_chooseDay_28 (by decide) rfl ?_
    refine ay_V4 (pc' := 33) (ce' := 0) (sl' := 0) (mc2 := 0) (ms2 := 0) (I2 := i_X9_fits) dX9_chooseDay_30 ml_X9_48 sh_65 (by decide) rfl rfl rfl rfl rfl rfl rfl rfl rfl (ac_M.imp (o_X9_fits _ f1 f2 x3 (12 : Int32) H) ?_)
    rintro _ _ ⟨r30, s30, rfl, rfl, H⟩
    refine ax_if_eq (pc' := 36) (tgt := 40) dX9_chooseDay_33 (by decide) rfl (fun hc33 => ?_) (fun hc33 => ?_)
    · have H := H.1 hc33
      refine ax_iinc (pc' := 43) (v := (x3 + (1 : Int32))) dX9_chooseDay_40 rfl rfl rfl rfl rfl ?_
      refine ax_goto (tgt := 18) dX9_chooseDay_43 (by decide) ?_
      exact H
    · have H := H.2 hc33
      refine ax_aload_n (pc' := 37) dX9_chooseDay_36 rfl rfl ?_
      refine ay_V0 (pc' := 40) (ce' := 0) (sl' := 0) (mc2 := 0) (ms2 := 0) (I2 := i_X9_tally) dX9_chooseDay_37 ml_X9_83 sh_65 (by decide) rfl rfl rfl rfl rfl rfl rfl rfl rfl (ac_M.imp (o_X9_tally _  H) ?_)
      rintro _ _ ⟨s37, rfl, rfl, H⟩
      refine ax_iinc (pc' := 43) (v := (x3 + (1 : Int32))) dX9_chooseDay_40 rfl rfl rfl rfl rfl ?_
      refine ax_goto (tgt := 18) dX9_chooseDay_43 (by decide) ?_
      exact H
theorem ol_X9_chooseDay_10 {g : ac_G} {τ : Nat → Nat → Int64} (d : Nat) (p1 : Int32) {Q : ac_m → Prop}  (f1 : Int32)  {x2 : Int32} {s : ac_m} (H : l_X9_chooseDay_10 p1 Q  f1  x2 s) : ac_X g i_X9_chooseDay (d + 6) 0 0 (liV τ Q) 0 0 10 [some (.ref 65), some (.int f1), some (.int x2), none] [] (false, 586, SH, s, τ) := by
  refine H (fun x2 s => ac_X g i_X9_chooseDay (d + 6) 0 0 (liV τ Q) 0 0 10 [some (.ref 65), some (.int f1), some (.int x2), none] [] (false, 586, SH, s, τ)) ?_
  intro x2 s H
  refine ax_iload_n (pc' := 11) dX9_chooseDay_10 rfl rfl ?_
  refine ax_bipush (pc' := 13) (v := (6 : Int32)) dX9_chooseDay_11 (by decide) rfl ?_
  refine ax_icmp_ge (pc' := 16) (tgt := 52) dX9_chooseDay_13 (by decide) rfl (fun hc13 => ?_) (fun hc13 => ?_)
  · have H := H.1 hc13
    refine ax_aload_n (pc' := 53) dX9_chooseDay_52 rfl rfl ?_
    refine ax_iconst (pc' := 54) (v := (-1 : Int32)) dX9_chooseDay_53 (by decide) rfl ?_
    refine ax_putI (pc' := 57) dX9_chooseDay_54 fp_X9_25 sh_65 rfl rfl rfl ?_
    refine ax_iconst (pc' := 58) (v := (1 : Int32)) dX9_chooseDay_57 (by decide) rfl ?_
    refine ax_istore_n (pc' := 59) dX9_chooseDay_58 rfl rfl rfl ?_
    refine ax_drop 1 rfl ?_
    refine ol_X9_chooseDay_59 d p1      H
  · have H := H.2 hc13
    refine ax_iconst (pc' := 17) (v := (1 : Int32)) dX9_chooseDay_16 (by decide) rfl ?_
    refine ax_istore_n (pc' := 18) dX9_chooseDay_17 rfl rfl rfl ?_
    refine ol_X9_chooseDay_18 d p1  _ _   ?_ H
    · intro  sk18 H
      refine ax_iinc (pc' := 49) (v := (x2 + (1 : Int32))) dX9_chooseDay_46 rfl rfl rfl rfl rfl ?_
      refine ax_goto (tgt := 10) dX9_chooseDay_49 (by decide) ?_
      exact H
theorem o_X9_chooseDay {g : ac_G} {τ : Nat → Nat → Int64} (d : Nat) (p1 : Int32) {Q : ac_m → Prop} {s : ac_m} (H : w_X9_chooseDay p1 Q s) : ac_M g i_X9_chooseDay (d + 6) 0 0 [.ref 65, .int p1] (false, 586, SH, s, τ) (liV τ Q) := by
  refine ac_ofX (by decide +kernel) rfl rfl rfl ?_
  refine ax_aload_n (pc' := 1) dX9_chooseDay_0 rfl rfl ?_
  refine ax_getR (pc' := 4) dX9_chooseDay_1 fl_X9_15 sh_65 rfl rfl rfl ?_
  refine ax_iconst (pc' := 5) (v := (0 : Int32)) dX9_chooseDay_4 (by decide) rfl ?_
  refine ay_S2 (pc' := 8) (ce' := 0) (sl' := 0) (mc2 := 0) (ms2 := 0) (I2 := i_J7_fill_53178) dX9_chooseDay_5 ml_X9_77 rfl rfl rfl rfl rfl rfl rfl rfl (ac_M.imp (o_J7_fill_53178 _ 67 1300 (0 : Int32) sh_67 rfl H) ?_)
  rintro _ _ ⟨s5, rfl, rfl, H⟩
  refine ax_iconst (pc' := 9) (v := (0 : Int32)) dX9_chooseDay_8 (by decide) rfl ?_
  refine ax_istore_n (pc' := 10) dX9_chooseDay_9 rfl rfl rfl ?_
  refine ol_X9_chooseDay_10 d p1  _    H
