theorem o_X7_put {g : ac_G} {τ : Nat → Nat → Int64} (d : Nat) (p1 : Int32) (p2 : Int32) (p3 : Int32) {Q : Int32 → ac_m → Prop} {s : ac_m} (H : w_X7_put p1 p2 p3 Q s) : ac_M g i_X7_put d 0 0 [.ref 37, .int p1, .int p2, .int p3] (false, 586, SH, s, τ) (liI τ Q) := by
  refine ac_ofX (by decide +kernel) rfl rfl rfl ?_
  refine ax_aload_n (pc' := 1) dX7_put_0 rfl rfl ?_
  refine ax_getI (pc' := 4) dX7_put_1 fl_X7_24 sh_37 rfl rfl rfl ?_
  refine ax_if_lt (pc' := 7) (tgt := 72) dX7_put_4 (by decide) rfl (fun hc4 => ?_) (fun hc4 => ?_)
  · have H := H.1 hc4
    refine ax_iconst (pc' := 73) (v := (1 : Int32)) dX7_put_72 (by decide) rfl ?_
    exact ax_zret dX7_put_73 rfl rfl rfl rfl ⟨_, _, rfl, rfl, H⟩
  · have H := H.2 hc4
    refine ax_aload_n (pc' := 8) dX7_put_7 rfl rfl ?_
    refine ax_getI (pc' := 11) dX7_put_8 fl_X7_24 sh_37 rfl rfl rfl ?_
    refine ax_sipush (pc' := 14) (v := (150 : Int32)) dX7_put_11 (by decide) rfl ?_
    refine ax_icmp_ge (pc' := 17) (tgt := 72) dX7_put_14 (by decide) rfl (fun hc14 => ?_) (fun hc14 => ?_)
    · have H := H.1 hc14
      refine ax_iconst (pc' := 73) (v := (1 : Int32)) dX7_put_72 (by decide) rfl ?_
      exact ax_zret dX7_put_73 rfl rfl rfl rfl ⟨_, _, rfl, rfl, H⟩
    · have H := H.2 hc14
      refine ax_aload_n (pc' := 18) dX7_put_17 rfl rfl ?_
      refine ax_getR (pc' := 21) dX7_put_18 fl_X7_9 sh_37 rfl rfl rfl ?_
      refine ax_aload_n (pc' := 22) dX7_put_21 rfl rfl ?_
      refine ax_getI (pc' := 25) dX7_put_22 fl_X7_24 sh_37 rfl rfl rfl ?_
      refine ax_iload_n (pc' := 26) dX7_put_25 rfl rfl ?_
      obtain ⟨hj26, H⟩ := H
      refine ax_iast (pc' := 27) dX7_put_26 sh_38 hj26 rfl rfl ?_
      refine ax_aload_n (pc' := 28) dX7_put_27 rfl rfl ?_
      refine ax_getR (pc' := 31) dX7_put_28 fl_X7_15 sh_37 rfl rfl rfl ?_
      refine ax_aload_n (pc' := 32) dX7_put_31 rfl rfl ?_
      refine ax_getI (pc' := 35) dX7_put_32 fl_X7_24 sh_37 rfl rfl rfl ?_
      refine ax_iload_n (pc' := 36) dX7_put_35 rfl rfl ?_
      obtain ⟨hj36, H⟩ := H
      refine ax_iast (pc' := 37) dX7_put_36 sh_39 hj36 rfl rfl ?_
      refine ax_aload_n (pc' := 38) dX7_put_37 rfl rfl ?_
      refine ax_getR (pc' := 41) dX7_put_38 fl_X7_18 sh_37 rfl rfl rfl ?_
      refine ax_aload_n (pc' := 42) dX7_put_41 rfl rfl ?_
      refine ax_getI (pc' := 45) dX7_put_42 fl_X7_24 sh_37 rfl rfl rfl ?_
      refine ax_iload_n (pc' := 46) dX7_put_45 rfl rfl ?_
      obtain ⟨hj46, H⟩ := H
      refine ax_iast (pc' := 47) dX7_put_46 sh_40 hj46 rfl rfl ?_
      refine ax_aload_n (pc' := 48) dX7_put_47 rfl rfl ?_
      refine ax_dup (pc' := 49) dX7_put_48 rfl rfl ?_
      refine ax_getI (pc' := 52) dX7_put_49 fl_X7_24 sh_37 rfl rfl rfl ?_
      refine ax_iconst (pc' := 53) (v := (1 : Int32)) dX7_put_52 (by decide) rfl ?_
      refine ax_iadd (pc' := 54) dX7_put_53 rfl ?_
      refine ax_putI (pc' := 57) dX7_put_54 fp_X7_24 sh_37 rfl rfl rfl ?_
      refine ax_aload_n (pc' := 58) dX7_put_57 rfl rfl ?_
      refine ax_getR (pc' := 61) dX7_put_58 fl_X7_21 sh_37 rfl rfl rfl ?_
      refine ax_aload_n (pc' := 62) dX7_put_61 rfl rfl ?_
      refine ax_getI (pc' := 65) dX7_put_62 fl_X7_24 sh_37 rfl rfl rfl ?_
      refine ax_iconst (pc' := 66) (v := (1 : Int32)) dX7_put_65 (by decide) rfl ?_
      refine ax_isub (pc' := 67) dX7_put_66 rfl ?_
      refine ax_aload_n (pc' := 68) dX7_put_67 rfl rfl ?_
      refine ax_getI (pc' := 71) dX7_put_68 fl_X7_24 sh_37 rfl rfl rfl ?_
      obtain ⟨hj71, H⟩ := H
      refine ax_iast (pc' := 72) dX7_put_71 sh_41 hj71 rfl rfl ?_
      refine ax_iconst (pc' := 73) (v := (1 : Int32)) dX7_put_72 (by decide) rfl ?_
      exact ax_zret dX7_put_73 rfl rfl rfl rfl ⟨_, _, rfl, rfl, H⟩
theorem o_X7_readBeast {g : ac_G} {τ : Nat → Nat → Int64} (d : Nat) (p3 : Int32) {Q : Int32 → ac_m → Prop} {s : ac_m} (H : w_X7_readBeast p3 Q s) : ac_M g i_X7_readBeast (d + 3) 0 0 [.ref 37, .ref 1, .ref 3, .int p3] (false, 586, SH, s, τ) (liI τ Q) := by
  refine ac_ofX (by decide +kernel) rfl rfl rfl ?_
  refine ax_aload_n (pc' := 1) dX7_readBeast_0 rfl rfl ?_
  refine ax_iconst (pc' := 2) (v := (0 : Int32)) dX7_readBeast_1 (by decide) rfl ?_
  refine ax_aload_n (pc' := 3) dX7_readBeast_2 rfl rfl ?_
  refine ax_getI (pc' := 6) dX7_readBeast_3 fl_X7_99 sh_3 rfl rfl rfl ?_
  refine ax_iconst (pc' := 7) (v := (1 : Int32)) dX7_readBeast_6 (by decide) rfl ?_
  refine ax_isub (pc' := 8) dX7_readBeast_7 rfl ?_
  refine ay_V2 (pc' := 11) (ce' := 0) (sl' := 0) (mc2 := 0) (ms2 := 0) (I2 := i_X10_number) dX7_readBeast_8 ml_X7_104 sh_1 (by decide) rfl rfl rfl rfl rfl rfl rfl rfl rfl (ac_M.imp (o_X10_number _ (0 : Int32) ((s 3 11) - (1 : Int32)) H) ?_)
  rintro _ _ ⟨r8, s8, rfl, rfl, H⟩
  refine ax_istore (pc' := 13) dX7_readBeast_11 rfl rfl rfl ?_
  refine ax_iload (pc' := 15) dX7_readBeast_13 rfl rfl ?_
  refine ax_iconst (pc' := 16) (v := (-1 : Int32)) dX7_readBeast_15 (by decide) rfl ?_
  refine ax_icmp_eq (pc' := 19) (tgt := 34) dX7_readBeast_16 (by decide) rfl (fun hc16 => ?_) (fun hc16 => ?_)
  · have H := H.1 hc16
    refine ax_iconst (pc' := 35) (v := (0 : Int32)) dX7_readBeast_34 (by decide) rfl ?_
    exact ax_zret dX7_readBeast_35 rfl rfl rfl rfl ⟨_, _, rfl, rfl, H⟩
  · have H := H.2 hc16
    refine ax_aload_n (pc' := 20) dX7_readBeast_19 rfl rfl ?_
    refine ax_iload_n (pc' := 21) dX7_readBeast_20 rfl rfl ?_
    refine ax_iload (pc' := 23) dX7_readBeast_21 rfl rfl ?_
    refine ax_iconst (pc' := 24) (v := (0 : Int32)) dX7_readBeast_23 (by decide) rfl ?_
    refine ay_V3 (pc' := 27) (ce' := 0) (sl' := 0) (mc2 := 0) (ms2 := 0) (I2 := i_X7_put) dX7_readBeast_24 ml_X7_86 sh_37 (by decide) rfl rfl rfl rfl rfl rfl rfl rfl rfl (ac_M.imp (o_X7_put _ p3 r8 (0 : Int32) H) ?_)
    rintro _ _ ⟨r24, s24, rfl, rfl, H⟩
    refine ax_if_eq (pc' := 30) (tgt := 34) dX7_readBeast_27 (by decide) rfl (fun hc27 => ?_) (fun hc27 => ?_)
    · have H := H.1 hc27
      refine ax_iconst (pc' := 35) (v := (0 : Int32)) dX7_readBeast_34 (by decide) rfl ?_
      exact ax_zret dX7_readBeast_35 rfl rfl rfl rfl ⟨_, _, rfl, rfl, H⟩
    · have H := H.2 hc27
      refine ax_iconst (pc' := 31) (v := (1 : Int32)) dX7_readBeast_30 (by decide) rfl ?_
      refine ax_goto (tgt := 35) dX7_readBeast_31 (by decide) ?_
      exact ax_zret dX7_readBeast_35 rfl rfl rfl rfl ⟨_, _, rfl, rfl, H⟩
theorem o_X7_readDrive {g : ac_G} {τ : Nat → Nat → Int64} (d : Nat)  {Q : Int32 → ac_m → Prop} {s : ac_m} (H : w_X7_readDrive  Q s) : ac_M g i_X7_readDrive (d + 3) 0 0 [.ref 37, .ref 1, .ref 3] (false, 586, SH, s, τ) (liI τ Q) := by
  refine ac_ofX (by decide +kernel) rfl rfl rfl ?_
  refine ax_aload_n (pc' := 1) dX7_readDrive_0 rfl rfl ?_
  refine ax_iconst (pc' := 2) (v := (0 : Int32)) dX7_readDrive_1 (by decide) rfl ?_
  refine ax_aload_n (pc' := 3) dX7_readDrive_2 rfl rfl ?_
  refine ax_getI (pc' := 6) dX7_readDrive_3 fl_X7_99 sh_3 rfl rfl rfl ?_
  refine ax_iconst (pc' := 7) (v := (1 : Int32)) dX7_readDrive_6 (by decide) rfl ?_
  refine ax_isub (pc' := 8) dX7_readDrive_7 rfl ?_
  refine ay_V2 (pc' := 11) (ce' := 0) (sl' := 0) (mc2 := 0) (ms2 := 0) (I2 := i_X10_number) dX7_readDrive_8 ml_X7_104 sh_1 (by decide) rfl rfl rfl rfl rfl rfl rfl rfl rfl (ac_M.imp (o_X10_number _ (0 : Int32) ((s 3 11) - (1 : Int32)) H) ?_)
  rintro _ _ ⟨r8, s8, rfl, rfl, H⟩
  refine ax_istore_n (pc' := 12) dX7_readDrive_11 rfl rfl rfl ?_
  refine ax_iload_n (pc' := 13) dX7_readDrive_12 rfl rfl ?_
  refine ax_iconst (pc' := 14) (v := (-1 : Int32)) dX7_readDrive_13 (by decide) rfl ?_
  refine ax_icmp_ne (pc' := 17) (tgt := 19) dX7_readDrive_14 (by decide) rfl (fun hc14 => ?_) (fun hc14 => ?_)
  · have H := H.1 hc14
    refine ax_aload_n (pc' := 20) dX7_readDrive_19 rfl rfl ?_
    refine ax_iconst (pc' := 21) (v := (0 : Int32)) dX7_readDrive_20 (by decide) rfl ?_
    refine ax_aload_n (pc' := 22) dX7_readDrive_21 rfl rfl ?_
    refine ax_getI (pc' := 25) dX7_readDrive_22 fl_X7_108 sh_3 rfl rfl rfl ?_
    refine ax_iconst (pc' := 26) (v := (1 : Int32)) dX7_readDrive_25 (by decide) rfl ?_
    refine ax_isub (pc' := 27) dX7_readDrive_26 rfl ?_
    refine ay_V2 (pc' := 30) (ce' := 0) (sl' := 0) (mc2 := 0) (ms2 := 0) (I2 := i_X10_number) dX7_readDrive_27 ml_X7_104 sh_1 (by decide) rfl rfl rfl rfl rfl rfl rfl rfl rfl (ac_M.imp (o_X10_number _ (0 : Int32) ((s8 3 10) - (1 : Int32)) H) ?_)
    rintro _ _ ⟨r27, s27, rfl, rfl, H⟩
    refine ax_istore (pc' := 32) dX7_readDrive_30 rfl rfl rfl ?_
    refine ax_iload (pc' := 34) dX7_readDrive_32 rfl rfl ?_
    refine ax_iconst (pc' := 35) (v := (-1 : Int32)) dX7_readDrive_34 (by decide) rfl ?_
    refine ax_icmp_eq (pc' := 38) (tgt := 53) dX7_readDrive_35 (by decide) rfl (fun hc35 => ?_) (fun hc35 => ?_)
    · have H := H.1 hc35
      refine ax_iconst (pc' := 54) (v := (0 : Int32)) dX7_readDrive_53 (by decide) rfl ?_
      exact ax_zret dX7_readDrive_54 rfl rfl rfl rfl ⟨_, _, rfl, rfl, H⟩
    · have H := H.2 hc35
      refine ax_aload_n (pc' := 39) dX7_readDrive_38 rfl rfl ?_
      refine ax_iconst (pc' := 40) (v := (1 : Int32)) dX7_readDrive_39 (by decide) rfl ?_
      refine ax_iload_n (pc' := 41) dX7_readDrive_40 rfl rfl ?_
      refine ax_iload (pc' := 43) dX7_readDrive_41 rfl rfl ?_
      refine ay_V3 (pc' := 46) (ce' := 0) (sl' := 0) (mc2 := 0) (ms2 := 0) (I2 := i_X7_put) dX7_readDrive_43 ml_X7_86 sh_37 (by decide) rfl rfl rfl rfl rfl rfl rfl rfl rfl (ac_M.imp (o_X7_put _ (1 : Int32) r8 r27 H) ?_)
      rintro _ _ ⟨r43, s43, rfl, rfl, H⟩
      refine ax_if_eq (pc' := 49) (tgt := 53) dX7_readDrive_46 (by decide) rfl (fun hc46 => ?_) (fun hc46 => ?_)
      · have H := H.1 hc46
        refine ax_iconst (pc' := 54) (v := (0 : Int32)) dX7_readDrive_53 (by decide) rfl ?_
        exact ax_zret dX7_readDrive_54 rfl rfl rfl rfl ⟨_, _, rfl, rfl, H⟩
      · have H := H.2 hc46
        refine ax_iconst (pc' := 50) (v := (1 : Int32)) dX7_readDrive_49 (by decide) rfl ?_
        refine ax_goto (tgt := 54) dX7_readDrive_50 (by decide) ?_
        exact ax_zret dX7_readDrive_54 rfl rfl rfl rfl ⟨_, _, rfl, rfl, H⟩
  · have H := H.2 hc14
    refine ax_iconst (pc' := 18) (v := (0 : Int32)) dX7_readDrive_17 (by decide) rfl ?_
    exact ax_zret dX7_readDrive_18 rfl rfl rfl rfl ⟨_, _, rfl, rfl, H⟩
theorem o_X7_readHay {g : ac_G} {τ : Nat → Nat → Int64} (d : Nat)  {Q : Int32 → ac_m → Prop} {s : ac_m} (H : w_X7_readHay  Q s) : ac_M g i_X7_readHay (d + 3) 0 0 [.ref 37, .ref 1, .ref 3] (false, 586, SH, s, τ) (liI τ Q) := by
  refine ac_ofX (by decide +kernel) rfl rfl rfl ?_
  refine ax_aload_n (pc' := 1) dX7_readHay_0 rfl rfl ?_
  refine ax_iconst (pc' := 2) (v := (0 : Int32)) dX7_readHay_1 (by decide) rfl ?_
  refine ax_aload_n (pc' := 3) dX7_readHay_2 rfl rfl ?_
  refine ax_getI (pc' := 6) dX7_readHay_3 fl_X7_108 sh_3 rfl rfl rfl ?_
  refine ax_iconst (pc' := 7) (v := (1 : Int32)) dX7_readHay_6 (by decide) rfl ?_
  refine ax_isub (pc' := 8) dX7_readHay_7 rfl ?_
  refine ay_V2 (pc' := 11) (ce' := 0) (sl' := 0) (mc2 := 0) (ms2 := 0) (I2 := i_X10_number) dX7_readHay_8 ml_X7_104 sh_1 (by decide) rfl rfl rfl rfl rfl rfl rfl rfl rfl (ac_M.imp (o_X10_number _ (0 : Int32) ((s 3 10) - (1 : Int32)) H) ?_)
  rintro _ _ ⟨r8, s8, rfl, rfl, H⟩
  refine ax_istore_n (pc' := 12) dX7_readHay_11 rfl rfl rfl ?_
  refine ax_iload_n (pc' := 13) dX7_readHay_12 rfl rfl ?_
  refine ax_iconst (pc' := 14) (v := (-1 : Int32)) dX7_readHay_13 (by decide) rfl ?_
  refine ax_icmp_ne (pc' := 17) (tgt := 19) dX7_readHay_14 (by decide) rfl (fun hc14 => ?_) (fun hc14 => ?_)
  · have H := H.1 hc14
    refine ax_aload_n (pc' := 20) dX7_readHay_19 rfl rfl ?_
    refine ax_iconst (pc' := 21) (v := (1 : Int32)) dX7_readHay_20 (by decide) rfl ?_
    refine ax_bipush (pc' := 23) (v := (60 : Int32)) dX7_readHay_21 (by decide) rfl ?_
    refine ay_V2 (pc' := 26) (ce' := 0) (sl' := 0) (mc2 := 0) (ms2 := 0) (I2 := i_X10_number) dX7_readHay_23 ml_X7_104 sh_1 (by decide) rfl rfl rfl rfl rfl rfl rfl rfl rfl (ac_M.imp (o_X10_number _ (1 : Int32) (60 : Int32) H) ?_)
    rintro _ _ ⟨r23, s23, rfl, rfl, H⟩
    refine ax_istore (pc' := 28) dX7_readHay_26 rfl rfl rfl ?_
    refine ax_iload (pc' := 30) dX7_readHay_28 rfl rfl ?_
    refine ax_iconst (pc' := 31) (v := (-1 : Int32)) dX7_readHay_30 (by decide) rfl ?_
    refine ax_icmp_eq (pc' := 34) (tgt := 49) dX7_readHay_31 (by decide) rfl (fun hc31 => ?_) (fun hc31 => ?_)
    · have H := H.1 hc31
      refine ax_iconst (pc' := 50) (v := (0 : Int32)) dX7_readHay_49 (by decide) rfl ?_
      exact ax_zret dX7_readHay_50 rfl rfl rfl rfl ⟨_, _, rfl, rfl, H⟩
    · have H := H.2 hc31
      refine ax_aload_n (pc' := 35) dX7_readHay_34 rfl rfl ?_
      refine ax_iconst (pc' := 36) (v := (4 : Int32)) dX7_readHay_35 (by decide) rfl ?_
      refine ax_iload_n (pc' := 37) dX7_readHay_36 rfl rfl ?_
      refine ax_iload (pc' := 39) dX7_readHay_37 rfl rfl ?_
      refine ay_V3 (pc' := 42) (ce' := 0) (sl' := 0) (mc2 := 0) (ms2 := 0) (I2 := i_X7_put) dX7_readHay_39 ml_X7_86 sh_37 (by decide) rfl rfl rfl rfl rfl rfl rfl rfl rfl (ac_M.imp (o_X7_put _ (4 : Int32) r8 r23 H) ?_)
      rintro _ _ ⟨r39, s39, rfl, rfl, H⟩
      refine ax_if_eq (pc' := 45) (tgt := 49) dX7_readHay_42 (by decide) rfl (fun hc42 => ?_) (fun hc42 => ?_)
      · have H := H.1 hc42
        refine ax_iconst (pc' := 50) (v := (0 : Int32)) dX7_readHay_49 (by decide) rfl ?_
        exact ax_zret dX7_readHay_50 rfl rfl rfl rfl ⟨_, _, rfl, rfl, H⟩
      · have H := H.2 hc42
        refine ax_iconst (pc' := 46) (v := (1 : Int32)) dX7_readHay_45 (by decide) rfl ?_
        refine ax_goto (tgt := 50) dX7_readHay_46 (by decide) ?_
        exact ax_zret dX7_readHay_50 rfl rfl rfl rfl ⟨_, _, rfl, rfl, H⟩
  · have H := H.2 hc14
    refine ax_iconst (pc' := 18) (v := (0 : Int32)) dX7_readHay_17 (by decide) rfl ?_
    exact ax_zret dX7_readHay_18 rfl rfl rfl rfl ⟨_, _, rfl, rfl, H⟩
theorem o_X7_readAgain {g : ac_G} {τ : Nat → Nat → Int64} (d : Nat) (p3 : Int32) {Rp : Int32 → (Int32 → ac_m → Prop) → ac_m → Prop} (hRp : ∀ (e : Nat) (p1 : Int32) (Q : Int32 → ac_m → Prop) (s : ac_m), Rp p1 Q s → ac_M g i_X7_readSteps (d + e) 0 0 [.ref 37, .ref 1, .ref 3, .int p1] (false, 586, SH, s, τ) (liI τ Q)) {Q : Int32 → ac_m → Prop} {s : ac_m} (H : w_X7_readAgain p3 Q Rp s) : ac_M g i_X7_readAgain (d + 3) 0 0 [.ref 37, .ref 1, .ref 3, .int p3] (false, 586, SH, s, τ) (liI τ Q) := by
  refine ac_ofX (by decide +kernel) rfl rfl rfl ?_
  refine ax_iload_n (pc' := 1) dX7_readAgain_0 rfl rfl ?_
  refine ax_bipush (pc' := 3) (v := (6 : Int32)) dX7_readAgain_1 (by decide) rfl ?_
  refine ax_icmp_lt (pc' := 6) (tgt := 12) dX7_readAgain_3 (by decide) rfl (fun hc3 => ?_) (fun hc3 => ?_)
  · have H := H.1 hc3
    refine ax_aload_n (pc' := 13) dX7_readAgain_12 rfl rfl ?_
    refine ax_iconst (pc' := 14) (v := (0 : Int32)) dX7_readAgain_13 (by decide) rfl ?_
    refine ax_bipush (pc' := 16) (v := (60 : Int32)) dX7_readAgain_14 (by decide) rfl ?_
    refine ay_V2 (pc' := 19) (ce' := 0) (sl' := 0) (mc2 := 0) (ms2 := 0) (I2 := i_X10_number) dX7_readAgain_16 ml_X7_104 sh_1 (by decide) rfl rfl rfl rfl rfl rfl rfl rfl rfl (ac_M.imp (o_X10_number _ (0 : Int32) (60 : Int32) H) ?_)
    rintro _ _ ⟨r16, s16, rfl, rfl, H⟩
    refine ax_istore (pc' := 21) dX7_readAgain_19 rfl rfl rfl ?_
    refine ax_iload (pc' := 23) dX7_readAgain_21 rfl rfl ?_
    refine ax_iconst (pc' := 24) (v := (-1 : Int32)) dX7_readAgain_23 (by decide) rfl ?_
    refine ax_icmp_eq (pc' := 27) (tgt := 36) dX7_readAgain_24 (by decide) rfl (fun hc24 => ?_) (fun hc24 => ?_)
    · have H := H.1 hc24
      refine ax_iconst (pc' := 37) (v := (0 : Int32)) dX7_readAgain_36 (by decide) rfl ?_
      exact ax_zret dX7_readAgain_37 rfl rfl rfl rfl ⟨_, _, rfl, rfl, H⟩
    · have H := H.2 hc24
      refine ax_aload_n (pc' := 28) dX7_readAgain_27 rfl rfl ?_
      refine ax_bipush (pc' := 30) (v := (91 : Int32)) dX7_readAgain_28 (by decide) rfl ?_
      refine ay_V1 (pc' := 33) (ce' := 0) (sl' := 0) (mc2 := 0) (ms2 := 0) (I2 := i_X10_expects) dX7_readAgain_30 ml_X7_57 sh_1 (by decide) rfl rfl rfl rfl rfl rfl rfl rfl rfl (ac_M.imp (o_X10_expects _ (91 : Int32) H) ?_)
      rintro _ _ ⟨r30, s30, rfl, rfl, H⟩
      refine ax_if_ne (pc' := 36) (tgt := 38) dX7_readAgain_33 (by decide) rfl (fun hc33 => ?_) (fun hc33 => ?_)
      · have H := H.1 hc33
        refine ax_aload_n (pc' := 39) dX7_readAgain_38 rfl rfl ?_
        refine ax_getI (pc' := 42) dX7_readAgain_39 fl_X7_24 sh_37 rfl rfl rfl ?_
        refine ax_istore (pc' := 44) dX7_readAgain_42 rfl rfl rfl ?_
        refine ax_aload_n (pc' := 45) dX7_readAgain_44 rfl rfl ?_
        refine ax_bipush (pc' := 47) (v := (6 : Int32)) dX7_readAgain_45 (by decide) rfl ?_
        refine ax_iload (pc' := 49) dX7_readAgain_47 rfl rfl ?_
        refine ax_iconst (pc' := 50) (v := (0 : Int32)) dX7_readAgain_49 (by decide) rfl ?_
        refine ay_V3 (pc' := 53) (ce' := 0) (sl' := 0) (mc2 := 0) (ms2 := 0) (I2 := i_X7_put) dX7_readAgain_50 ml_X7_86 sh_37 (by decide) rfl rfl rfl rfl rfl rfl rfl rfl rfl (ac_M.imp (o_X7_put _ (6 : Int32) r16 (0 : Int32) H) ?_)
        rintro _ _ ⟨r50, s50, rfl, rfl, H⟩
        refine ax_pop (pc' := 54) dX7_readAgain_53 rfl rfl ?_
        refine ax_aload_n (pc' := 55) dX7_readAgain_54 rfl rfl ?_
        refine ax_aload_n (pc' := 56) dX7_readAgain_55 rfl rfl ?_
        refine ax_aload_n (pc' := 57) dX7_readAgain_56 rfl rfl ?_
        refine ax_iload_n (pc' := 58) dX7_readAgain_57 rfl rfl ?_
        refine ax_iconst (pc' := 59) (v := (1 : Int32)) dX7_readAgain_58 (by decide) rfl ?_
        refine ax_iadd (pc' := 60) dX7_readAgain_59 rfl ?_
        refine ay_V3 (pc' := 63) (ce' := 0) (sl' := 0) (mc2 := 0) (ms2 := 0) (I2 := i_X7_readSteps) dX7_readAgain_60 ml_X7_37 sh_37 (by decide) rfl rfl rfl rfl rfl rfl rfl rfl rfl (ac_M.imp (hRp _ (p3 + (1 : Int32)) _ _ H) ?_)
        rintro _ _ ⟨r60, s60, rfl, rfl, H⟩
        refine ax_if_ne (pc' := 66) (tgt := 68) dX7_readAgain_63 (by decide) rfl (fun hc63 => ?_) (fun hc63 => ?_)
        · have H := H.1 hc63
          refine ax_iload (pc' := 70) dX7_readAgain_68 rfl rfl ?_
          refine ax_if_lt (pc' := 73) (tgt := 92) dX7_readAgain_70 (by decide) rfl (fun hc70 => ?_) (fun hc70 => ?_)
          · have H := H.1 hc70
            refine ax_iconst (pc' := 93) (v := (1 : Int32)) dX7_readAgain_92 (by decide) rfl ?_
            exact ax_zret dX7_readAgain_93 rfl rfl rfl rfl ⟨_, _, rfl, rfl, H⟩
          · have H := H.2 hc70
            refine ax_iload (pc' := 75) dX7_readAgain_73 rfl rfl ?_
            refine ax_sipush (pc' := 78) (v := (150 : Int32)) dX7_readAgain_75 (by decide) rfl ?_
            refine ax_icmp_ge (pc' := 81) (tgt := 92) dX7_readAgain_78 (by decide) rfl (fun hc78 => ?_) (fun hc78 => ?_)
            · have H := H.1 hc78
              refine ax_iconst (pc' := 93) (v := (1 : Int32)) dX7_readAgain_92 (by decide) rfl ?_
              exact ax_zret dX7_readAgain_93 rfl rfl rfl rfl ⟨_, _, rfl, rfl, H⟩
            · have H := H.2 hc78
              refine ax_aload_n (pc' := 82) dX7_readAgain_81 rfl rfl ?_
              refine ax_getR (pc' := 85) dX7_readAgain_82 fl_X7_21 sh_37 rfl rfl rfl ?_
              refine ax_iload (pc' := 87) dX7_readAgain_85 rfl rfl ?_
              refine ax_aload_n (pc' := 88) dX7_readAgain_87 rfl rfl ?_
              refine ax_getI (pc' := 91) dX7_readAgain_88 fl_X7_24 sh_37 rfl rfl rfl ?_
              obtain ⟨hj91, H⟩ := H
              refine ax_iast (pc' := 92) dX7_readAgain_91 sh_41 hj91 rfl rfl ?_
              refine ax_iconst (pc' := 93) (v := (1 : Int32)) dX7_readAgain_92 (by decide) rfl ?_
              exact ax_zret dX7_readAgain_93 rfl rfl rfl rfl ⟨_, _, rfl, rfl, H⟩
        · have H := H.2 hc63
          refine ax_iconst (pc' := 67) (v := (0 : Int32)) dX7_readAgain_66 (by decide) rfl ?_
          exact ax_zret dX7_readAgain_67 rfl rfl rfl rfl ⟨_, _, rfl, rfl, H⟩
      · have H := H.2 hc33
        refine ax_iconst (pc' := 37) (v := (0 : Int32)) dX7_readAgain_36 (by decide) rfl ?_
        exact ax_zret dX7_readAgain_37 rfl rfl rfl rfl ⟨_, _, rfl, rfl, H⟩
  · have H := H.2 hc3
    refine ax_aload_n (pc' := 7) dX7_readAgain_6 rfl rfl ?_
    refine ax_iconst (pc' := 8) (v := (3 : Int32)) dX7_readAgain_7 (by decide) rfl ?_
    refine ay_V1 (pc' := 11) (ce' := 0) (sl' := 0) (mc2 := 0) (ms2 := 0) (I2 := i_X10_fail) dX7_readAgain_8 ml_X7_95 sh_1 (by decide) rfl rfl rfl rfl rfl rfl rfl rfl rfl (ac_M.imp (o_X10_fail _ (3 : Int32) H) ?_)
    rintro _ _ ⟨r8, s8, rfl, rfl, H⟩
    obtain ⟨hb, H⟩ := H
    exact ax_zret dX7_readAgain_11 rfl hb rfl rfl ⟨_, _, rfl, rfl, H⟩
theorem o_X7_readStep {g : ac_G} {τ : Nat → Nat → Int64} (d : Nat) (p3 : Int32) {Rp : Int32 → (Int32 → ac_m → Prop) → ac_m → Prop} (hRp : ∀ (e : Nat) (p1 : Int32) (Q : Int32 → ac_m → Prop) (s : ac_m), Rp p1 Q s → ac_M g i_X7_readSteps (d + e) 0 0 [.ref 37, .ref 1, .ref 3, .int p1] (false, 586, SH, s, τ) (liI τ Q)) {Q : Int32 → ac_m → Prop} {s : ac_m} (H : w_X7_readStep p3 Q Rp s) : ac_M g i_X7_readStep (d + 5) 0 0 [.ref 37, .ref 1, .ref 3, .int p3] (false, 586, SH, s, τ) (liI τ Q) := by
  refine ac_ofX (by decide +kernel) rfl rfl rfl ?_
  refine ax_aload_n (pc' := 1) dX7_readStep_0 rfl rfl ?_
  refine ax_ldcT (pc' := 3) (i := 14) dX7_readStep_1 rfl rfl ?_
  refine ay_V1 (pc' := 6) (ce' := 0) (sl' := 0) (mc2 := 0) (ms2 := 0) (I2 := i_X10_passesWord) dX7_readStep_3 ml_X7_62 sh_1 (by decide) rfl rfl rfl rfl rfl rfl rfl rfl rfl (ac_M.imp (o_X10_passesWord _ 14 (by decide) H) ?_)
  rintro _ _ ⟨r3, s3, rfl, rfl, H⟩
  refine ax_if_eq (pc' := 9) (tgt := 17) dX7_readStep_6 (by decide) rfl (fun hc6 => ?_) (fun hc6 => ?_)
  · have H := H.1 hc6
    refine ax_aload_n (pc' := 18) dX7_readStep_17 rfl rfl ?_
    refine ax_ldcT (pc' := 20) (i := 15) dX7_readStep_18 rfl rfl ?_
    refine ay_V1 (pc' := 23) (ce' := 0) (sl' := 0) (mc2 := 0) (ms2 := 0) (I2 := i_X10_passesWord) dX7_readStep_20 ml_X7_62 sh_1 (by decide) rfl rfl rfl rfl rfl rfl rfl rfl rfl (ac_M.imp (o_X10_passesWord _ 15 (by decide) H) ?_)
    rintro _ _ ⟨r20, s20, rfl, rfl, H⟩
    refine ax_if_eq (pc' := 26) (tgt := 33) dX7_readStep_23 (by decide) rfl (fun hc23 => ?_) (fun hc23 => ?_)
    · have H := H.1 hc23
      refine ax_aload_n (pc' := 34) dX7_readStep_33 rfl rfl ?_
      refine ax_ldcT (pc' := 36) (i := 16) dX7_readStep_34 rfl rfl ?_
      refine ay_V1 (pc' := 39) (ce' := 0) (sl' := 0) (mc2 := 0) (ms2 := 0) (I2 := i_X10_passesWord) dX7_readStep_36 ml_X7_62 sh_1 (by decide) rfl rfl rfl rfl rfl rfl rfl rfl rfl (ac_M.imp (o_X10_passesWord _ 16 (by decide) H) ?_)
      rintro _ _ ⟨r36, s36, rfl, rfl, H⟩
      refine ax_if_eq (pc' := 42) (tgt := 50) dX7_readStep_39 (by decide) rfl (fun hc39 => ?_) (fun hc39 => ?_)
      · have H := H.1 hc39
        refine ax_aload_n (pc' := 51) dX7_readStep_50 rfl rfl ?_
        refine ax_ldcT (pc' := 53) (i := 17) dX7_readStep_51 rfl rfl ?_
        refine ay_V1 (pc' := 56) (ce' := 0) (sl' := 0) (mc2 := 0) (ms2 := 0) (I2 := i_X10_passesWord) dX7_readStep_53 ml_X7_62 sh_1 (by decide) rfl rfl rfl rfl rfl rfl rfl rfl rfl (ac_M.imp (o_X10_passesWord _ 17 (by decide) H) ?_)
        rintro _ _ ⟨r53, s53, rfl, rfl, H⟩
        refine ax_if_eq (pc' := 59) (tgt := 67) dX7_readStep_56 (by decide) rfl (fun hc56 => ?_) (fun hc56 => ?_)
        · have H := H.1 hc56
          refine ax_aload_n (pc' := 68) dX7_readStep_67 rfl rfl ?_
          refine ax_ldcT (pc' := 70) (i := 18) dX7_readStep_68 rfl rfl ?_
          refine ay_V1 (pc' := 73) (ce' := 0) (sl' := 0) (mc2 := 0) (ms2 := 0) (I2 := i_X10_passesWord) dX7_readStep_70 ml_X7_62 sh_1 (by decide) rfl rfl rfl rfl rfl rfl rfl rfl rfl (ac_M.imp (o_X10_passesWord _ 18 (by decide) H) ?_)
          rintro _ _ ⟨r70, s70, rfl, rfl, H⟩
          refine ax_if_eq (pc' := 76) (tgt := 83) dX7_readStep_73 (by decide) rfl (fun hc73 => ?_) (fun hc73 => ?_)
          · have H := H.1 hc73
            refine ax_aload_n (pc' := 84) dX7_readStep_83 rfl rfl ?_
            refine ax_ldcT (pc' := 86) (i := 19) dX7_readStep_84 rfl rfl ?_
            refine ay_V1 (pc' := 89) (ce' := 0) (sl' := 0) (mc2 := 0) (ms2 := 0) (I2 := i_X10_passesWord) dX7_readStep_86 ml_X7_62 sh_1 (by decide) rfl rfl rfl rfl rfl rfl rfl rfl rfl (ac_M.imp (o_X10_passesWord _ 19 (by decide) H) ?_)
            rintro _ _ ⟨r86, s86, rfl, rfl, H⟩
            refine ax_if_eq (pc' := 92) (tgt := 100) dX7_readStep_89 (by decide) rfl (fun hc89 => ?_) (fun hc89 => ?_)
            · have H := H.1 hc89
              refine ax_aload_n (pc' := 101) dX7_readStep_100 rfl rfl ?_
              refine ax_ldcT (pc' := 103) (i := 20) dX7_readStep_101 rfl rfl ?_
              refine ay_V1 (pc' := 106) (ce' := 0) (sl' := 0) (mc2 := 0) (ms2 := 0) (I2 := i_X10_passesWord) dX7_readStep_103 ml_X7_62 sh_1 (by decide) rfl rfl rfl rfl rfl rfl rfl rfl rfl (ac_M.imp (o_X10_passesWord _ 20 (by decide) H) ?_)
              rintro _ _ ⟨r103, s103, rfl, rfl, H⟩
              refine ax_if_eq (pc' := 109) (tgt := 117) dX7_readStep_106 (by decide) rfl (fun hc106 => ?_) (fun hc106 => ?_)
              · have H := H.1 hc106
                refine ax_aload_n (pc' := 118) dX7_readStep_117 rfl rfl ?_
                refine ax_iconst (pc' := 119) (v := (1 : Int32)) dX7_readStep_118 (by decide) rfl ?_
                refine ay_V1 (pc' := 122) (ce' := 0) (sl' := 0) (mc2 := 0) (ms2 := 0) (I2 := i_X10_fail) dX7_readStep_119 ml_X7_95 sh_1 (by decide) rfl rfl rfl rfl rfl rfl rfl rfl rfl (ac_M.imp (o_X10_fail _ (1 : Int32) H) ?_)
                rintro _ _ ⟨r119, s119, rfl, rfl, H⟩
                obtain ⟨hb, H⟩ := H
                exact ax_zret dX7_readStep_122 rfl hb rfl rfl ⟨_, _, rfl, rfl, H⟩
              · have H := H.2 hc106
                refine ax_aload_n (pc' := 110) dX7_readStep_109 rfl rfl ?_
                refine ax_aload_n (pc' := 111) dX7_readStep_110 rfl rfl ?_
                refine ax_aload_n (pc' := 112) dX7_readStep_111 rfl rfl ?_
                refine ax_iload_n (pc' := 113) dX7_readStep_112 rfl rfl ?_
                refine ay_V3 (pc' := 116) (ce' := 0) (sl' := 0) (mc2 := 0) (ms2 := 0) (I2 := i_X7_readAgain) dX7_readStep_113 ml_X7_92 sh_37 (by decide) rfl rfl rfl rfl rfl rfl rfl rfl rfl (ac_M.imp (o_X7_readAgain (d + 1) p3 (fun e p91 Q s h => by rw [Nat.add_assoc]; exact hRp _ p91 _ _ h) H) ?_)
                rintro _ _ ⟨r113, s113, rfl, rfl, H⟩
                obtain ⟨hb, H⟩ := H
                exact ax_zret dX7_readStep_116 rfl hb rfl rfl ⟨_, _, rfl, rfl, H⟩
            · have H := H.2 hc89
              refine ax_aload_n (pc' := 93) dX7_readStep_92 rfl rfl ?_
              refine ax_iconst (pc' := 94) (v := (5 : Int32)) dX7_readStep_93 (by decide) rfl ?_
              refine ax_iconst (pc' := 95) (v := (0 : Int32)) dX7_readStep_94 (by decide) rfl ?_
              refine ax_iconst (pc' := 96) (v := (0 : Int32)) dX7_readStep_95 (by decide) rfl ?_
              refine ay_V3 (pc' := 99) (ce' := 0) (sl' := 0) (mc2 := 0) (ms2 := 0) (I2 := i_X7_put) dX7_readStep_96 ml_X7_86 sh_37 (by decide) rfl rfl rfl rfl rfl rfl rfl rfl rfl (ac_M.imp (o_X7_put _ (5 : Int32) (0 : Int32) (0 : Int32) H) ?_)
              rintro _ _ ⟨r96, s96, rfl, rfl, H⟩
              obtain ⟨hb, H⟩ := H
              exact ax_zret dX7_readStep_99 rfl hb rfl rfl ⟨_, _, rfl, rfl, H⟩
          · have H := H.2 hc73
            refine ax_aload_n (pc' := 77) dX7_readStep_76 rfl rfl ?_
            refine ax_aload_n (pc' := 78) dX7_readStep_77 rfl rfl ?_
            refine ax_aload_n (pc' := 79) dX7_readStep_78 rfl rfl ?_
            refine ay_V2 (pc' := 82) (ce' := 0) (sl' := 0) (mc2 := 0) (ms2 := 0) (I2 := i_X7_readHay) dX7_readStep_79 ml_X7_81 sh_37 (by decide) rfl rfl rfl rfl rfl rfl rfl rfl rfl (ac_M.imp (o_X7_readHay _  H) ?_)
            rintro _ _ ⟨r79, s79, rfl, rfl, H⟩
            obtain ⟨hb, H⟩ := H
            exact ax_zret dX7_readStep_82 rfl hb rfl rfl ⟨_, _, rfl, rfl, H⟩
        · have H := H.2 hc56
          refine ax_aload_n (pc' := 60) dX7_readStep_59 rfl rfl ?_
          refine ax_aload_n (pc' := 61) dX7_readStep_60 rfl rfl ?_
          refine ax_aload_n (pc' := 62) dX7_readStep_61 rfl rfl ?_
          refine ax_iconst (pc' := 63) (v := (3 : Int32)) dX7_readStep_62 (by decide) rfl ?_
          refine ay_V3 (pc' := 66) (ce' := 0) (sl' := 0) (mc2 := 0) (ms2 := 0) (I2 := i_X7_readBeast) dX7_readStep_63 ml_X7_66 sh_37 (by decide) rfl rfl rfl rfl rfl rfl rfl rfl rfl (ac_M.imp (o_X7_readBeast _ (3 : Int32) H) ?_)
          rintro _ _ ⟨r63, s63, rfl, rfl, H⟩
          obtain ⟨hb, H⟩ := H
          exact ax_zret dX7_readStep_66 rfl hb rfl rfl ⟨_, _, rfl, rfl, H⟩
      · have H := H.2 hc39
        refine ax_aload_n (pc' := 43) dX7_readStep_42 rfl rfl ?_
        refine ax_aload_n (pc' := 44) dX7_readStep_43 rfl rfl ?_
        refine ax_aload_n (pc' := 45) dX7_readStep_44 rfl rfl ?_
        refine ax_iconst (pc' := 46) (v := (2 : Int32)) dX7_readStep_45 (by decide) rfl ?_
        refine ay_V3 (pc' := 49) (ce' := 0) (sl' := 0) (mc2 := 0) (ms2 := 0) (I2 := i_X7_readBeast) dX7_readStep_46 ml_X7_66 sh_37 (by decide) rfl rfl rfl rfl rfl rfl rfl rfl rfl (ac_M.imp (o_X7_readBeast _ (2 : Int32) H) ?_)
        rintro _ _ ⟨r46, s46, rfl, rfl, H⟩
        obtain ⟨hb, H⟩ := H
        exact ax_zret dX7_readStep_49 rfl hb rfl rfl ⟨_, _, rfl, rfl, H⟩
    · have H := H.2 hc23
      refine ax_aload_n (pc' := 27) dX7_readStep_26 rfl rfl ?_
      refine ax_aload_n (pc' := 28) dX7_readStep_27 rfl rfl ?_
      refine ax_aload_n (pc' := 29) dX7_readStep_28 rfl rfl ?_
      refine ay_V2 (pc' := 32) (ce' := 0) (sl' := 0) (mc2 := 0) (ms2 := 0) (I2 := i_X7_readDrive) dX7_readStep_29 ml_X7_71 sh_37 (by decide) rfl rfl rfl rfl rfl rfl rfl rfl rfl (ac_M.imp (o_X7_readDrive _  H) ?_)
      rintro _ _ ⟨r29, s29, rfl, rfl, H⟩
      obtain ⟨hb, H⟩ := H
      exact ax_zret dX7_readStep_32 rfl hb rfl rfl ⟨_, _, rfl, rfl, H⟩
  · have H := H.2 hc6
    refine ax_aload_n (pc' := 10) dX7_readStep_9 rfl rfl ?_
    refine ax_aload_n (pc' := 11) dX7_readStep_10 rfl rfl ?_
    refine ax_aload_n (pc' := 12) dX7_readStep_11 rfl rfl ?_
    refine ax_iconst (pc' := 13) (v := (0 : Int32)) dX7_readStep_12 (by decide) rfl ?_
    refine ay_V3 (pc' := 16) (ce' := 0) (sl' := 0) (mc2 := 0) (ms2 := 0) (I2 := i_X7_readBeast) dX7_readStep_13 ml_X7_66 sh_37 (by decide) rfl rfl rfl rfl rfl rfl rfl rfl rfl (ac_M.imp (o_X7_readBeast _ (0 : Int32) H) ?_)
    rintro _ _ ⟨r13, s13, rfl, rfl, H⟩
    obtain ⟨hb, H⟩ := H
    exact ax_zret dX7_readStep_16 rfl hb rfl rfl ⟨_, _, rfl, rfl, H⟩
theorem ol_X7_readSteps_3 {g : ac_G} {τ : Nat → Nat → Int64} (d : Nat) (p3 : Int32) {Rp : Int32 → (Int32 → ac_m → Prop) → ac_m → Prop} (hRp : ∀ (e : Nat) (p1 : Int32) (Q : Int32 → ac_m → Prop) (s : ac_m), Rp p1 Q s → ac_M g i_X7_readSteps (d + e) 0 0 [.ref 37, .ref 1, .ref 3, .int p1] (false, 586, SH, s, τ) (liI τ Q)) {Q : Int32 → ac_m → Prop}  (f3 : Int32)  {x4 : Int32} {s : ac_m} (H : l_X7_readSteps_3 p3 Q Rp  f3  x4 s) : ac_X g i_X7_readSteps (d + 6) 0 0 (liI τ Q) 0 0 3 [some (.ref 37), some (.ref 1), some (.ref 3), some (.int f3), some (.int x4)] [] (false, 586, SH, s, τ) := by
  refine H (fun x4 s => ac_X g i_X7_readSteps (d + 6) 0 0 (liI τ Q) 0 0 3 [some (.ref 37), some (.ref 1), some (.ref 3), some (.int f3), some (.int x4)] [] (false, 586, SH, s, τ)) ?_
  intro x4 s H
  refine ax_iload (pc' := 5) dX7_readSteps_3 rfl rfl ?_
  refine ax_aload_n (pc' := 6) dX7_readSteps_5 rfl rfl ?_
  refine ax_getI (pc' := 9) dX7_readSteps_6 fl_X7_41 sh_1 rfl rfl rfl ?_
  refine ax_icmp_gt (pc' := 12) (tgt := 64) dX7_readSteps_9 (by decide) rfl (fun hc9 => ?_) (fun hc9 => ?_)
  · have H := H.1 hc9
    refine ax_iconst (pc' := 65) (v := (1 : Int32)) dX7_readSteps_64 (by decide) rfl ?_
    exact ax_zret dX7_readSteps_65 rfl rfl rfl rfl ⟨_, _, rfl, rfl, H⟩
  · have H := H.2 hc9
    refine ax_iload_n (pc' := 13) dX7_readSteps_12 rfl rfl ?_
    refine ax_if_ne (pc' := 16) (tgt := 26) dX7_readSteps_13 (by decide) rfl (fun hc13 => ?_) (fun hc13 => ?_)
    · have H := H.1 hc13
      refine ax_aload_n (pc' := 27) dX7_readSteps_26 rfl rfl ?_
      refine ax_bipush (pc' := 29) (v := (93 : Int32)) dX7_readSteps_27 (by decide) rfl ?_
      refine ay_V1 (pc' := 32) (ce' := 0) (sl' := 0) (mc2 := 0) (ms2 := 0) (I2 := i_X10_passes) dX7_readSteps_29 ml_X7_50 sh_1 (by decide) rfl rfl rfl rfl rfl rfl rfl rfl rfl (ac_M.imp (o_X10_passes _ (93 : Int32) H) ?_)
      rintro _ _ ⟨r29, s29, rfl, rfl, H⟩
      refine ax_if_eq (pc' := 35) (tgt := 37) dX7_readSteps_32 (by decide) rfl (fun hc32 => ?_) (fun hc32 => ?_)
      · have H := H.1 hc32
        refine ax_aload_n (pc' := 38) dX7_readSteps_37 rfl rfl ?_
        refine ax_aload_n (pc' := 39) dX7_readSteps_38 rfl rfl ?_
        refine ax_aload_n (pc' := 40) dX7_readSteps_39 rfl rfl ?_
        refine ax_iload_n (pc' := 41) dX7_readSteps_40 rfl rfl ?_
        refine ay_V3 (pc' := 44) (ce' := 0) (sl' := 0) (mc2 := 0) (ms2 := 0) (I2 := i_X7_readStep) dX7_readSteps_41 ml_X7_54 sh_37 (by decide) rfl rfl rfl rfl rfl rfl rfl rfl rfl (ac_M.imp (o_X7_readStep d f3 hRp H) ?_)
        rintro _ _ ⟨r41, s41, rfl, rfl, H⟩
        refine ax_if_eq (pc' := 47) (tgt := 56) dX7_readSteps_44 (by decide) rfl (fun hc44 => ?_) (fun hc44 => ?_)
        · have H := H.1 hc44
          refine ax_iconst (pc' := 57) (v := (0 : Int32)) dX7_readSteps_56 (by decide) rfl ?_
          exact ax_zret dX7_readSteps_57 rfl rfl rfl rfl ⟨_, _, rfl, rfl, H⟩
        · have H := H.2 hc44
          refine ax_aload_n (pc' := 48) dX7_readSteps_47 rfl rfl ?_
          refine ax_bipush (pc' := 50) (v := (59 : Int32)) dX7_readSteps_48 (by decide) rfl ?_
          refine ay_V1 (pc' := 53) (ce' := 0) (sl' := 0) (mc2 := 0) (ms2 := 0) (I2 := i_X10_expects) dX7_readSteps_50 ml_X7_57 sh_1 (by decide) rfl rfl rfl rfl rfl rfl rfl rfl rfl (ac_M.imp (o_X10_expects _ (59 : Int32) H) ?_)
          rintro _ _ ⟨r50, s50, rfl, rfl, H⟩
          refine ax_if_ne (pc' := 56) (tgt := 58) dX7_readSteps_53 (by decide) rfl (fun hc53 => ?_) (fun hc53 => ?_)
          · have H := H.1 hc53
            refine ax_iinc (pc' := 61) (v := (x4 + (1 : Int32))) dX7_readSteps_58 rfl rfl rfl rfl rfl ?_
            refine ax_goto (tgt := 3) dX7_readSteps_61 (by decide) ?_
            exact H
          · have H := H.2 hc53
            refine ax_iconst (pc' := 57) (v := (0 : Int32)) dX7_readSteps_56 (by decide) rfl ?_
            exact ax_zret dX7_readSteps_57 rfl rfl rfl rfl ⟨_, _, rfl, rfl, H⟩
      · have H := H.2 hc32
        refine ax_iconst (pc' := 36) (v := (1 : Int32)) dX7_readSteps_35 (by decide) rfl ?_
        exact ax_zret dX7_readSteps_36 rfl rfl rfl rfl ⟨_, _, rfl, rfl, H⟩
    · have H := H.2 hc13
      refine ax_aload_n (pc' := 17) dX7_readSteps_16 rfl rfl ?_
      refine ay_V0 (pc' := 20) (ce' := 0) (sl' := 0) (mc2 := 0) (ms2 := 0) (I2 := i_X10_ended) dX7_readSteps_17 ml_X7_46 sh_1 (by decide) rfl rfl rfl rfl rfl rfl rfl rfl rfl (ac_M.imp (o_X10_ended _  H) ?_)
      rintro _ _ ⟨r17, s17, rfl, rfl, H⟩
      refine ax_if_eq (pc' := 23) (tgt := 37) dX7_readSteps_20 (by decide) rfl (fun hc20 => ?_) (fun hc20 => ?_)
      · have H := H.1 hc20
        refine ax_aload_n (pc' := 38) dX7_readSteps_37 rfl rfl ?_
        refine ax_aload_n (pc' := 39) dX7_readSteps_38 rfl rfl ?_
        refine ax_aload_n (pc' := 40) dX7_readSteps_39 rfl rfl ?_
        refine ax_iload_n (pc' := 41) dX7_readSteps_40 rfl rfl ?_
        refine ay_V3 (pc' := 44) (ce' := 0) (sl' := 0) (mc2 := 0) (ms2 := 0) (I2 := i_X7_readStep) dX7_readSteps_41 ml_X7_54 sh_37 (by decide) rfl rfl rfl rfl rfl rfl rfl rfl rfl (ac_M.imp (o_X7_readStep d f3 hRp H) ?_)
        rintro _ _ ⟨r41, s41, rfl, rfl, H⟩
        refine ax_if_eq (pc' := 47) (tgt := 56) dX7_readSteps_44 (by decide) rfl (fun hc44 => ?_) (fun hc44 => ?_)
        · have H := H.1 hc44
          refine ax_iconst (pc' := 57) (v := (0 : Int32)) dX7_readSteps_56 (by decide) rfl ?_
          exact ax_zret dX7_readSteps_57 rfl rfl rfl rfl ⟨_, _, rfl, rfl, H⟩
        · have H := H.2 hc44
          refine ax_aload_n (pc' := 48) dX7_readSteps_47 rfl rfl ?_
          refine ax_bipush (pc' := 50) (v := (59 : Int32)) dX7_readSteps_48 (by decide) rfl ?_
          refine ay_V1 (pc' := 53) (ce' := 0) (sl' := 0) (mc2 := 0) (ms2 := 0) (I2 := i_X10_expects) dX7_readSteps_50 ml_X7_57 sh_1 (by decide) rfl rfl rfl rfl rfl rfl rfl rfl rfl (ac_M.imp (o_X10_expects _ (59 : Int32) H) ?_)
          rintro _ _ ⟨r50, s50, rfl, rfl, H⟩
          refine ax_if_ne (pc' := 56) (tgt := 58) dX7_readSteps_53 (by decide) rfl (fun hc53 => ?_) (fun hc53 => ?_)
          · have H := H.1 hc53
            refine ax_iinc (pc' := 61) (v := (x4 + (1 : Int32))) dX7_readSteps_58 rfl rfl rfl rfl rfl ?_
            refine ax_goto (tgt := 3) dX7_readSteps_61 (by decide) ?_
            exact H
          · have H := H.2 hc53
            refine ax_iconst (pc' := 57) (v := (0 : Int32)) dX7_readSteps_56 (by decide) rfl ?_
            exact ax_zret dX7_readSteps_57 rfl rfl rfl rfl ⟨_, _, rfl, rfl, H⟩
      · have H := H.2 hc20
        refine ax_goto (tgt := 35) dX7_readSteps_23 (by decide) ?_
        refine ax_iconst (pc' := 36) (v := (1 : Int32)) dX7_readSteps_35 (by decide) rfl ?_
        exact ax_zret dX7_readSteps_36 rfl rfl rfl rfl ⟨_, _, rfl, rfl, H⟩
theorem o_X7_readSteps {g : ac_G} {τ : Nat → Nat → Int64} (d : Nat) (p3 : Int32) {Rp : Int32 → (Int32 → ac_m → Prop) → ac_m → Prop} (hRp : ∀ (e : Nat) (p1 : Int32) (Q : Int32 → ac_m → Prop) (s : ac_m), Rp p1 Q s → ac_M g i_X7_readSteps (d + e) 0 0 [.ref 37, .ref 1, .ref 3, .int p1] (false, 586, SH, s, τ) (liI τ Q)) {Q : Int32 → ac_m → Prop} {s : ac_m} (H : w_X7_readSteps p3 Q Rp s) : ac_M g i_X7_readSteps (d + 6) 0 0 [.ref 37, .ref 1, .ref 3, .int p3] (false, 586, SH, s, τ) (liI τ Q) := by
  refine ac_ofX (by decide +kernel) rfl rfl rfl ?_
  refine ax_iconst (pc' := 1) (v := (0 : Int32)) dX7_readSteps_0 (by decide) rfl ?_
  refine ax_istore (pc' := 3) dX7_readSteps_1 rfl rfl rfl ?_
  refine ol_X7_readSteps_3 d p3 hRp _    H
theorem tok_X7_readSteps {g : ac_G} {τ : Nat → Nat → Int64} : ∀ (k d e : Nat) (p1 : Int32) (Q : Int32 → ac_m → Prop) (s : ac_m), tk_X7_readSteps k p1 Q s → ac_M g i_X7_readSteps (d + k * 6 + e) 0 0 [.ref 37, .ref 1, .ref 3, .int p1] (false, 586, SH, s, τ) (liI τ Q)
  | 0, d, e, p1, Q, s, H => H.elim
  | k + 1, d, e, p1, Q, s, H => by
    have h := o_X7_readSteps (g := g) (τ := τ) (d + k * 6 + e) p1 (fun e' p1 Q s H' => by
      have h2 := tok_X7_readSteps (g := g) (τ := τ) k d (e + e') p1 Q s H'
      rwa [show d + k * 6 + (e + e') = d + k * 6 + e + e' by omega] at h2) H
    rwa [show d + k * 6 + e + 6 = d + (k + 1) * 6 + e by omega] at h
theorem to_X7_readSteps {g : ac_G} {τ : Nat → Nat → Int64} (d : Nat) (p1 : Int32) {Q : Int32 → ac_m → Prop} {s : ac_m} (H : t_X7_readSteps p1 Q s) : ac_M g i_X7_readSteps (d + 48) 0 0 [.ref 37, .ref 1, .ref 3, .int p1] (false, 586, SH, s, τ) (liI τ Q) := tok_X7_readSteps 8 d 0 p1 Q s H
theorem o_X7_read {g : ac_G} {τ : Nat → Nat → Int64} (d : Nat)  {Q : Int32 → ac_m → Prop} {s : ac_m} (H : w_X7_read  Q s) : ac_M g i_X7_read (d + 49) 0 0 [.ref 37, .ref 1, .ref 3] (false, 586, SH, s, τ) (liI τ Q) := by
  refine ac_ofX (by decide +kernel) rfl rfl rfl ?_
  refine ax_aload_n (pc' := 1) dX7_read_0 rfl rfl ?_
  refine ax_iconst (pc' := 2) (v := (0 : Int32)) dX7_read_1 (by decide) rfl ?_
  refine ax_putI (pc' := 5) dX7_read_2 fp_X7_24 sh_37 rfl rfl rfl ?_
  refine ax_aload_n (pc' := 6) dX7_read_5 rfl rfl ?_
  refine ax_iconst (pc' := 7) (v := (0 : Int32)) dX7_read_6 (by decide) rfl ?_
  refine ax_putI (pc' := 10) dX7_read_7 fp_X7_28 sh_37 rfl rfl rfl ?_
  refine ax_aload_n (pc' := 11) dX7_read_10 rfl rfl ?_
  refine ax_iconst (pc' := 12) (v := (0 : Int32)) dX7_read_11 (by decide) rfl ?_
  refine ax_putI (pc' := 15) dX7_read_12 fp_X7_31 sh_37 rfl rfl rfl ?_
  refine ax_aload_n (pc' := 16) dX7_read_15 rfl rfl ?_
  refine ax_iconst (pc' := 17) (v := (0 : Int32)) dX7_read_16 (by decide) rfl ?_
  refine ax_putI (pc' := 20) dX7_read_17 fp_X7_34 sh_37 rfl rfl rfl ?_
  refine ax_aload_n (pc' := 21) dX7_read_20 rfl rfl ?_
  refine ax_aload_n (pc' := 22) dX7_read_21 rfl rfl ?_
  refine ax_aload_n (pc' := 23) dX7_read_22 rfl rfl ?_
  refine ax_iconst (pc' := 24) (v := (0 : Int32)) dX7_read_23 (by decide) rfl ?_
  refine ay_V3 (pc' := 27) (ce' := 0) (sl' := 0) (mc2 := 0) (ms2 := 0) (I2 := i_X7_readSteps) dX7_read_24 ml_X7_37 sh_37 (by decide) rfl rfl rfl rfl rfl rfl rfl rfl rfl (ac_M.imp (to_X7_readSteps _ (0 : Int32) H) ?_)
  rintro _ _ ⟨r24, s24, rfl, rfl, H⟩
  obtain ⟨hb, H⟩ := H
  exact ax_zret dX7_read_27 rfl hb rfl rfl ⟨_, _, rfl, rfl, H⟩
theorem o_X7_isDone {g : ac_G} {τ : Nat → Nat → Int64} (d : Nat) (p2 : Int32) (p3 : Int32) (p4 : Int32) {Q : Int32 → ac_m → Prop} {s : ac_m} (H : w_X7_isDone p2 p3 p4 Q s) : ac_M g i_X7_isDone (d + 5) 0 0 [.ref 42, .int p2, .int p3, .int p4] (false, 586, SH, s, τ) (liI τ Q) := by
  refine ac_ofX (by decide +kernel) rfl rfl rfl ?_
  refine ax_iload_n (pc' := 1) dX7_isDone_0 rfl rfl ?_
  by_cases hk1_0 : p2 = (0 : Int32)
  · have H := H.1 hk1_0
    refine ax_tableIn (off := (35)) (tgt := 36) dX7_isDone_1 (by rw [hk1_0]; decide) (by rw [hk1_0]; decide) (by rw [hk1_0]; rfl) (by decide) ?_
    refine ax_aload_n (pc' := 37) dX7_isDone_36 rfl rfl ?_
    refine ax_iload_n (pc' := 38) dX7_isDone_37 rfl rfl ?_
    refine ay_V1 (pc' := 41) (ce' := 0) (sl' := 0) (mc2 := 0) (ms2 := 0) (I2 := i_X5_askBack) dX7_isDone_38 ml_X7_124 sh_42 (by decide) rfl rfl rfl rfl rfl rfl rfl rfl rfl (ac_M.imp (o_X5_askBack _ 42 p3 is_now H) ?_)
    rintro _ _ ⟨r38, s38, rfl, rfl, H⟩
    obtain ⟨hb, H⟩ := H
    exact ax_zret dX7_isDone_41 rfl hb rfl rfl ⟨_, _, rfl, rfl, H⟩
  have H := H.2
  by_cases hk1_1 : p2 = (1 : Int32)
  · have H := H.1 hk1_1
    refine ax_tableIn (off := (41)) (tgt := 42) dX7_isDone_1 (by rw [hk1_1]; decide) (by rw [hk1_1]; decide) (by rw [hk1_1]; rfl) (by decide) ?_
    refine ax_aload_n (pc' := 43) dX7_isDone_42 rfl rfl ?_
    refine ax_iload_n (pc' := 44) dX7_isDone_43 rfl rfl ?_
    refine ax_iload_n (pc' := 45) dX7_isDone_44 rfl rfl ?_
    refine ay_V2 (pc' := 48) (ce' := 0) (sl' := 0) (mc2 := 0) (ms2 := 0) (I2 := i_X5_driveOver) dX7_isDone_45 ml_X7_129 sh_42 (by decide) rfl rfl rfl rfl rfl rfl rfl rfl rfl (ac_M.imp (o_X5_driveOver _ 42 p3 p4 is_now H) ?_)
    rintro _ _ ⟨r45, s45, rfl, rfl, H⟩
    obtain ⟨hb, H⟩ := H
    exact ax_zret dX7_isDone_48 rfl hb rfl rfl ⟨_, _, rfl, rfl, H⟩
  have H := H.2
  by_cases hk1_2 : p2 = (2 : Int32)
  · have H := H.1 hk1_2
    refine ax_tableIn (off := (48)) (tgt := 49) dX7_isDone_1 (by rw [hk1_2]; decide) (by rw [hk1_2]; decide) (by rw [hk1_2]; rfl) (by decide) ?_
    refine ax_aload_n (pc' := 50) dX7_isDone_49 rfl rfl ?_
    refine ax_iload_n (pc' := 51) dX7_isDone_50 rfl rfl ?_
    refine ay_V1 (pc' := 54) (ce' := 0) (sl' := 0) (mc2 := 0) (ms2 := 0) (I2 := i_X5_slay) dX7_isDone_51 ml_X7_133 sh_42 (by decide) rfl rfl rfl rfl rfl rfl rfl rfl rfl (ac_M.imp (o_X5_slay _ 42 p3 is_now H) ?_)
    rintro _ _ ⟨r51, s51, rfl, rfl, H⟩
    obtain ⟨hb, H⟩ := H
    exact ax_zret dX7_isDone_54 rfl hb rfl rfl ⟨_, _, rfl, rfl, H⟩
  have H := H.2
  by_cases hk1_3 : p2 = (3 : Int32)
  · have H := H.1 hk1_3
    refine ax_tableIn (off := (54)) (tgt := 55) dX7_isDone_1 (by rw [hk1_3]; decide) (by rw [hk1_3]; decide) (by rw [hk1_3]; rfl) (by decide) ?_
    refine ax_aload_n (pc' := 56) dX7_isDone_55 rfl rfl ?_
    refine ax_iload_n (pc' := 57) dX7_isDone_56 rfl rfl ?_
    refine ay_V1 (pc' := 60) (ce' := 0) (sl' := 0) (mc2 := 0) (ms2 := 0) (I2 := i_X5_doAgain) dX7_isDone_57 ml_X7_136 sh_42 (by decide) rfl rfl rfl rfl rfl rfl rfl rfl rfl (ac_M.imp (o_X5_doAgain _ 42 p3 is_now H) ?_)
    rintro _ _ ⟨r57, s57, rfl, rfl, H⟩
    obtain ⟨hb, H⟩ := H
    exact ax_zret dX7_isDone_60 rfl hb rfl rfl ⟨_, _, rfl, rfl, H⟩
  have H := H.2
  by_cases hk1_4 : p2 = (4 : Int32)
  · have H := H.1 hk1_4
    refine ax_tableIn (off := (60)) (tgt := 61) dX7_isDone_1 (by rw [hk1_4]; decide) (by rw [hk1_4]; decide) (by rw [hk1_4]; rfl) (by decide) ?_
    refine ax_aload_n (pc' := 62) dX7_isDone_61 rfl rfl ?_
    refine ax_iload_n (pc' := 63) dX7_isDone_62 rfl rfl ?_
    refine ax_iload_n (pc' := 64) dX7_isDone_63 rfl rfl ?_
    refine ay_V2 (pc' := 67) (ce' := 0) (sl' := 0) (mc2 := 0) (ms2 := 0) (I2 := i_X5_giveHay) dX7_isDone_64 ml_X7_139 sh_42 (by decide) rfl rfl rfl rfl rfl rfl rfl rfl rfl (ac_M.imp (o_X5_giveHay _ 42 p3 p4 is_now H) ?_)
    rintro _ _ ⟨r64, s64, rfl, rfl, H⟩
    obtain ⟨hb, H⟩ := H
    exact ax_zret dX7_isDone_67 rfl hb rfl rfl ⟨_, _, rfl, rfl, H⟩
  have H := H.2
  have H := H ⟨hk1_0, hk1_1, hk1_2, hk1_3, hk1_4⟩
  have hq0 : p2.toInt ≠ 0 := ac_ne hk1_0
  have hq1 : p2.toInt ≠ 1 := ac_ne hk1_1
  have hq2 : p2.toInt ≠ 2 := ac_ne hk1_2
  have hq3 : p2.toInt ≠ 3 := ac_ne hk1_3
  have hq4 : p2.toInt ≠ 4 := ac_ne hk1_4
  refine ax_tableOut (tgt := 68) dX7_isDone_1 (by omega) (by decide) ?_
  refine ax_aload_n (pc' := 69) dX7_isDone_68 rfl rfl ?_
  refine ax_getI (pc' := 72) dX7_isDone_69 fl_X7_142 sh_42 rfl rfl rfl ?_
  refine ax_sipush (pc' := 75) (v := (400 : Int32)) dX7_isDone_72 (by decide) rfl ?_
  refine ax_icmp_lt (pc' := 78) (tgt := 80) dX7_isDone_75 (by decide) rfl (fun hc75 => ?_) (fun hc75 => ?_)
  · have H := H.1 hc75
    refine ax_aload_n (pc' := 81) dX7_isDone_80 rfl rfl ?_
    refine ay_V0 (pc' := 84) (ce' := 0) (sl' := 0) (mc2 := 0) (ms2 := 0) (I2 := i_X5_passDay) dX7_isDone_81 ml_X7_144 sh_42 (by decide) rfl rfl rfl rfl rfl rfl rfl rfl rfl (ac_M.imp (o_X5_passDay _ 42 is_now H) ?_)
    rintro _ _ ⟨s81, rfl, rfl, H⟩
    refine ax_iconst (pc' := 85) (v := (1 : Int32)) dX7_isDone_84 (by decide) rfl ?_
    exact ax_zret dX7_isDone_85 rfl rfl rfl rfl ⟨_, _, rfl, rfl, H⟩
  · have H := H.2 hc75
    refine ax_iconst (pc' := 79) (v := (0 : Int32)) dX7_isDone_78 (by decide) rfl ?_
    exact ax_zret dX7_isDone_79 rfl rfl rfl rfl ⟨_, _, rfl, rfl, H⟩
theorem ol_X7_carryOut_56 {g : ac_G} {τ : Nat → Nat → Int64} (d : Nat) (p2 : Int32) (p3 : Int32) (p4 : Int32) {Rc : Int32 → Int32 → Int32 → (ac_m → Prop) → ac_m → Prop} (hRc : ∀ (e : Nat) (p1 : Int32) (p2 : Int32) (p3 : Int32) (Q : ac_m → Prop) (s : ac_m), Rc p1 p2 p3 Q s → ac_M g i_X7_carryOut (d + e) 0 0 [.ref 37, .ref 42, .int p1, .int p2, .int p3] (false, 586, SH, s, τ) (liV τ Q)) {Q : ac_m → Prop} {K111 : ac_m → Prop} (f3 : Int32) (f4 : Int32) (f5 : Int32)  {x6 : Int32} {s : ac_m} (hK111 : ∀  (s : ac_m), K111  s → ac_X g i_X7_carryOut (d + 6) 0 0 (liV τ Q) 0 0 111 [some (.ref 37), some (.ref 42), none, some (.int f3), some (.int f4), some (.int f5), none] [] (false, 586, SH, s, τ)) (H : l_X7_carryOut_56 p2 p3 p4 Q Rc K111 f3 f4 f5  x6 s) : ac_X g i_X7_carryOut (d + 6) 0 0 (liV τ Q) 0 0 56 [some (.ref 37), some (.ref 42), none, some (.int f3), some (.int f4), some (.int f5), some (.int x6)] [] (false, 586, SH, s, τ) := by
  refine H (fun x6 s => ac_X g i_X7_carryOut (d + 6) 0 0 (liV τ Q) 0 0 56 [some (.ref 37), some (.ref 42), none, some (.int f3), some (.int f4), some (.int f5), some (.int x6)] [] (false, 586, SH, s, τ)) ?_
  intro x6 s H
  refine ax_iload (pc' := 58) dX7_carryOut_56 rfl rfl ?_
  refine ax_aload_n (pc' := 59) dX7_carryOut_58 rfl rfl ?_
  refine ax_getR (pc' := 62) dX7_carryOut_59 fl_X7_15 sh_37 rfl rfl rfl ?_
  refine ax_iload (pc' := 64) dX7_carryOut_62 rfl rfl ?_
  obtain ⟨hj64, H⟩ := H
  refine ax_iald (pc' := 65) dX7_carryOut_64 sh_39 hj64 rfl rfl ?_
  refine ax_icmp_ge (pc' := 68) (tgt := 111) dX7_carryOut_65 (by decide) rfl (fun hc65 => ?_) (fun hc65 => ?_)
  · have H := H.1 hc65
    refine ax_drop 6 rfl ?_
    exact hK111 _ H
  · have H := H.2 hc65
    refine ax_aload_n (pc' := 69) dX7_carryOut_68 rfl rfl ?_
    refine ax_getI (pc' := 72) dX7_carryOut_69 fl_X7_28 sh_37 rfl rfl rfl ?_
    refine ax_sipush (pc' := 75) (v := (200 : Int32)) dX7_carryOut_72 (by decide) rfl ?_
    refine ax_icmp_ge (pc' := 78) (tgt := 111) dX7_carryOut_75 (by decide) rfl (fun hc75 => ?_) (fun hc75 => ?_)
    · have H := H.1 hc75
      refine ax_drop 6 rfl ?_
      exact hK111 _ H
    · have H := H.2 hc75
      refine ax_iload (pc' := 80) dX7_carryOut_78 rfl rfl ?_
      refine ax_bipush (pc' := 82) (v := (6 : Int32)) dX7_carryOut_80 (by decide) rfl ?_
      refine ax_icmp_ge (pc' := 85) (tgt := 111) dX7_carryOut_82 (by decide) rfl (fun hc82 => ?_) (fun hc82 => ?_)
      · have H := H.1 hc82
        refine ax_drop 6 rfl ?_
        exact hK111 _ H
      · have H := H.2 hc82
        refine ax_aload_n (pc' := 86) dX7_carryOut_85 rfl rfl ?_
        refine ax_aload_n (pc' := 87) dX7_carryOut_86 rfl rfl ?_
        refine ax_iload (pc' := 89) dX7_carryOut_87 rfl rfl ?_
        refine ax_iconst (pc' := 90) (v := (1 : Int32)) dX7_carryOut_89 (by decide) rfl ?_
        refine ax_iadd (pc' := 91) dX7_carryOut_90 rfl ?_
        refine ax_aload_n (pc' := 92) dX7_carryOut_91 rfl rfl ?_
        refine ax_getR (pc' := 95) dX7_carryOut_92 fl_X7_21 sh_37 rfl rfl rfl ?_
        refine ax_iload (pc' := 97) dX7_carryOut_95 rfl rfl ?_
        obtain ⟨hj97, H⟩ := H
        refine ax_iald (pc' := 98) dX7_carryOut_97 sh_41 hj97 rfl rfl ?_
        refine ax_iload (pc' := 100) dX7_carryOut_98 rfl rfl ?_
        refine ax_iconst (pc' := 101) (v := (1 : Int32)) dX7_carryOut_100 (by decide) rfl ?_
        refine ax_iadd (pc' := 102) dX7_carryOut_101 rfl ?_
        refine ay_V4 (pc' := 105) (ce' := 0) (sl' := 0) (mc2 := 0) (ms2 := 0) (I2 := i_X7_carryOut) dX7_carryOut_102 ml_X7_111 sh_37 (by decide) rfl rfl rfl rfl rfl rfl rfl rfl rfl (ac_M.imp (hRc _ (f5 + (1 : Int32)) (s 41 f5.toNatClampNeg) (f4 + (1 : Int32)) _ _ H) ?_)
        rintro _ _ ⟨s102, rfl, rfl, H⟩
        refine ax_iinc (pc' := 108) (v := (x6 + (1 : Int32))) dX7_carryOut_105 rfl rfl rfl rfl rfl ?_
        refine ax_goto (tgt := 56) dX7_carryOut_108 (by decide) ?_
        exact H
theorem ol_X7_carryOut_15 {g : ac_G} {τ : Nat → Nat → Int64} (d : Nat) (p2 : Int32) (p3 : Int32) (p4 : Int32) {Rc : Int32 → Int32 → Int32 → (ac_m → Prop) → ac_m → Prop} (hRc : ∀ (e : Nat) (p1 : Int32) (p2 : Int32) (p3 : Int32) (Q : ac_m → Prop) (s : ac_m), Rc p1 p2 p3 Q s → ac_M g i_X7_carryOut (d + e) 0 0 [.ref 37, .ref 42, .int p1, .int p2, .int p3] (false, 586, SH, s, τ) (liV τ Q)) {Q : ac_m → Prop}  (f3 : Int32) (f4 : Int32)  {x5 : Int32} {s : ac_m} (H : l_X7_carryOut_15 p2 p3 p4 Q Rc  f3 f4  x5 s) : ac_X g i_X7_carryOut (d + 6) 0 0 (liV τ Q) 0 0 15 [some (.ref 37), some (.ref 42), none, some (.int f3), some (.int f4), some (.int x5), none] [] (false, 586, SH, s, τ) := by
  refine H (fun x5 s => ac_X g i_X7_carryOut (d + 6) 0 0 (liV τ Q) 0 0 15 [some (.ref 37), some (.ref 42), none, some (.int f3), some (.int f4), some (.int x5), none] [] (false, 586, SH, s, τ)) ?_
  intro x5 s H
  refine ax_iload (pc' := 17) dX7_carryOut_15 rfl rfl ?_
  refine ax_iload_n (pc' := 18) dX7_carryOut_17 rfl rfl ?_
  refine ax_icmp_ge (pc' := 21) (tgt := 184) dX7_carryOut_18 (by decide) rfl (fun hc18 => ?_) (fun hc18 => ?_)
  · have H := H.1 hc18
    exact ax_vret dX7_carryOut_184 rfl rfl rfl ⟨_, rfl, rfl, H⟩
  · have H := H.2 hc18
    refine ax_aload_n (pc' := 22) dX7_carryOut_21 rfl rfl ?_
    refine ax_getI (pc' := 25) dX7_carryOut_22 fl_X7_28 sh_37 rfl rfl rfl ?_
    refine ax_sipush (pc' := 28) (v := (200 : Int32)) dX7_carryOut_25 (by decide) rfl ?_
    refine ax_icmp_ge (pc' := 31) (tgt := 184) dX7_carryOut_28 (by decide) rfl (fun hc28 => ?_) (fun hc28 => ?_)
    · have H := H.1 hc28
      exact ax_vret dX7_carryOut_184 rfl rfl rfl ⟨_, rfl, rfl, H⟩
    · have H := H.2 hc28
      refine ax_aload_n (pc' := 32) dX7_carryOut_31 rfl rfl ?_
      refine ax_dup (pc' := 33) dX7_carryOut_32 rfl rfl ?_
      refine ax_getI (pc' := 36) dX7_carryOut_33 fl_X7_28 sh_37 rfl rfl rfl ?_
      refine ax_iconst (pc' := 37) (v := (1 : Int32)) dX7_carryOut_36 (by decide) rfl ?_
      refine ax_iadd (pc' := 38) dX7_carryOut_37 rfl ?_
      refine ax_putI (pc' := 41) dX7_carryOut_38 fp_X7_28 sh_37 rfl rfl rfl ?_
      refine ax_aload_n (pc' := 42) dX7_carryOut_41 rfl rfl ?_
      refine ax_getR (pc' := 45) dX7_carryOut_42 fl_X7_9 sh_37 rfl rfl rfl ?_
      refine ax_iload (pc' := 47) dX7_carryOut_45 rfl rfl ?_
      obtain ⟨hj47, H⟩ := H
      refine ax_iald (pc' := 48) dX7_carryOut_47 sh_38 hj47 rfl rfl ?_
      refine ax_bipush (pc' := 50) (v := (6 : Int32)) dX7_carryOut_48 (by decide) rfl ?_
      refine ax_icmp_ne (pc' := 53) (tgt := 114) dX7_carryOut_50 (by decide) rfl (fun hc50 => ?_) (fun hc50 => ?_)
      · have H := H.1 hc50
        refine ax_aload_n (pc' := 115) dX7_carryOut_114 rfl rfl ?_
        refine ax_aload_n (pc' := 116) dX7_carryOut_115 rfl rfl ?_
        refine ax_getR (pc' := 119) dX7_carryOut_116 fl_X7_9 sh_37 rfl rfl rfl ?_
        refine ax_iload (pc' := 121) dX7_carryOut_119 rfl rfl ?_
        obtain ⟨hj121, H⟩ := H
        refine ax_iald (pc' := 122) dX7_carryOut_121 sh_38 hj121 rfl rfl ?_
        refine ax_aload_n (pc' := 123) dX7_carryOut_122 rfl rfl ?_
        refine ax_getR (pc' := 126) dX7_carryOut_123 fl_X7_15 sh_37 rfl rfl rfl ?_
        refine ax_iload (pc' := 128) dX7_carryOut_126 rfl rfl ?_
        obtain ⟨hj128, H⟩ := H
        refine ax_iald (pc' := 129) dX7_carryOut_128 sh_39 hj128 rfl rfl ?_
        refine ax_aload_n (pc' := 130) dX7_carryOut_129 rfl rfl ?_
        refine ax_getR (pc' := 133) dX7_carryOut_130 fl_X7_18 sh_37 rfl rfl rfl ?_
        refine ax_iload (pc' := 135) dX7_carryOut_133 rfl rfl ?_
        obtain ⟨hj135, H⟩ := H
        refine ax_iald (pc' := 136) dX7_carryOut_135 sh_40 hj135 rfl rfl ?_
        refine ay_S4 (pc' := 139) (ce' := 0) (sl' := 0) (mc2 := 0) (ms2 := 0) (I2 := i_X7_isDone) dX7_carryOut_136 ml_X7_115 rfl rfl rfl rfl rfl rfl rfl rfl (ac_M.imp (o_X7_isDone _ ((ac_u s 37 5 ((s 37 5) + (1 : Int32))) 38 x5.toNatClampNeg) ((ac_u s 37 5 ((s 37 5) + (1 : Int32))) 39 x5.toNatClampNeg) ((ac_u s 37 5 ((s 37 5) + (1 : Int32))) 40 x5.toNatClampNeg) H) ?_)
        rintro _ _ ⟨r136, s136, rfl, rfl, H⟩
        refine ax_if_eq (pc' := 142) (tgt := 155) dX7_carryOut_139 (by decide) rfl (fun hc139 => ?_) (fun hc139 => ?_)
        · have H := H.1 hc139
          refine ax_aload_n (pc' := 156) dX7_carryOut_155 rfl rfl ?_
          refine ax_dup (pc' := 157) dX7_carryOut_156 rfl rfl ?_
          refine ax_getI (pc' := 160) dX7_carryOut_157 fl_X7_34 sh_37 rfl rfl rfl ?_
          refine ax_iconst (pc' := 161) (v := (1 : Int32)) dX7_carryOut_160 (by decide) rfl ?_
          refine ax_iadd (pc' := 162) dX7_carryOut_161 rfl ?_
          refine ax_putI (pc' := 165) dX7_carryOut_162 fp_X7_34 sh_37 rfl rfl rfl ?_
          refine ax_iload (pc' := 167) dX7_carryOut_165 rfl rfl ?_
          refine ax_iconst (pc' := 168) (v := (1 : Int32)) dX7_carryOut_167 (by decide) rfl ?_
          refine ax_iadd (pc' := 169) dX7_carryOut_168 rfl ?_
          refine ax_aload_n (pc' := 170) dX7_carryOut_169 rfl rfl ?_
          refine ax_getR (pc' := 173) dX7_carryOut_170 fl_X7_21 sh_37 rfl rfl rfl ?_
          refine ax_iload (pc' := 175) dX7_carryOut_173 rfl rfl ?_
          obtain ⟨hj175, H⟩ := H
          refine ax_iald (pc' := 176) dX7_carryOut_175 sh_41 hj175 rfl rfl ?_
          refine ax_max (pc' := 179) dX7_carryOut_176 mj_X7_119 mk_max.1 mk_max.2.1 mk_max.2.2 rfl rfl rfl rfl ?_
          refine ax_topi (fun y179 hy179 => ?_)
          have H := H y179 hy179
          refine ax_istore (pc' := 181) dX7_carryOut_179 rfl rfl rfl ?_
          refine ax_goto (tgt := 15) dX7_carryOut_181 (by decide) ?_
          exact H
        · have H := H.2 hc139
          refine ax_aload_n (pc' := 143) dX7_carryOut_142 rfl rfl ?_
          refine ax_dup (pc' := 144) dX7_carryOut_143 rfl rfl ?_
          refine ax_getI (pc' := 147) dX7_carryOut_144 fl_X7_31 sh_37 rfl rfl rfl ?_
          refine ax_iconst (pc' := 148) (v := (1 : Int32)) dX7_carryOut_147 (by decide) rfl ?_
          refine ax_iadd (pc' := 149) dX7_carryOut_148 rfl ?_
          refine ax_putI (pc' := 152) dX7_carryOut_149 fp_X7_31 sh_37 rfl rfl rfl ?_
          refine ax_goto (tgt := 165) dX7_carryOut_152 (by decide) ?_
          refine ax_iload (pc' := 167) dX7_carryOut_165 rfl rfl ?_
          refine ax_iconst (pc' := 168) (v := (1 : Int32)) dX7_carryOut_167 (by decide) rfl ?_
          refine ax_iadd (pc' := 169) dX7_carryOut_168 rfl ?_
          refine ax_aload_n (pc' := 170) dX7_carryOut_169 rfl rfl ?_
          refine ax_getR (pc' := 173) dX7_carryOut_170 fl_X7_21 sh_37 rfl rfl rfl ?_
          refine ax_iload (pc' := 175) dX7_carryOut_173 rfl rfl ?_
          obtain ⟨hj175, H⟩ := H
          refine ax_iald (pc' := 176) dX7_carryOut_175 sh_41 hj175 rfl rfl ?_
          refine ax_max (pc' := 179) dX7_carryOut_176 mj_X7_119 mk_max.1 mk_max.2.1 mk_max.2.2 rfl rfl rfl rfl ?_
          refine ax_topi (fun y179 hy179 => ?_)
          have H := H y179 hy179
          refine ax_istore (pc' := 181) dX7_carryOut_179 rfl rfl rfl ?_
          refine ax_goto (tgt := 15) dX7_carryOut_181 (by decide) ?_
          exact H
      · have H := H.2 hc50
        refine ax_iconst (pc' := 54) (v := (0 : Int32)) dX7_carryOut_53 (by decide) rfl ?_
        refine ax_istore (pc' := 56) dX7_carryOut_54 rfl rfl rfl ?_
        refine ol_X7_carryOut_56 d p2 p3 p4 hRc _ _ _   ?_ H
        · intro  sk56 H
          refine ax_goto (tgt := 165) dX7_carryOut_111 (by decide) ?_
          refine ax_iload (pc' := 167) dX7_carryOut_165 rfl rfl ?_
          refine ax_iconst (pc' := 168) (v := (1 : Int32)) dX7_carryOut_167 (by decide) rfl ?_
          refine ax_iadd (pc' := 169) dX7_carryOut_168 rfl ?_
          refine ax_aload_n (pc' := 170) dX7_carryOut_169 rfl rfl ?_
          refine ax_getR (pc' := 173) dX7_carryOut_170 fl_X7_21 sh_37 rfl rfl rfl ?_
          refine ax_iload (pc' := 175) dX7_carryOut_173 rfl rfl ?_
          obtain ⟨hj175, H⟩ := H
          refine ax_iald (pc' := 176) dX7_carryOut_175 sh_41 hj175 rfl rfl ?_
          refine ax_max (pc' := 179) dX7_carryOut_176 mj_X7_119 mk_max.1 mk_max.2.1 mk_max.2.2 rfl rfl rfl rfl ?_
          refine ax_topi (fun y179 hy179 => ?_)
          have H := H y179 hy179
          refine ax_istore (pc' := 181) dX7_carryOut_179 rfl rfl rfl ?_
          refine ax_goto (tgt := 15) dX7_carryOut_181 (by decide) ?_
          exact H
theorem o_X7_carryOut {g : ac_G} {τ : Nat → Nat → Int64} (d : Nat) (p2 : Int32) (p3 : Int32) (p4 : Int32) {Rc : Int32 → Int32 → Int32 → (ac_m → Prop) → ac_m → Prop} (hRc : ∀ (e : Nat) (p1 : Int32) (p2 : Int32) (p3 : Int32) (Q : ac_m → Prop) (s : ac_m), Rc p1 p2 p3 Q s → ac_M g i_X7_carryOut (d + e) 0 0 [.ref 37, .ref 42, .int p1, .int p2, .int p3] (false, 586, SH, s, τ) (liV τ Q)) {Q : ac_m → Prop} {s : ac_m} (H : w_X7_carryOut p2 p3 p4 Q Rc s) : ac_M g i_X7_carryOut (d + 6) 0 0 [.ref 37, .ref 42, .int p2, .int p3, .int p4] (false, 586, SH, s, τ) (liV τ Q) := by
  refine ac_ofX (by decide +kernel) rfl rfl rfl ?_
  refine ax_iload_n (pc' := 1) dX7_carryOut_0 rfl rfl ?_
  refine ax_if_lt (pc' := 4) (tgt := 11) dX7_carryOut_1 (by decide) rfl (fun hc1 => ?_) (fun hc1 => ?_)
  · have H := H.1 hc1
    exact ax_vret dX7_carryOut_11 rfl rfl rfl ⟨_, rfl, rfl, H⟩
  · have H := H.2 hc1
    refine ax_iload_n (pc' := 5) dX7_carryOut_4 rfl rfl ?_
    refine ax_sipush (pc' := 8) (v := (150 : Int32)) dX7_carryOut_5 (by decide) rfl ?_
    refine ax_icmp_le (pc' := 11) (tgt := 12) dX7_carryOut_8 (by decide) rfl (fun hc8 => ?_) (fun hc8 => ?_)
    · have H := H.1 hc8
      refine ax_iload_n (pc' := 13) dX7_carryOut_12 rfl rfl ?_
      refine ax_istore (pc' := 15) dX7_carryOut_13 rfl rfl rfl ?_
      refine ax_drop 2 rfl ?_
      refine ol_X7_carryOut_15 d p2 p3 p4 hRc _ _    H
    · have H := H.2 hc8
      exact ax_vret dX7_carryOut_11 rfl rfl rfl ⟨_, rfl, rfl, H⟩
theorem tok_X7_carryOut {g : ac_G} {τ : Nat → Nat → Int64} : ∀ (k d e : Nat) (p1 : Int32) (p2 : Int32) (p3 : Int32) (Q : ac_m → Prop) (s : ac_m), tk_X7_carryOut k p1 p2 p3 Q s → ac_M g i_X7_carryOut (d + k * 6 + e) 0 0 [.ref 37, .ref 42, .int p1, .int p2, .int p3] (false, 586, SH, s, τ) (liV τ Q)
  | 0, d, e, p1, p2, p3, Q, s, H => H.elim
  | k + 1, d, e, p1, p2, p3, Q, s, H => by
    have h := o_X7_carryOut (g := g) (τ := τ) (d + k * 6 + e) p1 p2 p3 (fun e' p1 p2 p3 Q s H' => by
      have h2 := tok_X7_carryOut (g := g) (τ := τ) k d (e + e') p1 p2 p3 Q s H'
      rwa [show d + k * 6 + (e + e') = d + k * 6 + e + e' by omega] at h2) H
    rwa [show d + k * 6 + e + 6 = d + (k + 1) * 6 + e by omega] at h
theorem to_X7_carryOut {g : ac_G} {τ : Nat → Nat → Int64} (d : Nat) (p1 : Int32) (p2 : Int32) (p3 : Int32) {Q : ac_m → Prop} {s : ac_m} (H : t_X7_carryOut p1 p2 p3 Q s) : ac_M g i_X7_carryOut (d + 48) 0 0 [.ref 37, .ref 42, .int p1, .int p2, .int p3] (false, 586, SH, s, τ) (liV τ Q) := tok_X7_carryOut 8 d 0 p1 p2 p3 Q s H
