theorem o_X12_missing {g : ac_G} {τ : Nat → Nat → Int64} (d : Nat) (p1 : Int32) {Q : Int32 → ac_m → Prop} {s : ac_m} (H : w_X12_missing p1 Q s) : ac_M g i_X12_missing d 0 0 [.ref 69, .int p1] (false, 586, SH, s, τ) (liI τ Q) := by
  refine ac_ofX (by decide +kernel) rfl rfl rfl ?_
  refine ax_bipush (pc' := 2) (v := (99 : Int32)) dX12_missing_0 (by decide) rfl ?_
  refine ax_aload_n (pc' := 3) dX12_missing_2 rfl rfl ?_
  refine ax_getR (pc' := 6) dX12_missing_3 fl_X12_67 sh_69 rfl rfl rfl ?_
  refine ax_bipush (pc' := 8) (v := (39 : Int32)) dX12_missing_6 (by decide) rfl ?_
  refine ax_iload_n (pc' := 9) dX12_missing_8 rfl rfl ?_
  refine ax_iadd (pc' := 10) dX12_missing_9 rfl ?_
  obtain ⟨hj10, H⟩ := H
  refine ax_iald (pc' := 11) dX12_missing_10 sh_556 hj10 rfl rfl ?_
  refine ax_isub (pc' := 12) dX12_missing_11 rfl ?_
  exact ax_iret dX12_missing_12 rfl rfl rfl ⟨_, _, rfl, rfl, H⟩
theorem ol_X12_givenBy_5 {g : ac_G} {τ : Nat → Nat → Int64} (d : Nat) (p1 : Int32) (p2 : Int32) {Q : Int32 → ac_m → Prop}  (f1 : Int32) (f2 : Int32)  {x3 : Int32} {x4 : Int32} {s : ac_m} (H : l_X12_givenBy_5 p1 p2 Q  f1 f2  x3 x4 s) : ac_X g i_X12_givenBy (d + 1) 0 0 (liI τ Q) 0 0 5 [some (.ref 69), some (.int f1), some (.int f2), some (.int x3), some (.int x4)] [] (false, 586, SH, s, τ) := by
  refine H (fun x3 x4 s => ac_X g i_X12_givenBy (d + 1) 0 0 (liI τ Q) 0 0 5 [some (.ref 69), some (.int f1), some (.int f2), some (.int x3), some (.int x4)] [] (false, 586, SH, s, τ)) ?_
  intro x3 x4 s H
  refine ax_iload (pc' := 7) dX12_givenBy_5 rfl rfl ?_
  refine ax_aload_n (pc' := 8) dX12_givenBy_7 rfl rfl ?_
  refine ax_getR (pc' := 11) dX12_givenBy_8 fl_X12_23 sh_69 rfl rfl rfl ?_
  refine ax_iconst (pc' := 12) (v := (0 : Int32)) dX12_givenBy_11 (by decide) rfl ?_
  refine ax_iald (pc' := 13) dX12_givenBy_12 sh_73 (ac_in (by decide)) rfl rfl ?_
  refine ax_icmp_ge (pc' := 16) (tgt := 48) dX12_givenBy_13 (by decide) rfl (fun hc13 => ?_) (fun hc13 => ?_)
  · have H := H.1 hc13
    refine ax_iload_n (pc' := 49) dX12_givenBy_48 rfl rfl ?_
    exact ax_iret dX12_givenBy_49 rfl rfl rfl ⟨_, _, rfl, rfl, H⟩
  · have H := H.2 hc13
    refine ax_iload_n (pc' := 17) dX12_givenBy_16 rfl rfl ?_
    refine ax_iload_n (pc' := 18) dX12_givenBy_17 rfl rfl ?_
    refine ax_iload (pc' := 20) dX12_givenBy_18 rfl rfl ?_
    refine ay_S2 (pc' := 23) (ce' := 0) (sl' := 0) (mc2 := 0) (ms2 := 0) (I2 := i_X12_has) dX12_givenBy_20 ml_X12_266 rfl rfl rfl rfl rfl rfl rfl rfl (ac_M.imp (o_X12_has _ f1 x4 H) ?_)
    rintro _ _ ⟨r20, s20, rfl, rfl, H⟩
    refine ax_if_eq (pc' := 26) (tgt := 39) dX12_givenBy_23 (by decide) rfl (fun hc23 => ?_) (fun hc23 => ?_)
    · have H := H.1 hc23
      refine ax_iconst (pc' := 40) (v := (0 : Int32)) dX12_givenBy_39 (by decide) rfl ?_
      refine ax_iadd (pc' := 41) dX12_givenBy_40 rfl ?_
      refine ax_istore_n (pc' := 42) dX12_givenBy_41 rfl rfl rfl ?_
      refine ax_iinc (pc' := 45) (v := (x4 + (1 : Int32))) dX12_givenBy_42 rfl rfl rfl rfl rfl ?_
      refine ax_goto (tgt := 5) dX12_givenBy_45 (by decide) ?_
      exact H
    · have H := H.2 hc23
      refine ax_iload_n (pc' := 27) dX12_givenBy_26 rfl rfl ?_
      refine ax_aload_n (pc' := 28) dX12_givenBy_27 rfl rfl ?_
      refine ax_iload (pc' := 30) dX12_givenBy_28 rfl rfl ?_
      refine ay_V1 (pc' := 33) (ce' := 0) (sl' := 0) (mc2 := 0) (ms2 := 0) (I2 := i_X12_missing) dX12_givenBy_30 ml_X12_392 sh_69 (by decide) rfl rfl rfl rfl rfl rfl rfl rfl rfl (ac_M.imp (o_X12_missing _ x4 H) ?_)
      rintro _ _ ⟨r30, s30, rfl, rfl, H⟩
      refine ay_S2 (pc' := 36) (ce' := 0) (sl' := 0) (mc2 := 0) (ms2 := 0) (I2 := i_X12_less) dX12_givenBy_33 ml_X12_247 rfl rfl rfl rfl rfl rfl rfl rfl (ac_M.imp (o_X12_less _ f2 r30 H) ?_)
      rintro _ _ ⟨r33, s33, rfl, rfl, H⟩
      refine ax_goto (tgt := 40) dX12_givenBy_36 (by decide) ?_
      refine ax_iadd (pc' := 41) dX12_givenBy_40 rfl ?_
      refine ax_istore_n (pc' := 42) dX12_givenBy_41 rfl rfl rfl ?_
      refine ax_iinc (pc' := 45) (v := (x4 + (1 : Int32))) dX12_givenBy_42 rfl rfl rfl rfl rfl ?_
      refine ax_goto (tgt := 5) dX12_givenBy_45 (by decide) ?_
      exact H
theorem o_X12_givenBy {g : ac_G} {τ : Nat → Nat → Int64} (d : Nat) (p1 : Int32) (p2 : Int32) {Q : Int32 → ac_m → Prop} {s : ac_m} (H : w_X12_givenBy p1 p2 Q s) : ac_M g i_X12_givenBy (d + 1) 0 0 [.ref 69, .int p1, .int p2] (false, 586, SH, s, τ) (liI τ Q) := by
  refine ac_ofX (by decide +kernel) rfl rfl rfl ?_
  refine ax_iconst (pc' := 1) (v := (0 : Int32)) dX12_givenBy_0 (by decide) rfl ?_
  refine ax_istore_n (pc' := 2) dX12_givenBy_1 rfl rfl rfl ?_
  refine ax_iconst (pc' := 3) (v := (0 : Int32)) dX12_givenBy_2 (by decide) rfl ?_
  refine ax_istore (pc' := 5) dX12_givenBy_3 rfl rfl rfl ?_
  refine ol_X12_givenBy_5 d p1 p2  _ _    H
theorem ol_X12_share_75 {g : ac_G} {τ : Nat → Nat → Int64} (d : Nat) (p1 : Int32) (p2 : Int32) (p3 : Int32) {Q : Int32 → ac_m → Prop}  (f1 : Int32) (f2 : Int32) (f3 : Int32)  {x4 : Int32} {s : ac_m} (H : l_X12_share_75 p1 p2 p3 Q  f1 f2 f3  x4 s) : ac_X g i_X12_share (d + 2) 0 0 (liI τ Q) 0 0 75 [some (.ref 69), some (.int f1), some (.int f2), some (.int f3), some (.int x4)] [] (false, 586, SH, s, τ) := by
  refine H (fun x4 s => ac_X g i_X12_share (d + 2) 0 0 (liI τ Q) 0 0 75 [some (.ref 69), some (.int f1), some (.int f2), some (.int f3), some (.int x4)] [] (false, 586, SH, s, τ)) ?_
  intro x4 s H
  refine ax_iload (pc' := 77) dX12_share_75 rfl rfl ?_
  refine ax_bipush (pc' := 79) (v := (99 : Int32)) dX12_share_77 (by decide) rfl ?_
  refine ax_icmp_ge (pc' := 82) (tgt := 101) dX12_share_79 (by decide) rfl (fun hc79 => ?_) (fun hc79 => ?_)
  · have H := H.1 hc79
    refine ax_iload_n (pc' := 102) dX12_share_101 rfl rfl ?_
    refine ax_iload_n (pc' := 103) dX12_share_102 rfl rfl ?_
    refine ay_S2 (pc' := 106) (ce' := 0) (sl' := 0) (mc2 := 0) (ms2 := 0) (I2 := i_X12_has) dX12_share_103 ml_X12_266 rfl rfl rfl rfl rfl rfl rfl rfl (ac_M.imp (o_X12_has _ f2 f1 H) ?_)
    rintro _ _ ⟨r103, s103, rfl, rfl, H⟩
    refine ax_if_eq (pc' := 109) (tgt := 122) dX12_share_106 (by decide) rfl (fun hc106 => ?_) (fun hc106 => ?_)
    · have H := H.1 hc106
      refine ax_iconst (pc' := 123) (v := (0 : Int32)) dX12_share_122 (by decide) rfl ?_
      exact ax_iret dX12_share_123 rfl rfl rfl ⟨_, _, rfl, rfl, H⟩
    · have H := H.2 hc106
      refine ax_iload (pc' := 111) dX12_share_109 rfl rfl ?_
      refine ax_aload_n (pc' := 112) dX12_share_111 rfl rfl ?_
      refine ax_iload_n (pc' := 113) dX12_share_112 rfl rfl ?_
      refine ay_V1 (pc' := 116) (ce' := 0) (sl' := 0) (mc2 := 0) (ms2 := 0) (I2 := i_X12_missing) dX12_share_113 ml_X12_392 sh_69 (by decide) rfl rfl rfl rfl rfl rfl rfl rfl rfl (ac_M.imp (o_X12_missing _ f1 H) ?_)
      rintro _ _ ⟨r113, s113, rfl, rfl, H⟩
      refine ay_S2 (pc' := 119) (ce' := 0) (sl' := 0) (mc2 := 0) (ms2 := 0) (I2 := i_X12_less) dX12_share_116 ml_X12_247 rfl rfl rfl rfl rfl rfl rfl rfl (ac_M.imp (o_X12_less _ x4 r113 H) ?_)
      rintro _ _ ⟨r116, s116, rfl, rfl, H⟩
      refine ax_goto (tgt := 123) dX12_share_119 (by decide) ?_
      exact ax_iret dX12_share_123 rfl rfl rfl ⟨_, _, rfl, rfl, H⟩
  · have H := H.2 hc79
    refine ax_aload_n (pc' := 83) dX12_share_82 rfl rfl ?_
    refine ax_iload_n (pc' := 84) dX12_share_83 rfl rfl ?_
    refine ax_iload (pc' := 86) dX12_share_84 rfl rfl ?_
    refine ax_iconst (pc' := 87) (v := (1 : Int32)) dX12_share_86 (by decide) rfl ?_
    refine ax_iadd (pc' := 88) dX12_share_87 rfl ?_
    refine ay_V2 (pc' := 91) (ce' := 0) (sl' := 0) (mc2 := 0) (ms2 := 0) (I2 := i_X12_givenBy) dX12_share_88 ml_X12_395 sh_69 (by decide) rfl rfl rfl rfl rfl rfl rfl rfl rfl (ac_M.imp (o_X12_givenBy _ f2 (x4 + (1 : Int32)) H) ?_)
    rintro _ _ ⟨r88, s88, rfl, rfl, H⟩
    refine ax_iload_n (pc' := 92) dX12_share_91 rfl rfl ?_
    refine ax_icmp_gt (pc' := 95) (tgt := 101) dX12_share_92 (by decide) rfl (fun hc92 => ?_) (fun hc92 => ?_)
    · have H := H.1 hc92
      refine ax_iload_n (pc' := 102) dX12_share_101 rfl rfl ?_
      refine ax_iload_n (pc' := 103) dX12_share_102 rfl rfl ?_
      refine ay_S2 (pc' := 106) (ce' := 0) (sl' := 0) (mc2 := 0) (ms2 := 0) (I2 := i_X12_has) dX12_share_103 ml_X12_266 rfl rfl rfl rfl rfl rfl rfl rfl (ac_M.imp (o_X12_has _ f2 f1 H) ?_)
      rintro _ _ ⟨r103, s103, rfl, rfl, H⟩
      refine ax_if_eq (pc' := 109) (tgt := 122) dX12_share_106 (by decide) rfl (fun hc106 => ?_) (fun hc106 => ?_)
      · have H := H.1 hc106
        refine ax_iconst (pc' := 123) (v := (0 : Int32)) dX12_share_122 (by decide) rfl ?_
        exact ax_iret dX12_share_123 rfl rfl rfl ⟨_, _, rfl, rfl, H⟩
      · have H := H.2 hc106
        refine ax_iload (pc' := 111) dX12_share_109 rfl rfl ?_
        refine ax_aload_n (pc' := 112) dX12_share_111 rfl rfl ?_
        refine ax_iload_n (pc' := 113) dX12_share_112 rfl rfl ?_
        refine ay_V1 (pc' := 116) (ce' := 0) (sl' := 0) (mc2 := 0) (ms2 := 0) (I2 := i_X12_missing) dX12_share_113 ml_X12_392 sh_69 (by decide) rfl rfl rfl rfl rfl rfl rfl rfl rfl (ac_M.imp (o_X12_missing _ f1 H) ?_)
        rintro _ _ ⟨r113, s113, rfl, rfl, H⟩
        refine ay_S2 (pc' := 119) (ce' := 0) (sl' := 0) (mc2 := 0) (ms2 := 0) (I2 := i_X12_less) dX12_share_116 ml_X12_247 rfl rfl rfl rfl rfl rfl rfl rfl (ac_M.imp (o_X12_less _ x4 r113 H) ?_)
        rintro _ _ ⟨r116, s116, rfl, rfl, H⟩
        refine ax_goto (tgt := 123) dX12_share_119 (by decide) ?_
        exact ax_iret dX12_share_123 rfl rfl rfl ⟨_, _, rfl, rfl, H⟩
    · have H := H.2 hc92
      refine ax_iinc (pc' := 98) (v := (x4 + (1 : Int32))) dX12_share_95 rfl rfl rfl rfl rfl ?_
      refine ax_goto (tgt := 75) dX12_share_98 (by decide) ?_
      exact H
theorem o_X12_share {g : ac_G} {τ : Nat → Nat → Int64} (d : Nat) (p1 : Int32) (p2 : Int32) (p3 : Int32) {Q : Int32 → ac_m → Prop} {s : ac_m} (H : w_X12_share p1 p2 p3 Q s) : ac_M g i_X12_share (d + 2) 0 0 [.ref 69, .int p1, .int p2, .int p3] (false, 586, SH, s, τ) (liI τ Q) := by
  refine ac_ofX (by decide +kernel) rfl rfl rfl ?_
  refine ax_aload_n (pc' := 1) dX12_share_0 rfl rfl ?_
  refine ax_iconst (pc' := 2) (v := (0 : Int32)) dX12_share_1 (by decide) rfl ?_
  refine ax_putI (pc' := 5) dX12_share_2 fp_X12_104 sh_69 rfl rfl rfl ?_
  refine ax_aload_n (pc' := 6) dX12_share_5 rfl rfl ?_
  refine ax_aload_n (pc' := 7) dX12_share_6 rfl rfl ?_
  refine ax_iload_n (pc' := 8) dX12_share_7 rfl rfl ?_
  refine ay_V1 (pc' := 11) (ce' := 0) (sl' := 0) (mc2 := 0) (ms2 := 0) (I2 := i_X12_isFolk) dX12_share_8 ml_X12_348 sh_69 (by decide) rfl rfl rfl rfl rfl rfl rfl rfl rfl (ac_M.imp (o_X12_isFolk _ p1 H) ?_)
  rintro _ _ ⟨r8, s8, rfl, rfl, H⟩
  refine ax_if_ne (pc' := 14) (tgt := 18) dX12_share_11 (by decide) rfl (fun hc11 => ?_) (fun hc11 => ?_)
  · have H := H.1 hc11
    refine ax_iconst (pc' := 19) (v := (0 : Int32)) dX12_share_18 (by decide) rfl ?_
    refine ax_iconst (pc' := 20) (v := (1 : Int32)) dX12_share_19 (by decide) rfl ?_
    refine ax_iconst (pc' := 21) (v := (0 : Int32)) dX12_share_20 (by decide) rfl ?_
    refine ay_V3 (pc' := 24) (ce' := 0) (sl' := 0) (mc2 := 0) (ms2 := 0) (I2 := i_X12_bad) dX12_share_21 ml_X12_183 sh_69 (by decide) rfl rfl rfl rfl rfl rfl rfl rfl rfl (ac_M.imp (o_X12_bad _ (0 : Int32) (1 : Int32) (0 : Int32) H) ?_)
    rintro _ _ ⟨r21, s21, rfl, rfl, H⟩
    refine ax_if_ne (pc' := 27) (tgt := 70) dX12_share_24 (by decide) rfl (fun hc24 => ?_) (fun hc24 => ?_)
    · have H := H.1 hc24
      refine ax_iconst (pc' := 71) (v := (0 : Int32)) dX12_share_70 (by decide) rfl ?_
      exact ax_iret dX12_share_71 rfl rfl rfl ⟨_, _, rfl, rfl, H⟩
    · have H := H.2 hc24
      refine ax_aload_n (pc' := 28) dX12_share_27 rfl rfl ?_
      refine ax_iload_n (pc' := 29) dX12_share_28 rfl rfl ?_
      refine ax_iconst (pc' := 30) (v := (0 : Int32)) dX12_share_29 (by decide) rfl ?_
      refine ax_iconst (pc' := 31) (v := (1 : Int32)) dX12_share_30 (by decide) rfl ?_
      refine ax_aload_n (pc' := 32) dX12_share_31 rfl rfl ?_
      refine ax_getR (pc' := 35) dX12_share_32 fl_X12_23 sh_69 rfl rfl rfl ?_
      refine ax_iconst (pc' := 36) (v := (0 : Int32)) dX12_share_35 (by decide) rfl ?_
      refine ax_iald (pc' := 37) dX12_share_36 sh_73 (ac_in (by decide)) rfl rfl ?_
      refine ax_ishl (pc' := 38) dX12_share_37 rfl ?_
      refine ax_iconst (pc' := 39) (v := (1 : Int32)) dX12_share_38 (by decide) rfl ?_
      refine ax_isub (pc' := 40) dX12_share_39 rfl ?_
      refine ay_S3 (pc' := 43) (ce' := 0) (sl' := 0) (mc2 := 0) (ms2 := 0) (I2 := i_X12_in) dX12_share_40 ml_X12_138 rfl rfl rfl rfl rfl rfl rfl rfl (ac_M.imp (o_X12_in _ p2 (0 : Int32) (((1 : Int32) <<< ((s21 73 (0 : Int32).toNatClampNeg) &&& 31)) - (1 : Int32)) H) ?_)
      rintro _ _ ⟨r40, s40, rfl, rfl, H⟩
      refine ax_if_eq (pc' := 46) (tgt := 57) dX12_share_43 (by decide) rfl (fun hc43 => ?_) (fun hc43 => ?_)
      · have H := H.1 hc43
        refine ax_iconst (pc' := 58) (v := (1 : Int32)) dX12_share_57 (by decide) rfl ?_
        refine ax_goto (tgt := 62) dX12_share_58 (by decide) ?_
        refine ax_iconst (pc' := 63) (v := (2 : Int32)) dX12_share_62 (by decide) rfl ?_
        refine ax_iconst (pc' := 64) (v := (1 : Int32)) dX12_share_63 (by decide) rfl ?_
        refine ay_V3 (pc' := 67) (ce' := 0) (sl' := 0) (mc2 := 0) (ms2 := 0) (I2 := i_X12_bad) dX12_share_64 ml_X12_183 sh_69 (by decide) rfl rfl rfl rfl rfl rfl rfl rfl rfl (ac_M.imp (o_X12_bad _ (1 : Int32) (2 : Int32) (1 : Int32) H) ?_)
        rintro _ _ ⟨r64, s64, rfl, rfl, H⟩
        refine ax_if_eq (pc' := 70) (tgt := 72) dX12_share_67 (by decide) rfl (fun hc67 => ?_) (fun hc67 => ?_)
        · have H := H.1 hc67
          refine ax_iconst (pc' := 73) (v := (0 : Int32)) dX12_share_72 (by decide) rfl ?_
          refine ax_istore (pc' := 75) dX12_share_73 rfl rfl rfl ?_
          refine ol_X12_share_75 d p1 p2 p3  _ _ _    H
        · have H := H.2 hc67
          refine ax_iconst (pc' := 71) (v := (0 : Int32)) dX12_share_70 (by decide) rfl ?_
          exact ax_iret dX12_share_71 rfl rfl rfl ⟨_, _, rfl, rfl, H⟩
      · have H := H.2 hc43
        refine ax_iload_n (pc' := 47) dX12_share_46 rfl rfl ?_
        refine ax_iconst (pc' := 48) (v := (0 : Int32)) dX12_share_47 (by decide) rfl ?_
        refine ax_sipush (pc' := 51) (v := (999 : Int32)) dX12_share_48 (by decide) rfl ?_
        refine ay_S3 (pc' := 54) (ce' := 0) (sl' := 0) (mc2 := 0) (ms2 := 0) (I2 := i_X12_in) dX12_share_51 ml_X12_138 rfl rfl rfl rfl rfl rfl rfl rfl (ac_M.imp (o_X12_in _ p3 (0 : Int32) (999 : Int32) H) ?_)
        rintro _ _ ⟨r51, s51, rfl, rfl, H⟩
        refine ax_if_ne (pc' := 57) (tgt := 61) dX12_share_54 (by decide) rfl (fun hc54 => ?_) (fun hc54 => ?_)
        · have H := H.1 hc54
          refine ax_iconst (pc' := 62) (v := (0 : Int32)) dX12_share_61 (by decide) rfl ?_
          refine ax_iconst (pc' := 63) (v := (2 : Int32)) dX12_share_62 (by decide) rfl ?_
          refine ax_iconst (pc' := 64) (v := (1 : Int32)) dX12_share_63 (by decide) rfl ?_
          refine ay_V3 (pc' := 67) (ce' := 0) (sl' := 0) (mc2 := 0) (ms2 := 0) (I2 := i_X12_bad) dX12_share_64 ml_X12_183 sh_69 (by decide) rfl rfl rfl rfl rfl rfl rfl rfl rfl (ac_M.imp (o_X12_bad _ (0 : Int32) (2 : Int32) (1 : Int32) H) ?_)
          rintro _ _ ⟨r64, s64, rfl, rfl, H⟩
          refine ax_if_eq (pc' := 70) (tgt := 72) dX12_share_67 (by decide) rfl (fun hc67 => ?_) (fun hc67 => ?_)
          · have H := H.1 hc67
            refine ax_iconst (pc' := 73) (v := (0 : Int32)) dX12_share_72 (by decide) rfl ?_
            refine ax_istore (pc' := 75) dX12_share_73 rfl rfl rfl ?_
            refine ol_X12_share_75 d p1 p2 p3  _ _ _    H
          · have H := H.2 hc67
            refine ax_iconst (pc' := 71) (v := (0 : Int32)) dX12_share_70 (by decide) rfl ?_
            exact ax_iret dX12_share_71 rfl rfl rfl ⟨_, _, rfl, rfl, H⟩
        · have H := H.2 hc54
          refine ax_iconst (pc' := 58) (v := (1 : Int32)) dX12_share_57 (by decide) rfl ?_
          refine ax_goto (tgt := 62) dX12_share_58 (by decide) ?_
          refine ax_iconst (pc' := 63) (v := (2 : Int32)) dX12_share_62 (by decide) rfl ?_
          refine ax_iconst (pc' := 64) (v := (1 : Int32)) dX12_share_63 (by decide) rfl ?_
          refine ay_V3 (pc' := 67) (ce' := 0) (sl' := 0) (mc2 := 0) (ms2 := 0) (I2 := i_X12_bad) dX12_share_64 ml_X12_183 sh_69 (by decide) rfl rfl rfl rfl rfl rfl rfl rfl rfl (ac_M.imp (o_X12_bad _ (1 : Int32) (2 : Int32) (1 : Int32) H) ?_)
          rintro _ _ ⟨r64, s64, rfl, rfl, H⟩
          refine ax_if_eq (pc' := 70) (tgt := 72) dX12_share_67 (by decide) rfl (fun hc67 => ?_) (fun hc67 => ?_)
          · have H := H.1 hc67
            refine ax_iconst (pc' := 73) (v := (0 : Int32)) dX12_share_72 (by decide) rfl ?_
            refine ax_istore (pc' := 75) dX12_share_73 rfl rfl rfl ?_
            refine ol_X12_share_75 d p1 p2 p3  _ _ _    H
          · have H := H.2 hc67
            refine ax_iconst (pc' := 71) (v := (0 : Int32)) dX12_share_70 (by decide) rfl ?_
            exact ax_iret dX12_share_71 rfl rfl rfl ⟨_, _, rfl, rfl, H⟩
  · have H := H.2 hc11
    refine ax_iconst (pc' := 15) (v := (1 : Int32)) dX12_share_14 (by decide) rfl ?_
    refine ax_goto (tgt := 19) dX12_share_15 (by decide) ?_
    refine ax_iconst (pc' := 20) (v := (1 : Int32)) dX12_share_19 (by decide) rfl ?_
    refine ax_iconst (pc' := 21) (v := (0 : Int32)) dX12_share_20 (by decide) rfl ?_
    refine ay_V3 (pc' := 24) (ce' := 0) (sl' := 0) (mc2 := 0) (ms2 := 0) (I2 := i_X12_bad) dX12_share_21 ml_X12_183 sh_69 (by decide) rfl rfl rfl rfl rfl rfl rfl rfl rfl (ac_M.imp (o_X12_bad _ (1 : Int32) (1 : Int32) (0 : Int32) H) ?_)
    rintro _ _ ⟨r21, s21, rfl, rfl, H⟩
    refine ax_if_ne (pc' := 27) (tgt := 70) dX12_share_24 (by decide) rfl (fun hc24 => ?_) (fun hc24 => ?_)
    · have H := H.1 hc24
      refine ax_iconst (pc' := 71) (v := (0 : Int32)) dX12_share_70 (by decide) rfl ?_
      exact ax_iret dX12_share_71 rfl rfl rfl ⟨_, _, rfl, rfl, H⟩
    · have H := H.2 hc24
      refine ax_aload_n (pc' := 28) dX12_share_27 rfl rfl ?_
      refine ax_iload_n (pc' := 29) dX12_share_28 rfl rfl ?_
      refine ax_iconst (pc' := 30) (v := (0 : Int32)) dX12_share_29 (by decide) rfl ?_
      refine ax_iconst (pc' := 31) (v := (1 : Int32)) dX12_share_30 (by decide) rfl ?_
      refine ax_aload_n (pc' := 32) dX12_share_31 rfl rfl ?_
      refine ax_getR (pc' := 35) dX12_share_32 fl_X12_23 sh_69 rfl rfl rfl ?_
      refine ax_iconst (pc' := 36) (v := (0 : Int32)) dX12_share_35 (by decide) rfl ?_
      refine ax_iald (pc' := 37) dX12_share_36 sh_73 (ac_in (by decide)) rfl rfl ?_
      refine ax_ishl (pc' := 38) dX12_share_37 rfl ?_
      refine ax_iconst (pc' := 39) (v := (1 : Int32)) dX12_share_38 (by decide) rfl ?_
      refine ax_isub (pc' := 40) dX12_share_39 rfl ?_
      refine ay_S3 (pc' := 43) (ce' := 0) (sl' := 0) (mc2 := 0) (ms2 := 0) (I2 := i_X12_in) dX12_share_40 ml_X12_138 rfl rfl rfl rfl rfl rfl rfl rfl (ac_M.imp (o_X12_in _ p2 (0 : Int32) (((1 : Int32) <<< ((s21 73 (0 : Int32).toNatClampNeg) &&& 31)) - (1 : Int32)) H) ?_)
      rintro _ _ ⟨r40, s40, rfl, rfl, H⟩
      refine ax_if_eq (pc' := 46) (tgt := 57) dX12_share_43 (by decide) rfl (fun hc43 => ?_) (fun hc43 => ?_)
      · have H := H.1 hc43
        refine ax_iconst (pc' := 58) (v := (1 : Int32)) dX12_share_57 (by decide) rfl ?_
        refine ax_goto (tgt := 62) dX12_share_58 (by decide) ?_
        refine ax_iconst (pc' := 63) (v := (2 : Int32)) dX12_share_62 (by decide) rfl ?_
        refine ax_iconst (pc' := 64) (v := (1 : Int32)) dX12_share_63 (by decide) rfl ?_
        refine ay_V3 (pc' := 67) (ce' := 0) (sl' := 0) (mc2 := 0) (ms2 := 0) (I2 := i_X12_bad) dX12_share_64 ml_X12_183 sh_69 (by decide) rfl rfl rfl rfl rfl rfl rfl rfl rfl (ac_M.imp (o_X12_bad _ (1 : Int32) (2 : Int32) (1 : Int32) H) ?_)
        rintro _ _ ⟨r64, s64, rfl, rfl, H⟩
        refine ax_if_eq (pc' := 70) (tgt := 72) dX12_share_67 (by decide) rfl (fun hc67 => ?_) (fun hc67 => ?_)
        · have H := H.1 hc67
          refine ax_iconst (pc' := 73) (v := (0 : Int32)) dX12_share_72 (by decide) rfl ?_
          refine ax_istore (pc' := 75) dX12_share_73 rfl rfl rfl ?_
          refine ol_X12_share_75 d p1 p2 p3  _ _ _    H
        · have H := H.2 hc67
          refine ax_iconst (pc' := 71) (v := (0 : Int32)) dX12_share_70 (by decide) rfl ?_
          exact ax_iret dX12_share_71 rfl rfl rfl ⟨_, _, rfl, rfl, H⟩
      · have H := H.2 hc43
        refine ax_iload_n (pc' := 47) dX12_share_46 rfl rfl ?_
        refine ax_iconst (pc' := 48) (v := (0 : Int32)) dX12_share_47 (by decide) rfl ?_
        refine ax_sipush (pc' := 51) (v := (999 : Int32)) dX12_share_48 (by decide) rfl ?_
        refine ay_S3 (pc' := 54) (ce' := 0) (sl' := 0) (mc2 := 0) (ms2 := 0) (I2 := i_X12_in) dX12_share_51 ml_X12_138 rfl rfl rfl rfl rfl rfl rfl rfl (ac_M.imp (o_X12_in _ p3 (0 : Int32) (999 : Int32) H) ?_)
        rintro _ _ ⟨r51, s51, rfl, rfl, H⟩
        refine ax_if_ne (pc' := 57) (tgt := 61) dX12_share_54 (by decide) rfl (fun hc54 => ?_) (fun hc54 => ?_)
        · have H := H.1 hc54
          refine ax_iconst (pc' := 62) (v := (0 : Int32)) dX12_share_61 (by decide) rfl ?_
          refine ax_iconst (pc' := 63) (v := (2 : Int32)) dX12_share_62 (by decide) rfl ?_
          refine ax_iconst (pc' := 64) (v := (1 : Int32)) dX12_share_63 (by decide) rfl ?_
          refine ay_V3 (pc' := 67) (ce' := 0) (sl' := 0) (mc2 := 0) (ms2 := 0) (I2 := i_X12_bad) dX12_share_64 ml_X12_183 sh_69 (by decide) rfl rfl rfl rfl rfl rfl rfl rfl rfl (ac_M.imp (o_X12_bad _ (0 : Int32) (2 : Int32) (1 : Int32) H) ?_)
          rintro _ _ ⟨r64, s64, rfl, rfl, H⟩
          refine ax_if_eq (pc' := 70) (tgt := 72) dX12_share_67 (by decide) rfl (fun hc67 => ?_) (fun hc67 => ?_)
          · have H := H.1 hc67
            refine ax_iconst (pc' := 73) (v := (0 : Int32)) dX12_share_72 (by decide) rfl ?_
            refine ax_istore (pc' := 75) dX12_share_73 rfl rfl rfl ?_
            refine ol_X12_share_75 d p1 p2 p3  _ _ _    H
          · have H := H.2 hc67
            refine ax_iconst (pc' := 71) (v := (0 : Int32)) dX12_share_70 (by decide) rfl ?_
            exact ax_iret dX12_share_71 rfl rfl rfl ⟨_, _, rfl, rfl, H⟩
        · have H := H.2 hc54
          refine ax_iconst (pc' := 58) (v := (1 : Int32)) dX12_share_57 (by decide) rfl ?_
          refine ax_goto (tgt := 62) dX12_share_58 (by decide) ?_
          refine ax_iconst (pc' := 63) (v := (2 : Int32)) dX12_share_62 (by decide) rfl ?_
          refine ax_iconst (pc' := 64) (v := (1 : Int32)) dX12_share_63 (by decide) rfl ?_
          refine ay_V3 (pc' := 67) (ce' := 0) (sl' := 0) (mc2 := 0) (ms2 := 0) (I2 := i_X12_bad) dX12_share_64 ml_X12_183 sh_69 (by decide) rfl rfl rfl rfl rfl rfl rfl rfl rfl (ac_M.imp (o_X12_bad _ (1 : Int32) (2 : Int32) (1 : Int32) H) ?_)
          rintro _ _ ⟨r64, s64, rfl, rfl, H⟩
          refine ax_if_eq (pc' := 70) (tgt := 72) dX12_share_67 (by decide) rfl (fun hc67 => ?_) (fun hc67 => ?_)
          · have H := H.1 hc67
            refine ax_iconst (pc' := 73) (v := (0 : Int32)) dX12_share_72 (by decide) rfl ?_
            refine ax_istore (pc' := 75) dX12_share_73 rfl rfl rfl ?_
            refine ol_X12_share_75 d p1 p2 p3  _ _ _    H
          · have H := H.2 hc67
            refine ax_iconst (pc' := 71) (v := (0 : Int32)) dX12_share_70 (by decide) rfl ?_
            exact ax_iret dX12_share_71 rfl rfl rfl ⟨_, _, rfl, rfl, H⟩
theorem ol_X12_topOf_4 {g : ac_G} {τ : Nat → Nat → Int64} (d : Nat) (p1 : Int32) {Q : Int32 → ac_m → Prop}  (f1 : Int32)  {x2 : Int32} {x3 : Int32} {s : ac_m} (H : l_X12_topOf_4 p1 Q  f1  x2 x3 s) : ac_X g i_X12_topOf (d + 1) 0 0 (liI τ Q) 0 0 4 [some (.ref 69), some (.int f1), some (.int x2), some (.int x3)] [] (false, 586, SH, s, τ) := by
  refine H (fun x2 x3 s => ac_X g i_X12_topOf (d + 1) 0 0 (liI τ Q) 0 0 4 [some (.ref 69), some (.int f1), some (.int x2), some (.int x3)] [] (false, 586, SH, s, τ)) ?_
  intro x2 x3 s H
  refine ax_iload_n (pc' := 5) dX12_topOf_4 rfl rfl ?_
  refine ax_aload_n (pc' := 6) dX12_topOf_5 rfl rfl ?_
  refine ax_getR (pc' := 9) dX12_topOf_6 fl_X12_23 sh_69 rfl rfl rfl ?_
  refine ax_iconst (pc' := 10) (v := (1 : Int32)) dX12_topOf_9 (by decide) rfl ?_
  refine ax_iald (pc' := 11) dX12_topOf_10 sh_73 (ac_in (by decide)) rfl rfl ?_
  refine ax_icmp_ge (pc' := 14) (tgt := 61) dX12_topOf_11 (by decide) rfl (fun hc11 => ?_) (fun hc11 => ?_)
  · have H := H.1 hc11
    refine ax_iload_n (pc' := 62) dX12_topOf_61 rfl rfl ?_
    exact ax_iret dX12_topOf_62 rfl rfl rfl ⟨_, _, rfl, rfl, H⟩
  · have H := H.2 hc11
    refine ax_aload_n (pc' := 15) dX12_topOf_14 rfl rfl ?_
    refine ax_getR (pc' := 18) dX12_topOf_15 fl_X12_67 sh_69 rfl rfl rfl ?_
    refine ax_iload_n (pc' := 19) dX12_topOf_18 rfl rfl ?_
    refine ay_S2 (pc' := 22) (ce' := 0) (sl' := 0) (mc2 := 0) (ms2 := 0) (I2 := i_X12_isThere) dX12_topOf_19 ml_X12_273 rfl rfl rfl rfl rfl rfl rfl rfl (ac_M.imp (o_X12_isThere _ 556 x3 sh_556 rfl H) ?_)
    rintro _ _ ⟨r19, s19, rfl, rfl, H⟩
    refine ax_if_eq (pc' := 25) (tgt := 53) dX12_topOf_22 (by decide) rfl (fun hc22 => ?_) (fun hc22 => ?_)
    · have H := H.1 hc22
      refine ax_iload_n (pc' := 54) dX12_topOf_53 rfl rfl ?_
      refine ax_istore_n (pc' := 55) dX12_topOf_54 rfl rfl rfl ?_
      refine ax_iinc (pc' := 58) (v := (x3 + (1 : Int32))) dX12_topOf_55 rfl rfl rfl rfl rfl ?_
      refine ax_goto (tgt := 4) dX12_topOf_58 (by decide) ?_
      exact H
    · have H := H.2 hc22
      refine ax_iload_n (pc' := 26) dX12_topOf_25 rfl rfl ?_
      refine ax_iconst (pc' := 27) (v := (-1 : Int32)) dX12_topOf_26 (by decide) rfl ?_
      refine ax_icmp_eq (pc' := 30) (tgt := 49) dX12_topOf_27 (by decide) rfl (fun hc27 => ?_) (fun hc27 => ?_)
      · have H := H.1 hc27
        refine ax_iload_n (pc' := 50) dX12_topOf_49 rfl rfl ?_
        refine ax_goto (tgt := 54) dX12_topOf_50 (by decide) ?_
        refine ax_istore_n (pc' := 55) dX12_topOf_54 rfl rfl rfl ?_
        refine ax_iinc (pc' := 58) (v := (x3 + (1 : Int32))) dX12_topOf_55 rfl rfl rfl rfl rfl ?_
        refine ax_goto (tgt := 4) dX12_topOf_58 (by decide) ?_
        exact H
      · have H := H.2 hc27
        refine ax_aload_n (pc' := 31) dX12_topOf_30 rfl rfl ?_
        refine ax_getR (pc' := 34) dX12_topOf_31 fl_X12_67 sh_69 rfl rfl rfl ?_
        refine ax_iload_n (pc' := 35) dX12_topOf_34 rfl rfl ?_
        refine ax_iload_n (pc' := 36) dX12_topOf_35 rfl rfl ?_
        refine ax_iadd (pc' := 37) dX12_topOf_36 rfl ?_
        obtain ⟨hj37, H⟩ := H
        refine ax_iald (pc' := 38) dX12_topOf_37 sh_556 hj37 rfl rfl ?_
        refine ax_aload_n (pc' := 39) dX12_topOf_38 rfl rfl ?_
        refine ax_getR (pc' := 42) dX12_topOf_39 fl_X12_67 sh_69 rfl rfl rfl ?_
        refine ax_iload_n (pc' := 43) dX12_topOf_42 rfl rfl ?_
        refine ax_iload_n (pc' := 44) dX12_topOf_43 rfl rfl ?_
        refine ax_iadd (pc' := 45) dX12_topOf_44 rfl ?_
        obtain ⟨hj45, H⟩ := H
        refine ax_iald (pc' := 46) dX12_topOf_45 sh_556 hj45 rfl rfl ?_
        refine ax_icmp_le (pc' := 49) (tgt := 53) dX12_topOf_46 (by decide) rfl (fun hc46 => ?_) (fun hc46 => ?_)
        · have H := H.1 hc46
          refine ax_iload_n (pc' := 54) dX12_topOf_53 rfl rfl ?_
          refine ax_istore_n (pc' := 55) dX12_topOf_54 rfl rfl rfl ?_
          refine ax_iinc (pc' := 58) (v := (x3 + (1 : Int32))) dX12_topOf_55 rfl rfl rfl rfl rfl ?_
          refine ax_goto (tgt := 4) dX12_topOf_58 (by decide) ?_
          exact H
        · have H := H.2 hc46
          refine ax_iload_n (pc' := 50) dX12_topOf_49 rfl rfl ?_
          refine ax_goto (tgt := 54) dX12_topOf_50 (by decide) ?_
          refine ax_istore_n (pc' := 55) dX12_topOf_54 rfl rfl rfl ?_
          refine ax_iinc (pc' := 58) (v := (x3 + (1 : Int32))) dX12_topOf_55 rfl rfl rfl rfl rfl ?_
          refine ax_goto (tgt := 4) dX12_topOf_58 (by decide) ?_
          exact H
theorem o_X12_topOf {g : ac_G} {τ : Nat → Nat → Int64} (d : Nat) (p1 : Int32) {Q : Int32 → ac_m → Prop} {s : ac_m} (H : w_X12_topOf p1 Q s) : ac_M g i_X12_topOf (d + 1) 0 0 [.ref 69, .int p1] (false, 586, SH, s, τ) (liI τ Q) := by
  refine ac_ofX (by decide +kernel) rfl rfl rfl ?_
  refine ax_iconst (pc' := 1) (v := (-1 : Int32)) dX12_topOf_0 (by decide) rfl ?_
  refine ax_istore_n (pc' := 2) dX12_topOf_1 rfl rfl rfl ?_
  refine ax_iconst (pc' := 3) (v := (0 : Int32)) dX12_topOf_2 (by decide) rfl ?_
  refine ax_istore_n (pc' := 4) dX12_topOf_3 rfl rfl rfl ?_
  refine ol_X12_topOf_4 d p1  _    H
theorem o_X12_heaviestOr {g : ac_G} {τ : Nat → Nat → Int64} (d : Nat) (p1 : Int32) (p2 : Int32) {Q : Int32 → ac_m → Prop} {s : ac_m} (H : w_X12_heaviestOr p1 p2 Q s) : ac_M g i_X12_heaviestOr (d + 2) 0 0 [.ref 69, .int p1, .int p2] (false, 586, SH, s, τ) (liI τ Q) := by
  refine ac_ofX (by decide +kernel) rfl rfl rfl ?_
  refine ax_aload_n (pc' := 1) dX12_heaviestOr_0 rfl rfl ?_
  refine ax_iconst (pc' := 2) (v := (0 : Int32)) dX12_heaviestOr_1 (by decide) rfl ?_
  refine ax_putI (pc' := 5) dX12_heaviestOr_2 fp_X12_104 sh_69 rfl rfl rfl ?_
  refine ax_aload_n (pc' := 6) dX12_heaviestOr_5 rfl rfl ?_
  refine ax_iload_n (pc' := 7) dX12_heaviestOr_6 rfl rfl ?_
  refine ax_iconst (pc' := 8) (v := (0 : Int32)) dX12_heaviestOr_7 (by decide) rfl ?_
  refine ax_iconst (pc' := 9) (v := (1 : Int32)) dX12_heaviestOr_8 (by decide) rfl ?_
  refine ay_S3 (pc' := 12) (ce' := 0) (sl' := 0) (mc2 := 0) (ms2 := 0) (I2 := i_X12_in) dX12_heaviestOr_9 ml_X12_138 rfl rfl rfl rfl rfl rfl rfl rfl (ac_M.imp (o_X12_in _ p1 (0 : Int32) (1 : Int32) H) ?_)
  rintro _ _ ⟨r9, s9, rfl, rfl, H⟩
  refine ax_if_ne (pc' := 15) (tgt := 19) dX12_heaviestOr_12 (by decide) rfl (fun hc12 => ?_) (fun hc12 => ?_)
  · have H := H.1 hc12
    refine ax_iconst (pc' := 20) (v := (0 : Int32)) dX12_heaviestOr_19 (by decide) rfl ?_
    refine ax_iconst (pc' := 21) (v := (1 : Int32)) dX12_heaviestOr_20 (by decide) rfl ?_
    refine ax_iconst (pc' := 22) (v := (1 : Int32)) dX12_heaviestOr_21 (by decide) rfl ?_
    refine ay_V3 (pc' := 25) (ce' := 0) (sl' := 0) (mc2 := 0) (ms2 := 0) (I2 := i_X12_bad) dX12_heaviestOr_22 ml_X12_183 sh_69 (by decide) rfl rfl rfl rfl rfl rfl rfl rfl rfl (ac_M.imp (o_X12_bad _ (0 : Int32) (1 : Int32) (1 : Int32) H) ?_)
    rintro _ _ ⟨r22, s22, rfl, rfl, H⟩
    refine ax_if_eq (pc' := 28) (tgt := 30) dX12_heaviestOr_25 (by decide) rfl (fun hc25 => ?_) (fun hc25 => ?_)
    · have H := H.1 hc25
      refine ax_aload_n (pc' := 31) dX12_heaviestOr_30 rfl rfl ?_
      refine ax_iload_n (pc' := 32) dX12_heaviestOr_31 rfl rfl ?_
      refine ay_V1 (pc' := 35) (ce' := 0) (sl' := 0) (mc2 := 0) (ms2 := 0) (I2 := i_X12_topOf) dX12_heaviestOr_32 ml_X12_398 sh_69 (by decide) rfl rfl rfl rfl rfl rfl rfl rfl rfl (ac_M.imp (o_X12_topOf _ p2 H) ?_)
      rintro _ _ ⟨r32, s32, rfl, rfl, H⟩
      refine ax_istore_n (pc' := 36) dX12_heaviestOr_35 rfl rfl rfl ?_
      refine ax_iload_n (pc' := 37) dX12_heaviestOr_36 rfl rfl ?_
      refine ax_if_eq (pc' := 40) (tgt := 45) dX12_heaviestOr_37 (by decide) rfl (fun hc37 => ?_) (fun hc37 => ?_)
      · have H := H.1 hc37
        refine ax_iload_n (pc' := 46) dX12_heaviestOr_45 rfl rfl ?_
        refine ax_goto (tgt := 57) dX12_heaviestOr_46 (by decide) ?_
        exact ax_iret dX12_heaviestOr_57 rfl rfl rfl ⟨_, _, rfl, rfl, H⟩
      · have H := H.2 hc37
        refine ax_iload_n (pc' := 41) dX12_heaviestOr_40 rfl rfl ?_
        refine ax_iconst (pc' := 42) (v := (-1 : Int32)) dX12_heaviestOr_41 (by decide) rfl ?_
        refine ax_icmp_ne (pc' := 45) (tgt := 49) dX12_heaviestOr_42 (by decide) rfl (fun hc42 => ?_) (fun hc42 => ?_)
        · have H := H.1 hc42
          refine ax_aload_n (pc' := 50) dX12_heaviestOr_49 rfl rfl ?_
          refine ax_getR (pc' := 53) dX12_heaviestOr_50 fl_X12_67 sh_69 rfl rfl rfl ?_
          refine ax_iload_n (pc' := 54) dX12_heaviestOr_53 rfl rfl ?_
          refine ax_iload_n (pc' := 55) dX12_heaviestOr_54 rfl rfl ?_
          refine ax_iadd (pc' := 56) dX12_heaviestOr_55 rfl ?_
          obtain ⟨hj56, H⟩ := H
          refine ax_iald (pc' := 57) dX12_heaviestOr_56 sh_556 hj56 rfl rfl ?_
          exact ax_iret dX12_heaviestOr_57 rfl rfl rfl ⟨_, _, rfl, rfl, H⟩
        · have H := H.2 hc42
          refine ax_iload_n (pc' := 46) dX12_heaviestOr_45 rfl rfl ?_
          refine ax_goto (tgt := 57) dX12_heaviestOr_46 (by decide) ?_
          exact ax_iret dX12_heaviestOr_57 rfl rfl rfl ⟨_, _, rfl, rfl, H⟩
    · have H := H.2 hc25
      refine ax_iconst (pc' := 29) (v := (0 : Int32)) dX12_heaviestOr_28 (by decide) rfl ?_
      exact ax_iret dX12_heaviestOr_29 rfl rfl rfl ⟨_, _, rfl, rfl, H⟩
  · have H := H.2 hc12
    refine ax_iconst (pc' := 16) (v := (1 : Int32)) dX12_heaviestOr_15 (by decide) rfl ?_
    refine ax_goto (tgt := 20) dX12_heaviestOr_16 (by decide) ?_
    refine ax_iconst (pc' := 21) (v := (1 : Int32)) dX12_heaviestOr_20 (by decide) rfl ?_
    refine ax_iconst (pc' := 22) (v := (1 : Int32)) dX12_heaviestOr_21 (by decide) rfl ?_
    refine ay_V3 (pc' := 25) (ce' := 0) (sl' := 0) (mc2 := 0) (ms2 := 0) (I2 := i_X12_bad) dX12_heaviestOr_22 ml_X12_183 sh_69 (by decide) rfl rfl rfl rfl rfl rfl rfl rfl rfl (ac_M.imp (o_X12_bad _ (1 : Int32) (1 : Int32) (1 : Int32) H) ?_)
    rintro _ _ ⟨r22, s22, rfl, rfl, H⟩
    refine ax_if_eq (pc' := 28) (tgt := 30) dX12_heaviestOr_25 (by decide) rfl (fun hc25 => ?_) (fun hc25 => ?_)
    · have H := H.1 hc25
      refine ax_aload_n (pc' := 31) dX12_heaviestOr_30 rfl rfl ?_
      refine ax_iload_n (pc' := 32) dX12_heaviestOr_31 rfl rfl ?_
      refine ay_V1 (pc' := 35) (ce' := 0) (sl' := 0) (mc2 := 0) (ms2 := 0) (I2 := i_X12_topOf) dX12_heaviestOr_32 ml_X12_398 sh_69 (by decide) rfl rfl rfl rfl rfl rfl rfl rfl rfl (ac_M.imp (o_X12_topOf _ p2 H) ?_)
      rintro _ _ ⟨r32, s32, rfl, rfl, H⟩
      refine ax_istore_n (pc' := 36) dX12_heaviestOr_35 rfl rfl rfl ?_
      refine ax_iload_n (pc' := 37) dX12_heaviestOr_36 rfl rfl ?_
      refine ax_if_eq (pc' := 40) (tgt := 45) dX12_heaviestOr_37 (by decide) rfl (fun hc37 => ?_) (fun hc37 => ?_)
      · have H := H.1 hc37
        refine ax_iload_n (pc' := 46) dX12_heaviestOr_45 rfl rfl ?_
        refine ax_goto (tgt := 57) dX12_heaviestOr_46 (by decide) ?_
        exact ax_iret dX12_heaviestOr_57 rfl rfl rfl ⟨_, _, rfl, rfl, H⟩
      · have H := H.2 hc37
        refine ax_iload_n (pc' := 41) dX12_heaviestOr_40 rfl rfl ?_
        refine ax_iconst (pc' := 42) (v := (-1 : Int32)) dX12_heaviestOr_41 (by decide) rfl ?_
        refine ax_icmp_ne (pc' := 45) (tgt := 49) dX12_heaviestOr_42 (by decide) rfl (fun hc42 => ?_) (fun hc42 => ?_)
        · have H := H.1 hc42
          refine ax_aload_n (pc' := 50) dX12_heaviestOr_49 rfl rfl ?_
          refine ax_getR (pc' := 53) dX12_heaviestOr_50 fl_X12_67 sh_69 rfl rfl rfl ?_
          refine ax_iload_n (pc' := 54) dX12_heaviestOr_53 rfl rfl ?_
          refine ax_iload_n (pc' := 55) dX12_heaviestOr_54 rfl rfl ?_
          refine ax_iadd (pc' := 56) dX12_heaviestOr_55 rfl ?_
          obtain ⟨hj56, H⟩ := H
          refine ax_iald (pc' := 57) dX12_heaviestOr_56 sh_556 hj56 rfl rfl ?_
          exact ax_iret dX12_heaviestOr_57 rfl rfl rfl ⟨_, _, rfl, rfl, H⟩
        · have H := H.2 hc42
          refine ax_iload_n (pc' := 46) dX12_heaviestOr_45 rfl rfl ?_
          refine ax_goto (tgt := 57) dX12_heaviestOr_46 (by decide) ?_
          exact ax_iret dX12_heaviestOr_57 rfl rfl rfl ⟨_, _, rfl, rfl, H⟩
    · have H := H.2 hc25
      refine ax_iconst (pc' := 29) (v := (0 : Int32)) dX12_heaviestOr_28 (by decide) rfl ?_
      exact ax_iret dX12_heaviestOr_29 rfl rfl rfl ⟨_, _, rfl, rfl, H⟩
theorem o_X12_heaviest {g : ac_G} {τ : Nat → Nat → Int64} (d : Nat) (p1 : Int32) {Q : Int32 → ac_m → Prop} {s : ac_m} (H : w_X12_heaviest p1 Q s) : ac_M g i_X12_heaviest (d + 3) 0 0 [.ref 69, .int p1] (false, 586, SH, s, τ) (liI τ Q) := by
  refine ac_ofX (by decide +kernel) rfl rfl rfl ?_
  refine ax_aload_n (pc' := 1) dX12_heaviest_0 rfl rfl ?_
  refine ax_iload_n (pc' := 2) dX12_heaviest_1 rfl rfl ?_
  refine ax_iconst (pc' := 3) (v := (0 : Int32)) dX12_heaviest_2 (by decide) rfl ?_
  refine ay_V2 (pc' := 6) (ce' := 0) (sl' := 0) (mc2 := 0) (ms2 := 0) (I2 := i_X12_heaviestOr) dX12_heaviest_3 ml_X12_401 sh_69 (by decide) rfl rfl rfl rfl rfl rfl rfl rfl rfl (ac_M.imp (o_X12_heaviestOr _ p1 (0 : Int32) H) ?_)
  rintro _ _ ⟨r3, s3, rfl, rfl, H⟩
  exact ax_iret dX12_heaviest_6 rfl rfl rfl ⟨_, _, rfl, rfl, H⟩
theorem o_X12_oldest {g : ac_G} {τ : Nat → Nat → Int64} (d : Nat) (p1 : Int32) {Q : Int32 → ac_m → Prop} {s : ac_m} (H : w_X12_oldest p1 Q s) : ac_M g i_X12_oldest (d + 3) 0 0 [.ref 69, .int p1] (false, 586, SH, s, τ) (liI τ Q) := by
  refine ac_ofX (by decide +kernel) rfl rfl rfl ?_
  refine ax_aload_n (pc' := 1) dX12_oldest_0 rfl rfl ?_
  refine ax_iload_n (pc' := 2) dX12_oldest_1 rfl rfl ?_
  refine ax_bipush (pc' := 4) (v := (13 : Int32)) dX12_oldest_2 (by decide) rfl ?_
  refine ay_V2 (pc' := 7) (ce' := 0) (sl' := 0) (mc2 := 0) (ms2 := 0) (I2 := i_X12_heaviestOr) dX12_oldest_4 ml_X12_401 sh_69 (by decide) rfl rfl rfl rfl rfl rfl rfl rfl rfl (ac_M.imp (o_X12_heaviestOr _ p1 (13 : Int32) H) ?_)
  rintro _ _ ⟨r4, s4, rfl, rfl, H⟩
  exact ax_iret dX12_oldest_7 rfl rfl rfl ⟨_, _, rfl, rfl, H⟩
theorem o_X12_weighs {g : ac_G} {τ : Nat → Nat → Int64} (d : Nat) (p1 : Int32) (p2 : Int32) {Q : Int32 → ac_m → Prop} {s : ac_m} (H : w_X12_weighs p1 p2 Q s) : ac_M g i_X12_weighs (d + 2) 0 0 [.ref 69, .int p1, .int p2] (false, 586, SH, s, τ) (liI τ Q) := by
  refine ac_ofX (by decide +kernel) rfl rfl rfl ?_
  refine ax_aload_n (pc' := 1) dX12_weighs_0 rfl rfl ?_
  refine ax_iconst (pc' := 2) (v := (0 : Int32)) dX12_weighs_1 (by decide) rfl ?_
  refine ax_putI (pc' := 5) dX12_weighs_2 fp_X12_104 sh_69 rfl rfl rfl ?_
  refine ax_aload_n (pc' := 6) dX12_weighs_5 rfl rfl ?_
  refine ax_aload_n (pc' := 7) dX12_weighs_6 rfl rfl ?_
  refine ax_iload_n (pc' := 8) dX12_weighs_7 rfl rfl ?_
  refine ay_V1 (pc' := 11) (ce' := 0) (sl' := 0) (mc2 := 0) (ms2 := 0) (I2 := i_X12_isFolk) dX12_weighs_8 ml_X12_348 sh_69 (by decide) rfl rfl rfl rfl rfl rfl rfl rfl rfl (ac_M.imp (o_X12_isFolk _ p1 H) ?_)
  rintro _ _ ⟨r8, s8, rfl, rfl, H⟩
  refine ax_if_ne (pc' := 14) (tgt := 18) dX12_weighs_11 (by decide) rfl (fun hc11 => ?_) (fun hc11 => ?_)
  · have H := H.1 hc11
    refine ax_iconst (pc' := 19) (v := (0 : Int32)) dX12_weighs_18 (by decide) rfl ?_
    refine ax_iconst (pc' := 20) (v := (1 : Int32)) dX12_weighs_19 (by decide) rfl ?_
    refine ax_iconst (pc' := 21) (v := (0 : Int32)) dX12_weighs_20 (by decide) rfl ?_
    refine ay_V3 (pc' := 24) (ce' := 0) (sl' := 0) (mc2 := 0) (ms2 := 0) (I2 := i_X12_bad) dX12_weighs_21 ml_X12_183 sh_69 (by decide) rfl rfl rfl rfl rfl rfl rfl rfl rfl (ac_M.imp (o_X12_bad _ (0 : Int32) (1 : Int32) (0 : Int32) H) ?_)
    rintro _ _ ⟨r21, s21, rfl, rfl, H⟩
    refine ax_if_ne (pc' := 27) (tgt := 50) dX12_weighs_24 (by decide) rfl (fun hc24 => ?_) (fun hc24 => ?_)
    · have H := H.1 hc24
      refine ax_iconst (pc' := 51) (v := (0 : Int32)) dX12_weighs_50 (by decide) rfl ?_
      exact ax_iret dX12_weighs_51 rfl rfl rfl ⟨_, _, rfl, rfl, H⟩
    · have H := H.2 hc24
      refine ax_aload_n (pc' := 28) dX12_weighs_27 rfl rfl ?_
      refine ax_iload_n (pc' := 29) dX12_weighs_28 rfl rfl ?_
      refine ax_iconst (pc' := 30) (v := (0 : Int32)) dX12_weighs_29 (by decide) rfl ?_
      refine ax_iconst (pc' := 31) (v := (1 : Int32)) dX12_weighs_30 (by decide) rfl ?_
      refine ay_S3 (pc' := 34) (ce' := 0) (sl' := 0) (mc2 := 0) (ms2 := 0) (I2 := i_X12_in) dX12_weighs_31 ml_X12_138 rfl rfl rfl rfl rfl rfl rfl rfl (ac_M.imp (o_X12_in _ p2 (0 : Int32) (1 : Int32) H) ?_)
      rintro _ _ ⟨r31, s31, rfl, rfl, H⟩
      refine ax_if_ne (pc' := 37) (tgt := 41) dX12_weighs_34 (by decide) rfl (fun hc34 => ?_) (fun hc34 => ?_)
      · have H := H.1 hc34
        refine ax_iconst (pc' := 42) (v := (0 : Int32)) dX12_weighs_41 (by decide) rfl ?_
        refine ax_iconst (pc' := 43) (v := (2 : Int32)) dX12_weighs_42 (by decide) rfl ?_
        refine ax_iconst (pc' := 44) (v := (1 : Int32)) dX12_weighs_43 (by decide) rfl ?_
        refine ay_V3 (pc' := 47) (ce' := 0) (sl' := 0) (mc2 := 0) (ms2 := 0) (I2 := i_X12_bad) dX12_weighs_44 ml_X12_183 sh_69 (by decide) rfl rfl rfl rfl rfl rfl rfl rfl rfl (ac_M.imp (o_X12_bad _ (0 : Int32) (2 : Int32) (1 : Int32) H) ?_)
        rintro _ _ ⟨r44, s44, rfl, rfl, H⟩
        refine ax_if_eq (pc' := 50) (tgt := 52) dX12_weighs_47 (by decide) rfl (fun hc47 => ?_) (fun hc47 => ?_)
        · have H := H.1 hc47
          refine ax_aload_n (pc' := 53) dX12_weighs_52 rfl rfl ?_
          refine ax_aload_n (pc' := 54) dX12_weighs_53 rfl rfl ?_
          refine ax_iload_n (pc' := 55) dX12_weighs_54 rfl rfl ?_
          refine ax_iload_n (pc' := 56) dX12_weighs_55 rfl rfl ?_
          refine ay_V2 (pc' := 59) (ce' := 0) (sl' := 0) (mc2 := 0) (ms2 := 0) (I2 := i_X12_sideOf) dX12_weighs_56 ml_X12_351 sh_69 (by decide) rfl rfl rfl rfl rfl rfl rfl rfl rfl (ac_M.imp (o_X12_sideOf _ p1 p2 H) ?_)
          rintro _ _ ⟨r56, s56, rfl, rfl, H⟩
          refine ay_V1 (pc' := 62) (ce' := 0) (sl' := 0) (mc2 := 0) (ms2 := 0) (I2 := i_X12_heavy) dX12_weighs_59 ml_X12_369 sh_69 (by decide) rfl rfl rfl rfl rfl rfl rfl rfl rfl (ac_M.imp (o_X12_heavy _ r56 H) ?_)
          rintro _ _ ⟨r59, s59, rfl, rfl, H⟩
          exact ax_iret dX12_weighs_62 rfl rfl rfl ⟨_, _, rfl, rfl, H⟩
        · have H := H.2 hc47
          refine ax_iconst (pc' := 51) (v := (0 : Int32)) dX12_weighs_50 (by decide) rfl ?_
          exact ax_iret dX12_weighs_51 rfl rfl rfl ⟨_, _, rfl, rfl, H⟩
      · have H := H.2 hc34
        refine ax_iconst (pc' := 38) (v := (1 : Int32)) dX12_weighs_37 (by decide) rfl ?_
        refine ax_goto (tgt := 42) dX12_weighs_38 (by decide) ?_
        refine ax_iconst (pc' := 43) (v := (2 : Int32)) dX12_weighs_42 (by decide) rfl ?_
        refine ax_iconst (pc' := 44) (v := (1 : Int32)) dX12_weighs_43 (by decide) rfl ?_
        refine ay_V3 (pc' := 47) (ce' := 0) (sl' := 0) (mc2 := 0) (ms2 := 0) (I2 := i_X12_bad) dX12_weighs_44 ml_X12_183 sh_69 (by decide) rfl rfl rfl rfl rfl rfl rfl rfl rfl (ac_M.imp (o_X12_bad _ (1 : Int32) (2 : Int32) (1 : Int32) H) ?_)
        rintro _ _ ⟨r44, s44, rfl, rfl, H⟩
        refine ax_if_eq (pc' := 50) (tgt := 52) dX12_weighs_47 (by decide) rfl (fun hc47 => ?_) (fun hc47 => ?_)
        · have H := H.1 hc47
          refine ax_aload_n (pc' := 53) dX12_weighs_52 rfl rfl ?_
          refine ax_aload_n (pc' := 54) dX12_weighs_53 rfl rfl ?_
          refine ax_iload_n (pc' := 55) dX12_weighs_54 rfl rfl ?_
          refine ax_iload_n (pc' := 56) dX12_weighs_55 rfl rfl ?_
          refine ay_V2 (pc' := 59) (ce' := 0) (sl' := 0) (mc2 := 0) (ms2 := 0) (I2 := i_X12_sideOf) dX12_weighs_56 ml_X12_351 sh_69 (by decide) rfl rfl rfl rfl rfl rfl rfl rfl rfl (ac_M.imp (o_X12_sideOf _ p1 p2 H) ?_)
          rintro _ _ ⟨r56, s56, rfl, rfl, H⟩
          refine ay_V1 (pc' := 62) (ce' := 0) (sl' := 0) (mc2 := 0) (ms2 := 0) (I2 := i_X12_heavy) dX12_weighs_59 ml_X12_369 sh_69 (by decide) rfl rfl rfl rfl rfl rfl rfl rfl rfl (ac_M.imp (o_X12_heavy _ r56 H) ?_)
          rintro _ _ ⟨r59, s59, rfl, rfl, H⟩
          exact ax_iret dX12_weighs_62 rfl rfl rfl ⟨_, _, rfl, rfl, H⟩
        · have H := H.2 hc47
          refine ax_iconst (pc' := 51) (v := (0 : Int32)) dX12_weighs_50 (by decide) rfl ?_
          exact ax_iret dX12_weighs_51 rfl rfl rfl ⟨_, _, rfl, rfl, H⟩
  · have H := H.2 hc11
    refine ax_iconst (pc' := 15) (v := (1 : Int32)) dX12_weighs_14 (by decide) rfl ?_
    refine ax_goto (tgt := 19) dX12_weighs_15 (by decide) ?_
    refine ax_iconst (pc' := 20) (v := (1 : Int32)) dX12_weighs_19 (by decide) rfl ?_
    refine ax_iconst (pc' := 21) (v := (0 : Int32)) dX12_weighs_20 (by decide) rfl ?_
    refine ay_V3 (pc' := 24) (ce' := 0) (sl' := 0) (mc2 := 0) (ms2 := 0) (I2 := i_X12_bad) dX12_weighs_21 ml_X12_183 sh_69 (by decide) rfl rfl rfl rfl rfl rfl rfl rfl rfl (ac_M.imp (o_X12_bad _ (1 : Int32) (1 : Int32) (0 : Int32) H) ?_)
    rintro _ _ ⟨r21, s21, rfl, rfl, H⟩
    refine ax_if_ne (pc' := 27) (tgt := 50) dX12_weighs_24 (by decide) rfl (fun hc24 => ?_) (fun hc24 => ?_)
    · have H := H.1 hc24
      refine ax_iconst (pc' := 51) (v := (0 : Int32)) dX12_weighs_50 (by decide) rfl ?_
      exact ax_iret dX12_weighs_51 rfl rfl rfl ⟨_, _, rfl, rfl, H⟩
    · have H := H.2 hc24
      refine ax_aload_n (pc' := 28) dX12_weighs_27 rfl rfl ?_
      refine ax_iload_n (pc' := 29) dX12_weighs_28 rfl rfl ?_
      refine ax_iconst (pc' := 30) (v := (0 : Int32)) dX12_weighs_29 (by decide) rfl ?_
      refine ax_iconst (pc' := 31) (v := (1 : Int32)) dX12_weighs_30 (by decide) rfl ?_
      refine ay_S3 (pc' := 34) (ce' := 0) (sl' := 0) (mc2 := 0) (ms2 := 0) (I2 := i_X12_in) dX12_weighs_31 ml_X12_138 rfl rfl rfl rfl rfl rfl rfl rfl (ac_M.imp (o_X12_in _ p2 (0 : Int32) (1 : Int32) H) ?_)
      rintro _ _ ⟨r31, s31, rfl, rfl, H⟩
      refine ax_if_ne (pc' := 37) (tgt := 41) dX12_weighs_34 (by decide) rfl (fun hc34 => ?_) (fun hc34 => ?_)
      · have H := H.1 hc34
        refine ax_iconst (pc' := 42) (v := (0 : Int32)) dX12_weighs_41 (by decide) rfl ?_
        refine ax_iconst (pc' := 43) (v := (2 : Int32)) dX12_weighs_42 (by decide) rfl ?_
        refine ax_iconst (pc' := 44) (v := (1 : Int32)) dX12_weighs_43 (by decide) rfl ?_
        refine ay_V3 (pc' := 47) (ce' := 0) (sl' := 0) (mc2 := 0) (ms2 := 0) (I2 := i_X12_bad) dX12_weighs_44 ml_X12_183 sh_69 (by decide) rfl rfl rfl rfl rfl rfl rfl rfl rfl (ac_M.imp (o_X12_bad _ (0 : Int32) (2 : Int32) (1 : Int32) H) ?_)
        rintro _ _ ⟨r44, s44, rfl, rfl, H⟩
        refine ax_if_eq (pc' := 50) (tgt := 52) dX12_weighs_47 (by decide) rfl (fun hc47 => ?_) (fun hc47 => ?_)
        · have H := H.1 hc47
          refine ax_aload_n (pc' := 53) dX12_weighs_52 rfl rfl ?_
          refine ax_aload_n (pc' := 54) dX12_weighs_53 rfl rfl ?_
          refine ax_iload_n (pc' := 55) dX12_weighs_54 rfl rfl ?_
          refine ax_iload_n (pc' := 56) dX12_weighs_55 rfl rfl ?_
          refine ay_V2 (pc' := 59) (ce' := 0) (sl' := 0) (mc2 := 0) (ms2 := 0) (I2 := i_X12_sideOf) dX12_weighs_56 ml_X12_351 sh_69 (by decide) rfl rfl rfl rfl rfl rfl rfl rfl rfl (ac_M.imp (o_X12_sideOf _ p1 p2 H) ?_)
          rintro _ _ ⟨r56, s56, rfl, rfl, H⟩
          refine ay_V1 (pc' := 62) (ce' := 0) (sl' := 0) (mc2 := 0) (ms2 := 0) (I2 := i_X12_heavy) dX12_weighs_59 ml_X12_369 sh_69 (by decide) rfl rfl rfl rfl rfl rfl rfl rfl rfl (ac_M.imp (o_X12_heavy _ r56 H) ?_)
          rintro _ _ ⟨r59, s59, rfl, rfl, H⟩
          exact ax_iret dX12_weighs_62 rfl rfl rfl ⟨_, _, rfl, rfl, H⟩
        · have H := H.2 hc47
          refine ax_iconst (pc' := 51) (v := (0 : Int32)) dX12_weighs_50 (by decide) rfl ?_
          exact ax_iret dX12_weighs_51 rfl rfl rfl ⟨_, _, rfl, rfl, H⟩
      · have H := H.2 hc34
        refine ax_iconst (pc' := 38) (v := (1 : Int32)) dX12_weighs_37 (by decide) rfl ?_
        refine ax_goto (tgt := 42) dX12_weighs_38 (by decide) ?_
        refine ax_iconst (pc' := 43) (v := (2 : Int32)) dX12_weighs_42 (by decide) rfl ?_
        refine ax_iconst (pc' := 44) (v := (1 : Int32)) dX12_weighs_43 (by decide) rfl ?_
        refine ay_V3 (pc' := 47) (ce' := 0) (sl' := 0) (mc2 := 0) (ms2 := 0) (I2 := i_X12_bad) dX12_weighs_44 ml_X12_183 sh_69 (by decide) rfl rfl rfl rfl rfl rfl rfl rfl rfl (ac_M.imp (o_X12_bad _ (1 : Int32) (2 : Int32) (1 : Int32) H) ?_)
        rintro _ _ ⟨r44, s44, rfl, rfl, H⟩
        refine ax_if_eq (pc' := 50) (tgt := 52) dX12_weighs_47 (by decide) rfl (fun hc47 => ?_) (fun hc47 => ?_)
        · have H := H.1 hc47
          refine ax_aload_n (pc' := 53) dX12_weighs_52 rfl rfl ?_
          refine ax_aload_n (pc' := 54) dX12_weighs_53 rfl rfl ?_
          refine ax_iload_n (pc' := 55) dX12_weighs_54 rfl rfl ?_
          refine ax_iload_n (pc' := 56) dX12_weighs_55 rfl rfl ?_
          refine ay_V2 (pc' := 59) (ce' := 0) (sl' := 0) (mc2 := 0) (ms2 := 0) (I2 := i_X12_sideOf) dX12_weighs_56 ml_X12_351 sh_69 (by decide) rfl rfl rfl rfl rfl rfl rfl rfl rfl (ac_M.imp (o_X12_sideOf _ p1 p2 H) ?_)
          rintro _ _ ⟨r56, s56, rfl, rfl, H⟩
          refine ay_V1 (pc' := 62) (ce' := 0) (sl' := 0) (mc2 := 0) (ms2 := 0) (I2 := i_X12_heavy) dX12_weighs_59 ml_X12_369 sh_69 (by decide) rfl rfl rfl rfl rfl rfl rfl rfl rfl (ac_M.imp (o_X12_heavy _ r56 H) ?_)
          rintro _ _ ⟨r59, s59, rfl, rfl, H⟩
          exact ax_iret dX12_weighs_62 rfl rfl rfl ⟨_, _, rfl, rfl, H⟩
        · have H := H.2 hc47
          refine ax_iconst (pc' := 51) (v := (0 : Int32)) dX12_weighs_50 (by decide) rfl ?_
          exact ax_iret dX12_weighs_51 rfl rfl rfl ⟨_, _, rfl, rfl, H⟩
theorem ol_X12_lightest_34 {g : ac_G} {τ : Nat → Nat → Int64} (d : Nat) (p1 : Int32) {Q : Int32 → ac_m → Prop}  (f1 : Int32)  {x2 : Int32} {x3 : Int32} {s : ac_m} (H : l_X12_lightest_34 p1 Q  f1  x2 x3 s) : ac_X g i_X12_lightest (d + 1) 0 0 (liI τ Q) 0 0 34 [some (.ref 69), some (.int f1), some (.int x2), some (.int x3)] [] (false, 586, SH, s, τ) := by
  refine H (fun x2 x3 s => ac_X g i_X12_lightest (d + 1) 0 0 (liI τ Q) 0 0 34 [some (.ref 69), some (.int f1), some (.int x2), some (.int x3)] [] (false, 586, SH, s, τ)) ?_
  intro x2 x3 s H
  refine ax_iload_n (pc' := 35) dX12_lightest_34 rfl rfl ?_
  refine ax_aload_n (pc' := 36) dX12_lightest_35 rfl rfl ?_
  refine ax_getR (pc' := 39) dX12_lightest_36 fl_X12_23 sh_69 rfl rfl rfl ?_
  refine ax_iconst (pc' := 40) (v := (1 : Int32)) dX12_lightest_39 (by decide) rfl ?_
  refine ax_iald (pc' := 41) dX12_lightest_40 sh_73 (ac_in (by decide)) rfl rfl ?_
  refine ax_icmp_ge (pc' := 44) (tgt := 91) dX12_lightest_41 (by decide) rfl (fun hc41 => ?_) (fun hc41 => ?_)
  · have H := H.1 hc41
    refine ax_iload_n (pc' := 92) dX12_lightest_91 rfl rfl ?_
    refine ax_if_eq (pc' := 95) (tgt := 100) dX12_lightest_92 (by decide) rfl (fun hc92 => ?_) (fun hc92 => ?_)
    · have H := H.1 hc92
      refine ax_iload_n (pc' := 101) dX12_lightest_100 rfl rfl ?_
      refine ax_goto (tgt := 112) dX12_lightest_101 (by decide) ?_
      exact ax_iret dX12_lightest_112 rfl rfl rfl ⟨_, _, rfl, rfl, H⟩
    · have H := H.2 hc92
      refine ax_iload_n (pc' := 96) dX12_lightest_95 rfl rfl ?_
      refine ax_iconst (pc' := 97) (v := (-1 : Int32)) dX12_lightest_96 (by decide) rfl ?_
      refine ax_icmp_ne (pc' := 100) (tgt := 104) dX12_lightest_97 (by decide) rfl (fun hc97 => ?_) (fun hc97 => ?_)
      · have H := H.1 hc97
        refine ax_aload_n (pc' := 105) dX12_lightest_104 rfl rfl ?_
        refine ax_getR (pc' := 108) dX12_lightest_105 fl_X12_67 sh_69 rfl rfl rfl ?_
        refine ax_iconst (pc' := 109) (v := (0 : Int32)) dX12_lightest_108 (by decide) rfl ?_
        refine ax_iload_n (pc' := 110) dX12_lightest_109 rfl rfl ?_
        refine ax_iadd (pc' := 111) dX12_lightest_110 rfl ?_
        obtain ⟨hj111, H⟩ := H
        refine ax_iald (pc' := 112) dX12_lightest_111 sh_556 hj111 rfl rfl ?_
        exact ax_iret dX12_lightest_112 rfl rfl rfl ⟨_, _, rfl, rfl, H⟩
      · have H := H.2 hc97
        refine ax_iload_n (pc' := 101) dX12_lightest_100 rfl rfl ?_
        refine ax_goto (tgt := 112) dX12_lightest_101 (by decide) ?_
        exact ax_iret dX12_lightest_112 rfl rfl rfl ⟨_, _, rfl, rfl, H⟩
  · have H := H.2 hc41
    refine ax_aload_n (pc' := 45) dX12_lightest_44 rfl rfl ?_
    refine ax_getR (pc' := 48) dX12_lightest_45 fl_X12_67 sh_69 rfl rfl rfl ?_
    refine ax_iload_n (pc' := 49) dX12_lightest_48 rfl rfl ?_
    refine ay_S2 (pc' := 52) (ce' := 0) (sl' := 0) (mc2 := 0) (ms2 := 0) (I2 := i_X12_isThere) dX12_lightest_49 ml_X12_273 rfl rfl rfl rfl rfl rfl rfl rfl (ac_M.imp (o_X12_isThere _ 556 x3 sh_556 rfl H) ?_)
    rintro _ _ ⟨r49, s49, rfl, rfl, H⟩
    refine ax_if_eq (pc' := 55) (tgt := 83) dX12_lightest_52 (by decide) rfl (fun hc52 => ?_) (fun hc52 => ?_)
    · have H := H.1 hc52
      refine ax_iload_n (pc' := 84) dX12_lightest_83 rfl rfl ?_
      refine ax_istore_n (pc' := 85) dX12_lightest_84 rfl rfl rfl ?_
      refine ax_iinc (pc' := 88) (v := (x3 + (1 : Int32))) dX12_lightest_85 rfl rfl rfl rfl rfl ?_
      refine ax_goto (tgt := 34) dX12_lightest_88 (by decide) ?_
      exact H
    · have H := H.2 hc52
      refine ax_iload_n (pc' := 56) dX12_lightest_55 rfl rfl ?_
      refine ax_iconst (pc' := 57) (v := (-1 : Int32)) dX12_lightest_56 (by decide) rfl ?_
      refine ax_icmp_eq (pc' := 60) (tgt := 79) dX12_lightest_57 (by decide) rfl (fun hc57 => ?_) (fun hc57 => ?_)
      · have H := H.1 hc57
        refine ax_iload_n (pc' := 80) dX12_lightest_79 rfl rfl ?_
        refine ax_goto (tgt := 84) dX12_lightest_80 (by decide) ?_
        refine ax_istore_n (pc' := 85) dX12_lightest_84 rfl rfl rfl ?_
        refine ax_iinc (pc' := 88) (v := (x3 + (1 : Int32))) dX12_lightest_85 rfl rfl rfl rfl rfl ?_
        refine ax_goto (tgt := 34) dX12_lightest_88 (by decide) ?_
        exact H
      · have H := H.2 hc57
        refine ax_aload_n (pc' := 61) dX12_lightest_60 rfl rfl ?_
        refine ax_getR (pc' := 64) dX12_lightest_61 fl_X12_67 sh_69 rfl rfl rfl ?_
        refine ax_iconst (pc' := 65) (v := (0 : Int32)) dX12_lightest_64 (by decide) rfl ?_
        refine ax_iload_n (pc' := 66) dX12_lightest_65 rfl rfl ?_
        refine ax_iadd (pc' := 67) dX12_lightest_66 rfl ?_
        obtain ⟨hj67, H⟩ := H
        refine ax_iald (pc' := 68) dX12_lightest_67 sh_556 hj67 rfl rfl ?_
        refine ax_aload_n (pc' := 69) dX12_lightest_68 rfl rfl ?_
        refine ax_getR (pc' := 72) dX12_lightest_69 fl_X12_67 sh_69 rfl rfl rfl ?_
        refine ax_iconst (pc' := 73) (v := (0 : Int32)) dX12_lightest_72 (by decide) rfl ?_
        refine ax_iload_n (pc' := 74) dX12_lightest_73 rfl rfl ?_
        refine ax_iadd (pc' := 75) dX12_lightest_74 rfl ?_
        obtain ⟨hj75, H⟩ := H
        refine ax_iald (pc' := 76) dX12_lightest_75 sh_556 hj75 rfl rfl ?_
        refine ax_icmp_ge (pc' := 79) (tgt := 83) dX12_lightest_76 (by decide) rfl (fun hc76 => ?_) (fun hc76 => ?_)
        · have H := H.1 hc76
          refine ax_iload_n (pc' := 84) dX12_lightest_83 rfl rfl ?_
          refine ax_istore_n (pc' := 85) dX12_lightest_84 rfl rfl rfl ?_
          refine ax_iinc (pc' := 88) (v := (x3 + (1 : Int32))) dX12_lightest_85 rfl rfl rfl rfl rfl ?_
          refine ax_goto (tgt := 34) dX12_lightest_88 (by decide) ?_
          exact H
        · have H := H.2 hc76
          refine ax_iload_n (pc' := 80) dX12_lightest_79 rfl rfl ?_
          refine ax_goto (tgt := 84) dX12_lightest_80 (by decide) ?_
          refine ax_istore_n (pc' := 85) dX12_lightest_84 rfl rfl rfl ?_
          refine ax_iinc (pc' := 88) (v := (x3 + (1 : Int32))) dX12_lightest_85 rfl rfl rfl rfl rfl ?_
          refine ax_goto (tgt := 34) dX12_lightest_88 (by decide) ?_
          exact H
theorem o_X12_lightest {g : ac_G} {τ : Nat → Nat → Int64} (d : Nat) (p1 : Int32) {Q : Int32 → ac_m → Prop} {s : ac_m} (H : w_X12_lightest p1 Q s) : ac_M g i_X12_lightest (d + 1) 0 0 [.ref 69, .int p1] (false, 586, SH, s, τ) (liI τ Q) := by
  refine ac_ofX (by decide +kernel) rfl rfl rfl ?_
  refine ax_aload_n (pc' := 1) dX12_lightest_0 rfl rfl ?_
  refine ax_iconst (pc' := 2) (v := (0 : Int32)) dX12_lightest_1 (by decide) rfl ?_
  refine ax_putI (pc' := 5) dX12_lightest_2 fp_X12_104 sh_69 rfl rfl rfl ?_
  refine ax_aload_n (pc' := 6) dX12_lightest_5 rfl rfl ?_
  refine ax_iload_n (pc' := 7) dX12_lightest_6 rfl rfl ?_
  refine ax_iconst (pc' := 8) (v := (0 : Int32)) dX12_lightest_7 (by decide) rfl ?_
  refine ax_iconst (pc' := 9) (v := (1 : Int32)) dX12_lightest_8 (by decide) rfl ?_
  refine ay_S3 (pc' := 12) (ce' := 0) (sl' := 0) (mc2 := 0) (ms2 := 0) (I2 := i_X12_in) dX12_lightest_9 ml_X12_138 rfl rfl rfl rfl rfl rfl rfl rfl (ac_M.imp (o_X12_in _ p1 (0 : Int32) (1 : Int32) H) ?_)
  rintro _ _ ⟨r9, s9, rfl, rfl, H⟩
  refine ax_if_ne (pc' := 15) (tgt := 19) dX12_lightest_12 (by decide) rfl (fun hc12 => ?_) (fun hc12 => ?_)
  · have H := H.1 hc12
    refine ax_iconst (pc' := 20) (v := (0 : Int32)) dX12_lightest_19 (by decide) rfl ?_
    refine ax_iconst (pc' := 21) (v := (1 : Int32)) dX12_lightest_20 (by decide) rfl ?_
    refine ax_iconst (pc' := 22) (v := (1 : Int32)) dX12_lightest_21 (by decide) rfl ?_
    refine ay_V3 (pc' := 25) (ce' := 0) (sl' := 0) (mc2 := 0) (ms2 := 0) (I2 := i_X12_bad) dX12_lightest_22 ml_X12_183 sh_69 (by decide) rfl rfl rfl rfl rfl rfl rfl rfl rfl (ac_M.imp (o_X12_bad _ (0 : Int32) (1 : Int32) (1 : Int32) H) ?_)
    rintro _ _ ⟨r22, s22, rfl, rfl, H⟩
    refine ax_if_eq (pc' := 28) (tgt := 30) dX12_lightest_25 (by decide) rfl (fun hc25 => ?_) (fun hc25 => ?_)
    · have H := H.1 hc25
      refine ax_iconst (pc' := 31) (v := (-1 : Int32)) dX12_lightest_30 (by decide) rfl ?_
      refine ax_istore_n (pc' := 32) dX12_lightest_31 rfl rfl rfl ?_
      refine ax_iconst (pc' := 33) (v := (0 : Int32)) dX12_lightest_32 (by decide) rfl ?_
      refine ax_istore_n (pc' := 34) dX12_lightest_33 rfl rfl rfl ?_
      refine ol_X12_lightest_34 d p1  _    H
    · have H := H.2 hc25
      refine ax_iconst (pc' := 29) (v := (0 : Int32)) dX12_lightest_28 (by decide) rfl ?_
      exact ax_iret dX12_lightest_29 rfl rfl rfl ⟨_, _, rfl, rfl, H⟩
  · have H := H.2 hc12
    refine ax_iconst (pc' := 16) (v := (1 : Int32)) dX12_lightest_15 (by decide) rfl ?_
    refine ax_goto (tgt := 20) dX12_lightest_16 (by decide) ?_
    refine ax_iconst (pc' := 21) (v := (1 : Int32)) dX12_lightest_20 (by decide) rfl ?_
    refine ax_iconst (pc' := 22) (v := (1 : Int32)) dX12_lightest_21 (by decide) rfl ?_
    refine ay_V3 (pc' := 25) (ce' := 0) (sl' := 0) (mc2 := 0) (ms2 := 0) (I2 := i_X12_bad) dX12_lightest_22 ml_X12_183 sh_69 (by decide) rfl rfl rfl rfl rfl rfl rfl rfl rfl (ac_M.imp (o_X12_bad _ (1 : Int32) (1 : Int32) (1 : Int32) H) ?_)
    rintro _ _ ⟨r22, s22, rfl, rfl, H⟩
    refine ax_if_eq (pc' := 28) (tgt := 30) dX12_lightest_25 (by decide) rfl (fun hc25 => ?_) (fun hc25 => ?_)
    · have H := H.1 hc25
      refine ax_iconst (pc' := 31) (v := (-1 : Int32)) dX12_lightest_30 (by decide) rfl ?_
      refine ax_istore_n (pc' := 32) dX12_lightest_31 rfl rfl rfl ?_
      refine ax_iconst (pc' := 33) (v := (0 : Int32)) dX12_lightest_32 (by decide) rfl ?_
      refine ax_istore_n (pc' := 34) dX12_lightest_33 rfl rfl rfl ?_
      refine ol_X12_lightest_34 d p1  _    H
    · have H := H.2 hc25
      refine ax_iconst (pc' := 29) (v := (0 : Int32)) dX12_lightest_28 (by decide) rfl ?_
      exact ax_iret dX12_lightest_29 rfl rfl rfl ⟨_, _, rfl, rfl, H⟩
theorem ol_X12_coolest_54 {g : ac_G} {τ : Nat → Nat → Int64} (d : Nat) (p1 : Int32) {Q : Int32 → ac_m → Prop} {K110 : Int32 → Int32 → ac_m → Prop} (f1 : Int32) (f4 : Int32)  {x2 : Int32} {x3 : Int32} {x5 : Int32} {s : ac_m} (hK110 : ∀ (x2 : Int32) (x3 : Int32) (s : ac_m), K110 x2 x3 s → ac_X g i_X12_coolest (d + 1) 0 0 (liI τ Q) 0 0 110 [some (.ref 69), some (.int f1), some (.int x2), some (.int x3), some (.int f4), none, none] [] (false, 586, SH, s, τ)) (H : l_X12_coolest_54 p1 Q K110 f1 f4  x2 x3 x5 s) : ac_X g i_X12_coolest (d + 1) 0 0 (liI τ Q) 0 0 54 [some (.ref 69), some (.int f1), some (.int x2), some (.int x3), some (.int f4), some (.int x5), none] [] (false, 586, SH, s, τ) := by
  refine H (fun x2 x3 x5 s => ac_X g i_X12_coolest (d + 1) 0 0 (liI τ Q) 0 0 54 [some (.ref 69), some (.int f1), some (.int x2), some (.int x3), some (.int f4), some (.int x5), none] [] (false, 586, SH, s, τ)) ?_
  intro x2 x3 x5 s H
  refine ax_iload (pc' := 56) dX12_coolest_54 rfl rfl ?_
  refine ax_aload_n (pc' := 57) dX12_coolest_56 rfl rfl ?_
  refine ax_getR (pc' := 60) dX12_coolest_57 fl_X12_23 sh_69 rfl rfl rfl ?_
  refine ax_iconst (pc' := 61) (v := (0 : Int32)) dX12_coolest_60 (by decide) rfl ?_
  refine ax_iald (pc' := 62) dX12_coolest_61 sh_73 (ac_in (by decide)) rfl rfl ?_
  refine ax_icmp_ge (pc' := 65) (tgt := 110) dX12_coolest_62 (by decide) rfl (fun hc62 => ?_) (fun hc62 => ?_)
  · have H := H.1 hc62
    refine ax_drop 5 rfl ?_
    exact hK110 _ _ _ H
  · have H := H.2 hc62
    refine ax_aload_n (pc' := 66) dX12_coolest_65 rfl rfl ?_
    refine ax_getR (pc' := 69) dX12_coolest_66 fl_X12_67 sh_69 rfl rfl rfl ?_
    refine ax_bipush (pc' := 71) (v := (45 : Int32)) dX12_coolest_69 (by decide) rfl ?_
    refine ax_bipush (pc' := 73) (v := (6 : Int32)) dX12_coolest_71 (by decide) rfl ?_
    refine ax_iload (pc' := 75) dX12_coolest_73 rfl rfl ?_
    refine ax_imul (pc' := 76) dX12_coolest_75 rfl ?_
    refine ax_iadd (pc' := 77) dX12_coolest_76 rfl ?_
    refine ax_iload (pc' := 79) dX12_coolest_77 rfl rfl ?_
    refine ax_iadd (pc' := 80) dX12_coolest_79 rfl ?_
    obtain ⟨hj80, H⟩ := H
    refine ax_iald (pc' := 81) dX12_coolest_80 sh_556 hj80 rfl rfl ?_
    refine ax_istore (pc' := 83) dX12_coolest_81 rfl rfl rfl ?_
    refine ax_iload (pc' := 85) dX12_coolest_83 rfl rfl ?_
    refine ax_iload_n (pc' := 86) dX12_coolest_85 rfl rfl ?_
    refine ax_icmp_gt (pc' := 89) (tgt := 92) dX12_coolest_86 (by decide) rfl (fun hc86 => ?_) (fun hc86 => ?_)
    · have H := H.1 hc86
      refine ax_bipush (pc' := 94) (v := (10 : Int32)) dX12_coolest_92 (by decide) rfl ?_
      refine ax_iload (pc' := 96) dX12_coolest_94 rfl rfl ?_
      refine ax_imul (pc' := 97) dX12_coolest_96 rfl ?_
      refine ax_iload (pc' := 99) dX12_coolest_97 rfl rfl ?_
      refine ax_iadd (pc' := 100) dX12_coolest_99 rfl ?_
      refine ax_istore_n (pc' := 101) dX12_coolest_100 rfl rfl rfl ?_
      refine ax_iload (pc' := 103) dX12_coolest_101 rfl rfl ?_
      refine ax_istore_n (pc' := 104) dX12_coolest_103 rfl rfl rfl ?_
      refine ax_iinc (pc' := 107) (v := (x5 + (1 : Int32))) dX12_coolest_104 rfl rfl rfl rfl rfl ?_
      refine ax_goto (tgt := 54) dX12_coolest_107 (by decide) ?_
      refine ax_drop 6 rfl ?_
      exact H
    · have H := H.2 hc86
      refine ax_goto (tgt := 104) dX12_coolest_89 (by decide) ?_
      refine ax_iinc (pc' := 107) (v := (x5 + (1 : Int32))) dX12_coolest_104 rfl rfl rfl rfl rfl ?_
      refine ax_goto (tgt := 54) dX12_coolest_107 (by decide) ?_
      refine ax_drop 6 rfl ?_
      exact H
theorem ol_X12_coolest_37 {g : ac_G} {τ : Nat → Nat → Int64} (d : Nat) (p1 : Int32) {Q : Int32 → ac_m → Prop}  (f1 : Int32)  {x2 : Int32} {x3 : Int32} {x4 : Int32} {s : ac_m} (H : l_X12_coolest_37 p1 Q  f1  x2 x3 x4 s) : ac_X g i_X12_coolest (d + 1) 0 0 (liI τ Q) 0 0 37 [some (.ref 69), some (.int f1), some (.int x2), some (.int x3), some (.int x4), none, none] [] (false, 586, SH, s, τ) := by
  refine H (fun x2 x3 x4 s => ac_X g i_X12_coolest (d + 1) 0 0 (liI τ Q) 0 0 37 [some (.ref 69), some (.int f1), some (.int x2), some (.int x3), some (.int x4), none, none] [] (false, 586, SH, s, τ)) ?_
  intro x2 x3 x4 s H
  refine ax_iload (pc' := 39) dX12_coolest_37 rfl rfl ?_
  refine ax_aload_n (pc' := 40) dX12_coolest_39 rfl rfl ?_
  refine ax_getR (pc' := 43) dX12_coolest_40 fl_X12_23 sh_69 rfl rfl rfl ?_
  refine ax_iconst (pc' := 44) (v := (0 : Int32)) dX12_coolest_43 (by decide) rfl ?_
  refine ax_iald (pc' := 45) dX12_coolest_44 sh_73 (ac_in (by decide)) rfl rfl ?_
  refine ax_icmp_ge (pc' := 48) (tgt := 116) dX12_coolest_45 (by decide) rfl (fun hc45 => ?_) (fun hc45 => ?_)
  · have H := H.1 hc45
    refine ax_iload_n (pc' := 117) dX12_coolest_116 rfl rfl ?_
    refine ax_if_eq (pc' := 120) (tgt := 125) dX12_coolest_117 (by decide) rfl (fun hc117 => ?_) (fun hc117 => ?_)
    · have H := H.1 hc117
      refine ax_iload_n (pc' := 126) dX12_coolest_125 rfl rfl ?_
      refine ax_goto (tgt := 130) dX12_coolest_126 (by decide) ?_
      exact ax_iret dX12_coolest_130 rfl rfl rfl ⟨_, _, rfl, rfl, H⟩
    · have H := H.2 hc117
      refine ax_iload_n (pc' := 121) dX12_coolest_120 rfl rfl ?_
      refine ax_iconst (pc' := 122) (v := (-1 : Int32)) dX12_coolest_121 (by decide) rfl ?_
      refine ax_icmp_ne (pc' := 125) (tgt := 129) dX12_coolest_122 (by decide) rfl (fun hc122 => ?_) (fun hc122 => ?_)
      · have H := H.1 hc122
        refine ax_iload_n (pc' := 130) dX12_coolest_129 rfl rfl ?_
        exact ax_iret dX12_coolest_130 rfl rfl rfl ⟨_, _, rfl, rfl, H⟩
      · have H := H.2 hc122
        refine ax_iload_n (pc' := 126) dX12_coolest_125 rfl rfl ?_
        refine ax_goto (tgt := 130) dX12_coolest_126 (by decide) ?_
        exact ax_iret dX12_coolest_130 rfl rfl rfl ⟨_, _, rfl, rfl, H⟩
  · have H := H.2 hc45
    refine ax_iload (pc' := 50) dX12_coolest_48 rfl rfl ?_
    refine ax_iconst (pc' := 51) (v := (1 : Int32)) dX12_coolest_50 (by decide) rfl ?_
    refine ax_iadd (pc' := 52) dX12_coolest_51 rfl ?_
    refine ax_istore (pc' := 54) dX12_coolest_52 rfl rfl rfl ?_
    refine ol_X12_coolest_54 d p1  _ _   ?_ H
    · intro z54_2 z54_3 sk54 H
      refine ax_iinc (pc' := 113) (v := (x4 + (1 : Int32))) dX12_coolest_110 rfl rfl rfl rfl rfl ?_
      refine ax_goto (tgt := 37) dX12_coolest_113 (by decide) ?_
      exact H
theorem o_X12_coolest {g : ac_G} {τ : Nat → Nat → Int64} (d : Nat) (p1 : Int32) {Q : Int32 → ac_m → Prop} {s : ac_m} (H : w_X12_coolest p1 Q s) : ac_M g i_X12_coolest (d + 1) 0 0 [.ref 69, .int p1] (false, 586, SH, s, τ) (liI τ Q) := by
  refine ac_ofX (by decide +kernel) rfl rfl rfl ?_
  refine ax_aload_n (pc' := 1) dX12_coolest_0 rfl rfl ?_
  refine ax_iconst (pc' := 2) (v := (0 : Int32)) dX12_coolest_1 (by decide) rfl ?_
  refine ax_putI (pc' := 5) dX12_coolest_2 fp_X12_104 sh_69 rfl rfl rfl ?_
  refine ax_aload_n (pc' := 6) dX12_coolest_5 rfl rfl ?_
  refine ax_iload_n (pc' := 7) dX12_coolest_6 rfl rfl ?_
  refine ax_iconst (pc' := 8) (v := (0 : Int32)) dX12_coolest_7 (by decide) rfl ?_
  refine ax_iconst (pc' := 9) (v := (1 : Int32)) dX12_coolest_8 (by decide) rfl ?_
  refine ay_S3 (pc' := 12) (ce' := 0) (sl' := 0) (mc2 := 0) (ms2 := 0) (I2 := i_X12_in) dX12_coolest_9 ml_X12_138 rfl rfl rfl rfl rfl rfl rfl rfl (ac_M.imp (o_X12_in _ p1 (0 : Int32) (1 : Int32) H) ?_)
  rintro _ _ ⟨r9, s9, rfl, rfl, H⟩
  refine ax_if_ne (pc' := 15) (tgt := 19) dX12_coolest_12 (by decide) rfl (fun hc12 => ?_) (fun hc12 => ?_)
  · have H := H.1 hc12
    refine ax_iconst (pc' := 20) (v := (0 : Int32)) dX12_coolest_19 (by decide) rfl ?_
    refine ax_iconst (pc' := 21) (v := (1 : Int32)) dX12_coolest_20 (by decide) rfl ?_
    refine ax_iconst (pc' := 22) (v := (1 : Int32)) dX12_coolest_21 (by decide) rfl ?_
    refine ay_V3 (pc' := 25) (ce' := 0) (sl' := 0) (mc2 := 0) (ms2 := 0) (I2 := i_X12_bad) dX12_coolest_22 ml_X12_183 sh_69 (by decide) rfl rfl rfl rfl rfl rfl rfl rfl rfl (ac_M.imp (o_X12_bad _ (0 : Int32) (1 : Int32) (1 : Int32) H) ?_)
    rintro _ _ ⟨r22, s22, rfl, rfl, H⟩
    refine ax_if_eq (pc' := 28) (tgt := 30) dX12_coolest_25 (by decide) rfl (fun hc25 => ?_) (fun hc25 => ?_)
    · have H := H.1 hc25
      refine ax_iconst (pc' := 31) (v := (-1 : Int32)) dX12_coolest_30 (by decide) rfl ?_
      refine ax_istore_n (pc' := 32) dX12_coolest_31 rfl rfl rfl ?_
      refine ax_iconst (pc' := 33) (v := (0 : Int32)) dX12_coolest_32 (by decide) rfl ?_
      refine ax_istore_n (pc' := 34) dX12_coolest_33 rfl rfl rfl ?_
      refine ax_iconst (pc' := 35) (v := (0 : Int32)) dX12_coolest_34 (by decide) rfl ?_
      refine ax_istore (pc' := 37) dX12_coolest_35 rfl rfl rfl ?_
      refine ol_X12_coolest_37 d p1  _    H
    · have H := H.2 hc25
      refine ax_iconst (pc' := 29) (v := (0 : Int32)) dX12_coolest_28 (by decide) rfl ?_
      exact ax_iret dX12_coolest_29 rfl rfl rfl ⟨_, _, rfl, rfl, H⟩
  · have H := H.2 hc12
    refine ax_iconst (pc' := 16) (v := (1 : Int32)) dX12_coolest_15 (by decide) rfl ?_
    refine ax_goto (tgt := 20) dX12_coolest_16 (by decide) ?_
    refine ax_iconst (pc' := 21) (v := (1 : Int32)) dX12_coolest_20 (by decide) rfl ?_
    refine ax_iconst (pc' := 22) (v := (1 : Int32)) dX12_coolest_21 (by decide) rfl ?_
    refine ay_V3 (pc' := 25) (ce' := 0) (sl' := 0) (mc2 := 0) (ms2 := 0) (I2 := i_X12_bad) dX12_coolest_22 ml_X12_183 sh_69 (by decide) rfl rfl rfl rfl rfl rfl rfl rfl rfl (ac_M.imp (o_X12_bad _ (1 : Int32) (1 : Int32) (1 : Int32) H) ?_)
    rintro _ _ ⟨r22, s22, rfl, rfl, H⟩
    refine ax_if_eq (pc' := 28) (tgt := 30) dX12_coolest_25 (by decide) rfl (fun hc25 => ?_) (fun hc25 => ?_)
    · have H := H.1 hc25
      refine ax_iconst (pc' := 31) (v := (-1 : Int32)) dX12_coolest_30 (by decide) rfl ?_
      refine ax_istore_n (pc' := 32) dX12_coolest_31 rfl rfl rfl ?_
      refine ax_iconst (pc' := 33) (v := (0 : Int32)) dX12_coolest_32 (by decide) rfl ?_
      refine ax_istore_n (pc' := 34) dX12_coolest_33 rfl rfl rfl ?_
      refine ax_iconst (pc' := 35) (v := (0 : Int32)) dX12_coolest_34 (by decide) rfl ?_
      refine ax_istore (pc' := 37) dX12_coolest_35 rfl rfl rfl ?_
      refine ol_X12_coolest_37 d p1  _    H
    · have H := H.2 hc25
      refine ax_iconst (pc' := 29) (v := (0 : Int32)) dX12_coolest_28 (by decide) rfl ?_
      exact ax_iret dX12_coolest_29 rfl rfl rfl ⟨_, _, rfl, rfl, H⟩
theorem ol_X12_round_35 {g : ac_G} {τ : Nat → Nat → Int64} (d : Nat) (p1 : Int32) {Q : Int32 → ac_m → Prop}    {x2 : Int32} {x3 : Int32} {s : ac_m} (H : l_X12_round_35 p1 Q    x2 x3 s) : ac_X g i_X12_round (d + 2) 0 0 (liI τ Q) 0 0 35 [some (.ref 69), none, some (.int x2), some (.int x3)] [] (false, 586, SH, s, τ) := by
  refine H (fun x2 x3 s => ac_X g i_X12_round (d + 2) 0 0 (liI τ Q) 0 0 35 [some (.ref 69), none, some (.int x2), some (.int x3)] [] (false, 586, SH, s, τ)) ?_
  intro x2 x3 s H
  refine ax_iload_n (pc' := 36) dX12_round_35 rfl rfl ?_
  refine ax_aload_n (pc' := 37) dX12_round_36 rfl rfl ?_
  refine ax_getR (pc' := 40) dX12_round_37 fl_X12_23 sh_69 rfl rfl rfl ?_
  refine ax_iconst (pc' := 41) (v := (0 : Int32)) dX12_round_40 (by decide) rfl ?_
  refine ax_iald (pc' := 42) dX12_round_41 sh_73 (ac_in (by decide)) rfl rfl ?_
  refine ax_icmp_ge (pc' := 45) (tgt := 57) dX12_round_42 (by decide) rfl (fun hc42 => ?_) (fun hc42 => ?_)
  · have H := H.1 hc42
    refine ax_iload_n (pc' := 58) dX12_round_57 rfl rfl ?_
    exact ax_iret dX12_round_58 rfl rfl rfl ⟨_, _, rfl, rfl, H⟩
  · have H := H.2 hc42
    refine ax_aload_n (pc' := 46) dX12_round_45 rfl rfl ?_
    refine ax_iload_n (pc' := 47) dX12_round_46 rfl rfl ?_
    refine ay_V1 (pc' := 50) (ce' := 0) (sl' := 0) (mc2 := 0) (ms2 := 0) (I2 := i_X12_further) dX12_round_47 ml_X12_381 sh_69 (by decide) rfl rfl rfl rfl rfl rfl rfl rfl rfl (ac_M.imp (o_X12_further _ x2 H) ?_)
    rintro _ _ ⟨r47, s47, rfl, rfl, H⟩
    refine ax_istore_n (pc' := 51) dX12_round_50 rfl rfl rfl ?_
    refine ax_iinc (pc' := 54) (v := (x3 + (1 : Int32))) dX12_round_51 rfl rfl rfl rfl rfl ?_
    refine ax_goto (tgt := 35) dX12_round_54 (by decide) ?_
    exact H
theorem o_X12_round {g : ac_G} {τ : Nat → Nat → Int64} (d : Nat) (p1 : Int32) {Q : Int32 → ac_m → Prop} {s : ac_m} (H : w_X12_round p1 Q s) : ac_M g i_X12_round (d + 2) 0 0 [.ref 69, .int p1] (false, 586, SH, s, τ) (liI τ Q) := by
  refine ac_ofX (by decide +kernel) rfl rfl rfl ?_
  refine ax_aload_n (pc' := 1) dX12_round_0 rfl rfl ?_
  refine ax_iconst (pc' := 2) (v := (0 : Int32)) dX12_round_1 (by decide) rfl ?_
  refine ax_putI (pc' := 5) dX12_round_2 fp_X12_104 sh_69 rfl rfl rfl ?_
  refine ax_aload_n (pc' := 6) dX12_round_5 rfl rfl ?_
  refine ax_aload_n (pc' := 7) dX12_round_6 rfl rfl ?_
  refine ax_iload_n (pc' := 8) dX12_round_7 rfl rfl ?_
  refine ay_V1 (pc' := 11) (ce' := 0) (sl' := 0) (mc2 := 0) (ms2 := 0) (I2 := i_X12_isFolk) dX12_round_8 ml_X12_348 sh_69 (by decide) rfl rfl rfl rfl rfl rfl rfl rfl rfl (ac_M.imp (o_X12_isFolk _ p1 H) ?_)
  rintro _ _ ⟨r8, s8, rfl, rfl, H⟩
  refine ax_if_ne (pc' := 14) (tgt := 18) dX12_round_11 (by decide) rfl (fun hc11 => ?_) (fun hc11 => ?_)
  · have H := H.1 hc11
    refine ax_iconst (pc' := 19) (v := (0 : Int32)) dX12_round_18 (by decide) rfl ?_
    refine ax_iconst (pc' := 20) (v := (1 : Int32)) dX12_round_19 (by decide) rfl ?_
    refine ax_iconst (pc' := 21) (v := (0 : Int32)) dX12_round_20 (by decide) rfl ?_
    refine ay_V3 (pc' := 24) (ce' := 0) (sl' := 0) (mc2 := 0) (ms2 := 0) (I2 := i_X12_bad) dX12_round_21 ml_X12_183 sh_69 (by decide) rfl rfl rfl rfl rfl rfl rfl rfl rfl (ac_M.imp (o_X12_bad _ (0 : Int32) (1 : Int32) (0 : Int32) H) ?_)
    rintro _ _ ⟨r21, s21, rfl, rfl, H⟩
    refine ax_if_eq (pc' := 27) (tgt := 29) dX12_round_24 (by decide) rfl (fun hc24 => ?_) (fun hc24 => ?_)
    · have H := H.1 hc24
      refine ax_iconst (pc' := 30) (v := (1 : Int32)) dX12_round_29 (by decide) rfl ?_
      refine ax_iload_n (pc' := 31) dX12_round_30 rfl rfl ?_
      refine ax_ishl (pc' := 32) dX12_round_31 rfl ?_
      refine ax_istore_n (pc' := 33) dX12_round_32 rfl rfl rfl ?_
      refine ax_iconst (pc' := 34) (v := (0 : Int32)) dX12_round_33 (by decide) rfl ?_
      refine ax_istore_n (pc' := 35) dX12_round_34 rfl rfl rfl ?_
      refine ax_drop 1 rfl ?_
      refine ol_X12_round_35 d p1      H
    · have H := H.2 hc24
      refine ax_iconst (pc' := 28) (v := (0 : Int32)) dX12_round_27 (by decide) rfl ?_
      exact ax_iret dX12_round_28 rfl rfl rfl ⟨_, _, rfl, rfl, H⟩
  · have H := H.2 hc11
    refine ax_iconst (pc' := 15) (v := (1 : Int32)) dX12_round_14 (by decide) rfl ?_
    refine ax_goto (tgt := 19) dX12_round_15 (by decide) ?_
    refine ax_iconst (pc' := 20) (v := (1 : Int32)) dX12_round_19 (by decide) rfl ?_
    refine ax_iconst (pc' := 21) (v := (0 : Int32)) dX12_round_20 (by decide) rfl ?_
    refine ay_V3 (pc' := 24) (ce' := 0) (sl' := 0) (mc2 := 0) (ms2 := 0) (I2 := i_X12_bad) dX12_round_21 ml_X12_183 sh_69 (by decide) rfl rfl rfl rfl rfl rfl rfl rfl rfl (ac_M.imp (o_X12_bad _ (1 : Int32) (1 : Int32) (0 : Int32) H) ?_)
    rintro _ _ ⟨r21, s21, rfl, rfl, H⟩
    refine ax_if_eq (pc' := 27) (tgt := 29) dX12_round_24 (by decide) rfl (fun hc24 => ?_) (fun hc24 => ?_)
    · have H := H.1 hc24
      refine ax_iconst (pc' := 30) (v := (1 : Int32)) dX12_round_29 (by decide) rfl ?_
      refine ax_iload_n (pc' := 31) dX12_round_30 rfl rfl ?_
      refine ax_ishl (pc' := 32) dX12_round_31 rfl ?_
      refine ax_istore_n (pc' := 33) dX12_round_32 rfl rfl rfl ?_
      refine ax_iconst (pc' := 34) (v := (0 : Int32)) dX12_round_33 (by decide) rfl ?_
      refine ax_istore_n (pc' := 35) dX12_round_34 rfl rfl rfl ?_
      refine ax_drop 1 rfl ?_
      refine ol_X12_round_35 d p1      H
    · have H := H.2 hc24
      refine ax_iconst (pc' := 28) (v := (0 : Int32)) dX12_round_27 (by decide) rfl ?_
      exact ax_iret dX12_round_28 rfl rfl rfl ⟨_, _, rfl, rfl, H⟩
theorem ol_X12_overrun_9 {g : ac_G} {τ : Nat → Nat → Int64} (d : Nat)  {Q : Int32 → ac_m → Prop}    {x1 : Int32} {x2 : Int32} {s : ac_m} (H : l_X12_overrun_9  Q    x1 x2 s) : ac_X g i_X12_overrun (d + 6) 0 0 (liI τ Q) 0 0 9 [some (.ref 69), some (.int x1), some (.int x2)] [] (false, 586, SH, s, τ) := by
  refine H (fun x1 x2 s => ac_X g i_X12_overrun (d + 6) 0 0 (liI τ Q) 0 0 9 [some (.ref 69), some (.int x1), some (.int x2)] [] (false, 586, SH, s, τ)) ?_
  intro x1 x2 s H
  refine ax_iload_n (pc' := 10) dX12_overrun_9 rfl rfl ?_
  refine ax_aload_n (pc' := 11) dX12_overrun_10 rfl rfl ?_
  refine ax_getR (pc' := 14) dX12_overrun_11 fl_X12_23 sh_69 rfl rfl rfl ?_
  refine ax_iconst (pc' := 15) (v := (0 : Int32)) dX12_overrun_14 (by decide) rfl ?_
  refine ax_iald (pc' := 16) dX12_overrun_15 sh_73 (ac_in (by decide)) rfl rfl ?_
  refine ax_icmp_ge (pc' := 19) (tgt := 59) dX12_overrun_16 (by decide) rfl (fun hc16 => ?_) (fun hc16 => ?_)
  · have H := H.1 hc16
    refine ax_iload_n (pc' := 60) dX12_overrun_59 rfl rfl ?_
    exact ax_iret dX12_overrun_60 rfl rfl rfl ⟨_, _, rfl, rfl, H⟩
  · have H := H.2 hc16
    refine ax_iload_n (pc' := 20) dX12_overrun_19 rfl rfl ?_
    refine ax_aload_n (pc' := 21) dX12_overrun_20 rfl rfl ?_
    refine ax_aload_n (pc' := 22) dX12_overrun_21 rfl rfl ?_
    refine ax_getR (pc' := 25) dX12_overrun_22 fl_X12_67 sh_69 rfl rfl rfl ?_
    refine ax_iload_n (pc' := 26) dX12_overrun_25 rfl rfl ?_
    refine ay_S2 (pc' := 29) (ce' := 0) (sl' := 0) (mc2 := 0) (ms2 := 0) (I2 := i_X12_onOne) dX12_overrun_26 ml_X12_277 rfl rfl rfl rfl rfl rfl rfl rfl (ac_M.imp (o_X12_onOne _ 556 x2 sh_556 rfl H) ?_)
    rintro _ _ ⟨r26, s26, rfl, rfl, H⟩
    refine ay_V1 (pc' := 32) (ce' := 0) (sl' := 0) (mc2 := 0) (ms2 := 0) (I2 := i_X12_eaten) dX12_overrun_29 ml_X12_345 sh_69 (by decide) rfl rfl rfl rfl rfl rfl rfl rfl rfl (ac_M.imp (o_X12_eaten _ r26 H) ?_)
    rintro _ _ ⟨r29, s29, rfl, rfl, H⟩
    refine ax_aload_n (pc' := 33) dX12_overrun_32 rfl rfl ?_
    refine ax_getR (pc' := 36) dX12_overrun_33 fl_X12_67 sh_69 rfl rfl rfl ?_
    refine ax_bipush (pc' := 38) (v := (39 : Int32)) dX12_overrun_36 (by decide) rfl ?_
    refine ax_iload_n (pc' := 39) dX12_overrun_38 rfl rfl ?_
    refine ax_iadd (pc' := 40) dX12_overrun_39 rfl ?_
    obtain ⟨hj40, H⟩ := H
    refine ax_iald (pc' := 41) dX12_overrun_40 sh_556 hj40 rfl rfl ?_
    refine ax_icmp_le (pc' := 44) (tgt := 50) dX12_overrun_41 (by decide) rfl (fun hc41 => ?_) (fun hc41 => ?_)
    · have H := H.1 hc41
      refine ax_iconst (pc' := 51) (v := (0 : Int32)) dX12_overrun_50 (by decide) rfl ?_
      refine ax_ior (pc' := 52) dX12_overrun_51 rfl ?_
      refine ax_istore_n (pc' := 53) dX12_overrun_52 rfl rfl rfl ?_
      refine ax_iinc (pc' := 56) (v := (x2 + (1 : Int32))) dX12_overrun_53 rfl rfl rfl rfl rfl ?_
      refine ax_goto (tgt := 9) dX12_overrun_56 (by decide) ?_
      exact H
    · have H := H.2 hc41
      refine ax_iconst (pc' := 45) (v := (1 : Int32)) dX12_overrun_44 (by decide) rfl ?_
      refine ax_iload_n (pc' := 46) dX12_overrun_45 rfl rfl ?_
      refine ax_ishl (pc' := 47) dX12_overrun_46 rfl ?_
      refine ax_goto (tgt := 51) dX12_overrun_47 (by decide) ?_
      refine ax_ior (pc' := 52) dX12_overrun_51 rfl ?_
      refine ax_istore_n (pc' := 53) dX12_overrun_52 rfl rfl rfl ?_
      refine ax_iinc (pc' := 56) (v := (x2 + (1 : Int32))) dX12_overrun_53 rfl rfl rfl rfl rfl ?_
      refine ax_goto (tgt := 9) dX12_overrun_56 (by decide) ?_
      exact H
theorem o_X12_overrun {g : ac_G} {τ : Nat → Nat → Int64} (d : Nat)  {Q : Int32 → ac_m → Prop} {s : ac_m} (H : w_X12_overrun  Q s) : ac_M g i_X12_overrun (d + 6) 0 0 [.ref 69] (false, 586, SH, s, τ) (liI τ Q) := by
  refine ac_ofX (by decide +kernel) rfl rfl rfl ?_
  refine ax_aload_n (pc' := 1) dX12_overrun_0 rfl rfl ?_
  refine ax_iconst (pc' := 2) (v := (0 : Int32)) dX12_overrun_1 (by decide) rfl ?_
  refine ax_putI (pc' := 5) dX12_overrun_2 fp_X12_104 sh_69 rfl rfl rfl ?_
  refine ax_iconst (pc' := 6) (v := (0 : Int32)) dX12_overrun_5 (by decide) rfl ?_
  refine ax_istore_n (pc' := 7) dX12_overrun_6 rfl rfl rfl ?_
  refine ax_iconst (pc' := 8) (v := (0 : Int32)) dX12_overrun_7 (by decide) rfl ?_
  refine ax_istore_n (pc' := 9) dX12_overrun_8 rfl rfl rfl ?_
  refine ol_X12_overrun_9 d       H
theorem ol_X12_good_34 {g : ac_G} {τ : Nat → Nat → Int64} (d : Nat) (p1 : Int32) {Q : Int32 → ac_m → Prop}  (f1 : Int32)  {x2 : Int32} {x3 : Int32} {s : ac_m} (H : l_X12_good_34 p1 Q  f1  x2 x3 s) : ac_X g i_X12_good (d + 2) 0 0 (liI τ Q) 0 0 34 [some (.ref 69), some (.int f1), some (.int x2), some (.int x3), none] [] (false, 586, SH, s, τ) := by
  refine H (fun x2 x3 s => ac_X g i_X12_good (d + 2) 0 0 (liI τ Q) 0 0 34 [some (.ref 69), some (.int f1), some (.int x2), some (.int x3), none] [] (false, 586, SH, s, τ)) ?_
  intro x2 x3 s H
  refine ax_iload_n (pc' := 35) dX12_good_34 rfl rfl ?_
  refine ax_aload_n (pc' := 36) dX12_good_35 rfl rfl ?_
  refine ax_getR (pc' := 39) dX12_good_36 fl_X12_23 sh_69 rfl rfl rfl ?_
  refine ax_iconst (pc' := 40) (v := (0 : Int32)) dX12_good_39 (by decide) rfl ?_
  refine ax_iald (pc' := 41) dX12_good_40 sh_73 (ac_in (by decide)) rfl rfl ?_
  refine ax_icmp_ge (pc' := 44) (tgt := 104) dX12_good_41 (by decide) rfl (fun hc41 => ?_) (fun hc41 => ?_)
  · have H := H.1 hc41
    refine ax_iload_n (pc' := 105) dX12_good_104 rfl rfl ?_
    exact ax_iret dX12_good_105 rfl rfl rfl ⟨_, _, rfl, rfl, H⟩
  · have H := H.2 hc41
    refine ax_aload_n (pc' := 45) dX12_good_44 rfl rfl ?_
    refine ax_iload_n (pc' := 46) dX12_good_45 rfl rfl ?_
    refine ax_iconst (pc' := 47) (v := (0 : Int32)) dX12_good_46 (by decide) rfl ?_
    refine ay_V2 (pc' := 50) (ce' := 0) (sl' := 0) (mc2 := 0) (ms2 := 0) (I2 := i_X12_sideOf) dX12_good_47 ml_X12_351 sh_69 (by decide) rfl rfl rfl rfl rfl rfl rfl rfl rfl (ac_M.imp (o_X12_sideOf _ x3 (0 : Int32) H) ?_)
    rintro _ _ ⟨r47, s47, rfl, rfl, H⟩
    refine ay_S1 (pc' := 53) (ce' := 0) (sl' := 0) (mc2 := 0) (ms2 := 0) (I2 := i_X12_ones) dX12_good_50 ml_X12_281 rfl rfl rfl rfl rfl rfl rfl rfl (ac_M.imp (o_X12_ones _ r47 H) ?_)
    rintro _ _ ⟨r50, s50, rfl, rfl, H⟩
    refine ax_aload_n (pc' := 54) dX12_good_53 rfl rfl ?_
    refine ax_iload_n (pc' := 55) dX12_good_54 rfl rfl ?_
    refine ax_iconst (pc' := 56) (v := (1 : Int32)) dX12_good_55 (by decide) rfl ?_
    refine ay_V2 (pc' := 59) (ce' := 0) (sl' := 0) (mc2 := 0) (ms2 := 0) (I2 := i_X12_sideOf) dX12_good_56 ml_X12_351 sh_69 (by decide) rfl rfl rfl rfl rfl rfl rfl rfl rfl (ac_M.imp (o_X12_sideOf _ x3 (1 : Int32) H) ?_)
    rintro _ _ ⟨r56, s56, rfl, rfl, H⟩
    refine ay_S1 (pc' := 62) (ce' := 0) (sl' := 0) (mc2 := 0) (ms2 := 0) (I2 := i_X12_ones) dX12_good_59 ml_X12_281 rfl rfl rfl rfl rfl rfl rfl rfl (ac_M.imp (o_X12_ones _ r56 H) ?_)
    rintro _ _ ⟨r59, s59, rfl, rfl, H⟩
    refine ax_isub (pc' := 63) dX12_good_62 rfl ?_
    refine ax_istore (pc' := 65) dX12_good_63 rfl rfl rfl ?_
    refine ax_iload_n (pc' := 66) dX12_good_65 rfl rfl ?_
    refine ax_iload (pc' := 68) dX12_good_66 rfl rfl ?_
    refine ax_if_le (pc' := 71) (tgt := 75) dX12_good_68 (by decide) rfl (fun hc68 => ?_) (fun hc68 => ?_)
    · have H := H.1 hc68
      refine ax_iload (pc' := 77) dX12_good_75 rfl rfl ?_
      refine ax_if_ne (pc' := 80) (tgt := 84) dX12_good_77 (by decide) rfl (fun hc77 => ?_) (fun hc77 => ?_)
      · have H := H.1 hc77
        refine ax_iconst (pc' := 85) (v := (2 : Int32)) dX12_good_84 (by decide) rfl ?_
        refine ax_iload_n (pc' := 86) dX12_good_85 rfl rfl ?_
        refine ax_icmp_ne (pc' := 89) (tgt := 95) dX12_good_86 (by decide) rfl (fun hc86 => ?_) (fun hc86 => ?_)
        · have H := H.1 hc86
          refine ax_iconst (pc' := 96) (v := (0 : Int32)) dX12_good_95 (by decide) rfl ?_
          refine ax_ior (pc' := 97) dX12_good_96 rfl ?_
          refine ax_istore_n (pc' := 98) dX12_good_97 rfl rfl rfl ?_
          refine ax_iinc (pc' := 101) (v := (x3 + (1 : Int32))) dX12_good_98 rfl rfl rfl rfl rfl ?_
          refine ax_goto (tgt := 34) dX12_good_101 (by decide) ?_
          refine ax_drop 4 rfl ?_
          exact H
        · have H := H.2 hc86
          refine ax_iconst (pc' := 90) (v := (1 : Int32)) dX12_good_89 (by decide) rfl ?_
          refine ax_iload_n (pc' := 91) dX12_good_90 rfl rfl ?_
          refine ax_ishl (pc' := 92) dX12_good_91 rfl ?_
          refine ax_goto (tgt := 96) dX12_good_92 (by decide) ?_
          refine ax_ior (pc' := 97) dX12_good_96 rfl ?_
          refine ax_istore_n (pc' := 98) dX12_good_97 rfl rfl rfl ?_
          refine ax_iinc (pc' := 101) (v := (x3 + (1 : Int32))) dX12_good_98 rfl rfl rfl rfl rfl ?_
          refine ax_goto (tgt := 34) dX12_good_101 (by decide) ?_
          refine ax_drop 4 rfl ?_
          exact H
      · have H := H.2 hc77
        refine ax_iconst (pc' := 81) (v := (1 : Int32)) dX12_good_80 (by decide) rfl ?_
        refine ax_goto (tgt := 85) dX12_good_81 (by decide) ?_
        refine ax_iload_n (pc' := 86) dX12_good_85 rfl rfl ?_
        refine ax_icmp_ne (pc' := 89) (tgt := 95) dX12_good_86 (by decide) rfl (fun hc86 => ?_) (fun hc86 => ?_)
        · have H := H.1 hc86
          refine ax_iconst (pc' := 96) (v := (0 : Int32)) dX12_good_95 (by decide) rfl ?_
          refine ax_ior (pc' := 97) dX12_good_96 rfl ?_
          refine ax_istore_n (pc' := 98) dX12_good_97 rfl rfl rfl ?_
          refine ax_iinc (pc' := 101) (v := (x3 + (1 : Int32))) dX12_good_98 rfl rfl rfl rfl rfl ?_
          refine ax_goto (tgt := 34) dX12_good_101 (by decide) ?_
          refine ax_drop 4 rfl ?_
          exact H
        · have H := H.2 hc86
          refine ax_iconst (pc' := 90) (v := (1 : Int32)) dX12_good_89 (by decide) rfl ?_
          refine ax_iload_n (pc' := 91) dX12_good_90 rfl rfl ?_
          refine ax_ishl (pc' := 92) dX12_good_91 rfl ?_
          refine ax_goto (tgt := 96) dX12_good_92 (by decide) ?_
          refine ax_ior (pc' := 97) dX12_good_96 rfl ?_
          refine ax_istore_n (pc' := 98) dX12_good_97 rfl rfl rfl ?_
          refine ax_iinc (pc' := 101) (v := (x3 + (1 : Int32))) dX12_good_98 rfl rfl rfl rfl rfl ?_
          refine ax_goto (tgt := 34) dX12_good_101 (by decide) ?_
          refine ax_drop 4 rfl ?_
          exact H
    · have H := H.2 hc68
      refine ax_iconst (pc' := 72) (v := (0 : Int32)) dX12_good_71 (by decide) rfl ?_
      refine ax_goto (tgt := 85) dX12_good_72 (by decide) ?_
      refine ax_iload_n (pc' := 86) dX12_good_85 rfl rfl ?_
      refine ax_icmp_ne (pc' := 89) (tgt := 95) dX12_good_86 (by decide) rfl (fun hc86 => ?_) (fun hc86 => ?_)
      · have H := H.1 hc86
        refine ax_iconst (pc' := 96) (v := (0 : Int32)) dX12_good_95 (by decide) rfl ?_
        refine ax_ior (pc' := 97) dX12_good_96 rfl ?_
        refine ax_istore_n (pc' := 98) dX12_good_97 rfl rfl rfl ?_
        refine ax_iinc (pc' := 101) (v := (x3 + (1 : Int32))) dX12_good_98 rfl rfl rfl rfl rfl ?_
        refine ax_goto (tgt := 34) dX12_good_101 (by decide) ?_
        refine ax_drop 4 rfl ?_
        exact H
      · have H := H.2 hc86
        refine ax_iconst (pc' := 90) (v := (1 : Int32)) dX12_good_89 (by decide) rfl ?_
        refine ax_iload_n (pc' := 91) dX12_good_90 rfl rfl ?_
        refine ax_ishl (pc' := 92) dX12_good_91 rfl ?_
        refine ax_goto (tgt := 96) dX12_good_92 (by decide) ?_
        refine ax_ior (pc' := 97) dX12_good_96 rfl ?_
        refine ax_istore_n (pc' := 98) dX12_good_97 rfl rfl rfl ?_
        refine ax_iinc (pc' := 101) (v := (x3 + (1 : Int32))) dX12_good_98 rfl rfl rfl rfl rfl ?_
        refine ax_goto (tgt := 34) dX12_good_101 (by decide) ?_
        refine ax_drop 4 rfl ?_
        exact H
theorem o_X12_good {g : ac_G} {τ : Nat → Nat → Int64} (d : Nat) (p1 : Int32) {Q : Int32 → ac_m → Prop} {s : ac_m} (H : w_X12_good p1 Q s) : ac_M g i_X12_good (d + 2) 0 0 [.ref 69, .int p1] (false, 586, SH, s, τ) (liI τ Q) := by
  refine ac_ofX (by decide +kernel) rfl rfl rfl ?_
  refine ax_aload_n (pc' := 1) dX12_good_0 rfl rfl ?_
  refine ax_iconst (pc' := 2) (v := (0 : Int32)) dX12_good_1 (by decide) rfl ?_
  refine ax_putI (pc' := 5) dX12_good_2 fp_X12_104 sh_69 rfl rfl rfl ?_
  refine ax_aload_n (pc' := 6) dX12_good_5 rfl rfl ?_
  refine ax_iload_n (pc' := 7) dX12_good_6 rfl rfl ?_
  refine ax_iconst (pc' := 8) (v := (0 : Int32)) dX12_good_7 (by decide) rfl ?_
  refine ax_iconst (pc' := 9) (v := (2 : Int32)) dX12_good_8 (by decide) rfl ?_
  refine ay_S3 (pc' := 12) (ce' := 0) (sl' := 0) (mc2 := 0) (ms2 := 0) (I2 := i_X12_in) dX12_good_9 ml_X12_138 rfl rfl rfl rfl rfl rfl rfl rfl (ac_M.imp (o_X12_in _ p1 (0 : Int32) (2 : Int32) H) ?_)
  rintro _ _ ⟨r9, s9, rfl, rfl, H⟩
  refine ax_if_ne (pc' := 15) (tgt := 19) dX12_good_12 (by decide) rfl (fun hc12 => ?_) (fun hc12 => ?_)
  · have H := H.1 hc12
    refine ax_iconst (pc' := 20) (v := (0 : Int32)) dX12_good_19 (by decide) rfl ?_
    refine ax_iconst (pc' := 21) (v := (1 : Int32)) dX12_good_20 (by decide) rfl ?_
    refine ax_iconst (pc' := 22) (v := (1 : Int32)) dX12_good_21 (by decide) rfl ?_
    refine ay_V3 (pc' := 25) (ce' := 0) (sl' := 0) (mc2 := 0) (ms2 := 0) (I2 := i_X12_bad) dX12_good_22 ml_X12_183 sh_69 (by decide) rfl rfl rfl rfl rfl rfl rfl rfl rfl (ac_M.imp (o_X12_bad _ (0 : Int32) (1 : Int32) (1 : Int32) H) ?_)
    rintro _ _ ⟨r22, s22, rfl, rfl, H⟩
    refine ax_if_eq (pc' := 28) (tgt := 30) dX12_good_25 (by decide) rfl (fun hc25 => ?_) (fun hc25 => ?_)
    · have H := H.1 hc25
      refine ax_iconst (pc' := 31) (v := (0 : Int32)) dX12_good_30 (by decide) rfl ?_
      refine ax_istore_n (pc' := 32) dX12_good_31 rfl rfl rfl ?_
      refine ax_iconst (pc' := 33) (v := (0 : Int32)) dX12_good_32 (by decide) rfl ?_
      refine ax_istore_n (pc' := 34) dX12_good_33 rfl rfl rfl ?_
      refine ol_X12_good_34 d p1  _    H
    · have H := H.2 hc25
      refine ax_iconst (pc' := 29) (v := (0 : Int32)) dX12_good_28 (by decide) rfl ?_
      exact ax_iret dX12_good_29 rfl rfl rfl ⟨_, _, rfl, rfl, H⟩
  · have H := H.2 hc12
    refine ax_iconst (pc' := 16) (v := (1 : Int32)) dX12_good_15 (by decide) rfl ?_
    refine ax_goto (tgt := 20) dX12_good_16 (by decide) ?_
    refine ax_iconst (pc' := 21) (v := (1 : Int32)) dX12_good_20 (by decide) rfl ?_
    refine ax_iconst (pc' := 22) (v := (1 : Int32)) dX12_good_21 (by decide) rfl ?_
    refine ay_V3 (pc' := 25) (ce' := 0) (sl' := 0) (mc2 := 0) (ms2 := 0) (I2 := i_X12_bad) dX12_good_22 ml_X12_183 sh_69 (by decide) rfl rfl rfl rfl rfl rfl rfl rfl rfl (ac_M.imp (o_X12_bad _ (1 : Int32) (1 : Int32) (1 : Int32) H) ?_)
    rintro _ _ ⟨r22, s22, rfl, rfl, H⟩
    refine ax_if_eq (pc' := 28) (tgt := 30) dX12_good_25 (by decide) rfl (fun hc25 => ?_) (fun hc25 => ?_)
    · have H := H.1 hc25
      refine ax_iconst (pc' := 31) (v := (0 : Int32)) dX12_good_30 (by decide) rfl ?_
      refine ax_istore_n (pc' := 32) dX12_good_31 rfl rfl rfl ?_
      refine ax_iconst (pc' := 33) (v := (0 : Int32)) dX12_good_32 (by decide) rfl ?_
      refine ax_istore_n (pc' := 34) dX12_good_33 rfl rfl rfl ?_
      refine ol_X12_good_34 d p1  _    H
    · have H := H.2 hc25
      refine ax_iconst (pc' := 29) (v := (0 : Int32)) dX12_good_28 (by decide) rfl ?_
      exact ax_iret dX12_good_29 rfl rfl rfl ⟨_, _, rfl, rfl, H⟩
theorem ol_X12_kind_34 {g : ac_G} {τ : Nat → Nat → Int64} (d : Nat) (p1 : Int32) {Q : Int32 → ac_m → Prop}  (f1 : Int32)  {x2 : Int32} {x3 : Int32} {s : ac_m} (H : l_X12_kind_34 p1 Q  f1  x2 x3 s) : ac_X g i_X12_kind (d + 1) 0 0 (liI τ Q) 0 0 34 [some (.ref 69), some (.int f1), some (.int x2), some (.int x3)] [] (false, 586, SH, s, τ) := by
  refine H (fun x2 x3 s => ac_X g i_X12_kind (d + 1) 0 0 (liI τ Q) 0 0 34 [some (.ref 69), some (.int f1), some (.int x2), some (.int x3)] [] (false, 586, SH, s, τ)) ?_
  intro x2 x3 s H
  refine ax_iload_n (pc' := 35) dX12_kind_34 rfl rfl ?_
  refine ax_aload_n (pc' := 36) dX12_kind_35 rfl rfl ?_
  refine ax_getR (pc' := 39) dX12_kind_36 fl_X12_23 sh_69 rfl rfl rfl ?_
  refine ax_iconst (pc' := 40) (v := (1 : Int32)) dX12_kind_39 (by decide) rfl ?_
  refine ax_iald (pc' := 41) dX12_kind_40 sh_73 (ac_in (by decide)) rfl rfl ?_
  refine ax_icmp_ge (pc' := 44) (tgt := 83) dX12_kind_41 (by decide) rfl (fun hc41 => ?_) (fun hc41 => ?_)
  · have H := H.1 hc41
    refine ax_iload_n (pc' := 84) dX12_kind_83 rfl rfl ?_
    exact ax_iret dX12_kind_84 rfl rfl rfl ⟨_, _, rfl, rfl, H⟩
  · have H := H.2 hc41
    refine ax_iload_n (pc' := 45) dX12_kind_44 rfl rfl ?_
    refine ax_aload_n (pc' := 46) dX12_kind_45 rfl rfl ?_
    refine ax_getR (pc' := 49) dX12_kind_46 fl_X12_67 sh_69 rfl rfl rfl ?_
    refine ax_iload_n (pc' := 50) dX12_kind_49 rfl rfl ?_
    refine ay_S2 (pc' := 53) (ce' := 0) (sl' := 0) (mc2 := 0) (ms2 := 0) (I2 := i_X12_isThere) dX12_kind_50 ml_X12_273 rfl rfl rfl rfl rfl rfl rfl rfl (ac_M.imp (o_X12_isThere _ 556 x3 sh_556 rfl H) ?_)
    rintro _ _ ⟨r50, s50, rfl, rfl, H⟩
    refine ax_if_eq (pc' := 56) (tgt := 74) dX12_kind_53 (by decide) rfl (fun hc53 => ?_) (fun hc53 => ?_)
    · have H := H.1 hc53
      refine ax_iconst (pc' := 75) (v := (0 : Int32)) dX12_kind_74 (by decide) rfl ?_
      refine ax_ior (pc' := 76) dX12_kind_75 rfl ?_
      refine ax_istore_n (pc' := 77) dX12_kind_76 rfl rfl rfl ?_
      refine ax_iinc (pc' := 80) (v := (x3 + (1 : Int32))) dX12_kind_77 rfl rfl rfl rfl rfl ?_
      refine ax_goto (tgt := 34) dX12_kind_80 (by decide) ?_
      exact H
    · have H := H.2 hc53
      refine ax_aload_n (pc' := 57) dX12_kind_56 rfl rfl ?_
      refine ax_getR (pc' := 60) dX12_kind_57 fl_X12_37 sh_69 rfl rfl rfl ?_
      refine ax_iload_n (pc' := 61) dX12_kind_60 rfl rfl ?_
      obtain ⟨hj61, H⟩ := H
      refine ax_aald (pc' := 62) dX12_kind_61 sh_101 hj61 rfl rfl ?_
      refine ax_iconst (pc' := 63) (v := (2 : Int32)) dX12_kind_62 (by decide) rfl ?_
      refine ax_iald (pc' := 64) dX12_kind_63 (sh_r_102 _ (ac_lt hj61)) (ac_in (by decide)) (sh_n_102 _ (ac_lt hj61)) rfl ?_
      refine ax_iload_n (pc' := 65) dX12_kind_64 rfl rfl ?_
      refine ax_icmp_ne (pc' := 68) (tgt := 74) dX12_kind_65 (by decide) rfl (fun hc65 => ?_) (fun hc65 => ?_)
      · have H := H.1 hc65
        refine ax_iconst (pc' := 75) (v := (0 : Int32)) dX12_kind_74 (by decide) rfl ?_
        refine ax_ior (pc' := 76) dX12_kind_75 rfl ?_
        refine ax_istore_n (pc' := 77) dX12_kind_76 rfl rfl rfl ?_
        refine ax_iinc (pc' := 80) (v := (x3 + (1 : Int32))) dX12_kind_77 rfl rfl rfl rfl rfl ?_
        refine ax_goto (tgt := 34) dX12_kind_80 (by decide) ?_
        exact H
      · have H := H.2 hc65
        refine ax_iconst (pc' := 69) (v := (1 : Int32)) dX12_kind_68 (by decide) rfl ?_
        refine ax_iload_n (pc' := 70) dX12_kind_69 rfl rfl ?_
        refine ax_ishl (pc' := 71) dX12_kind_70 rfl ?_
        refine ax_goto (tgt := 75) dX12_kind_71 (by decide) ?_
        refine ax_ior (pc' := 76) dX12_kind_75 rfl ?_
        refine ax_istore_n (pc' := 77) dX12_kind_76 rfl rfl rfl ?_
        refine ax_iinc (pc' := 80) (v := (x3 + (1 : Int32))) dX12_kind_77 rfl rfl rfl rfl rfl ?_
        refine ax_goto (tgt := 34) dX12_kind_80 (by decide) ?_
        exact H
theorem o_X12_kind {g : ac_G} {τ : Nat → Nat → Int64} (d : Nat) (p1 : Int32) {Q : Int32 → ac_m → Prop} {s : ac_m} (H : w_X12_kind p1 Q s) : ac_M g i_X12_kind (d + 1) 0 0 [.ref 69, .int p1] (false, 586, SH, s, τ) (liI τ Q) := by
  refine ac_ofX (by decide +kernel) rfl rfl rfl ?_
  refine ax_aload_n (pc' := 1) dX12_kind_0 rfl rfl ?_
  refine ax_iconst (pc' := 2) (v := (0 : Int32)) dX12_kind_1 (by decide) rfl ?_
  refine ax_putI (pc' := 5) dX12_kind_2 fp_X12_104 sh_69 rfl rfl rfl ?_
  refine ax_aload_n (pc' := 6) dX12_kind_5 rfl rfl ?_
  refine ax_iload_n (pc' := 7) dX12_kind_6 rfl rfl ?_
  refine ax_iconst (pc' := 8) (v := (0 : Int32)) dX12_kind_7 (by decide) rfl ?_
  refine ax_iconst (pc' := 9) (v := (5 : Int32)) dX12_kind_8 (by decide) rfl ?_
  refine ay_S3 (pc' := 12) (ce' := 0) (sl' := 0) (mc2 := 0) (ms2 := 0) (I2 := i_X12_in) dX12_kind_9 ml_X12_138 rfl rfl rfl rfl rfl rfl rfl rfl (ac_M.imp (o_X12_in _ p1 (0 : Int32) (5 : Int32) H) ?_)
  rintro _ _ ⟨r9, s9, rfl, rfl, H⟩
  refine ax_if_ne (pc' := 15) (tgt := 19) dX12_kind_12 (by decide) rfl (fun hc12 => ?_) (fun hc12 => ?_)
  · have H := H.1 hc12
    refine ax_iconst (pc' := 20) (v := (0 : Int32)) dX12_kind_19 (by decide) rfl ?_
    refine ax_iconst (pc' := 21) (v := (1 : Int32)) dX12_kind_20 (by decide) rfl ?_
    refine ax_iconst (pc' := 22) (v := (1 : Int32)) dX12_kind_21 (by decide) rfl ?_
    refine ay_V3 (pc' := 25) (ce' := 0) (sl' := 0) (mc2 := 0) (ms2 := 0) (I2 := i_X12_bad) dX12_kind_22 ml_X12_183 sh_69 (by decide) rfl rfl rfl rfl rfl rfl rfl rfl rfl (ac_M.imp (o_X12_bad _ (0 : Int32) (1 : Int32) (1 : Int32) H) ?_)
    rintro _ _ ⟨r22, s22, rfl, rfl, H⟩
    refine ax_if_eq (pc' := 28) (tgt := 30) dX12_kind_25 (by decide) rfl (fun hc25 => ?_) (fun hc25 => ?_)
    · have H := H.1 hc25
      refine ax_iconst (pc' := 31) (v := (0 : Int32)) dX12_kind_30 (by decide) rfl ?_
      refine ax_istore_n (pc' := 32) dX12_kind_31 rfl rfl rfl ?_
      refine ax_iconst (pc' := 33) (v := (0 : Int32)) dX12_kind_32 (by decide) rfl ?_
      refine ax_istore_n (pc' := 34) dX12_kind_33 rfl rfl rfl ?_
      refine ol_X12_kind_34 d p1  _    H
    · have H := H.2 hc25
      refine ax_iconst (pc' := 29) (v := (0 : Int32)) dX12_kind_28 (by decide) rfl ?_
      exact ax_iret dX12_kind_29 rfl rfl rfl ⟨_, _, rfl, rfl, H⟩
  · have H := H.2 hc12
    refine ax_iconst (pc' := 16) (v := (1 : Int32)) dX12_kind_15 (by decide) rfl ?_
    refine ax_goto (tgt := 20) dX12_kind_16 (by decide) ?_
    refine ax_iconst (pc' := 21) (v := (1 : Int32)) dX12_kind_20 (by decide) rfl ?_
    refine ax_iconst (pc' := 22) (v := (1 : Int32)) dX12_kind_21 (by decide) rfl ?_
    refine ay_V3 (pc' := 25) (ce' := 0) (sl' := 0) (mc2 := 0) (ms2 := 0) (I2 := i_X12_bad) dX12_kind_22 ml_X12_183 sh_69 (by decide) rfl rfl rfl rfl rfl rfl rfl rfl rfl (ac_M.imp (o_X12_bad _ (1 : Int32) (1 : Int32) (1 : Int32) H) ?_)
    rintro _ _ ⟨r22, s22, rfl, rfl, H⟩
    refine ax_if_eq (pc' := 28) (tgt := 30) dX12_kind_25 (by decide) rfl (fun hc25 => ?_) (fun hc25 => ?_)
    · have H := H.1 hc25
      refine ax_iconst (pc' := 31) (v := (0 : Int32)) dX12_kind_30 (by decide) rfl ?_
      refine ax_istore_n (pc' := 32) dX12_kind_31 rfl rfl rfl ?_
      refine ax_iconst (pc' := 33) (v := (0 : Int32)) dX12_kind_32 (by decide) rfl ?_
      refine ax_istore_n (pc' := 34) dX12_kind_33 rfl rfl rfl ?_
      refine ol_X12_kind_34 d p1  _    H
    · have H := H.2 hc25
      refine ax_iconst (pc' := 29) (v := (0 : Int32)) dX12_kind_28 (by decide) rfl ?_
      exact ax_iret dX12_kind_29 rfl rfl rfl ⟨_, _, rfl, rfl, H⟩
theorem ol_X12_driven_9 {g : ac_G} {τ : Nat → Nat → Int64} (d : Nat)  {Q : Int32 → ac_m → Prop}    {x1 : Int32} {x2 : Int32} {s : ac_m} (H : l_X12_driven_9  Q    x1 x2 s) : ac_X g i_X12_driven (d + 1) 0 0 (liI τ Q) 0 0 9 [some (.ref 69), some (.int x1), some (.int x2)] [] (false, 586, SH, s, τ) := by
  refine H (fun x1 x2 s => ac_X g i_X12_driven (d + 1) 0 0 (liI τ Q) 0 0 9 [some (.ref 69), some (.int x1), some (.int x2)] [] (false, 586, SH, s, τ)) ?_
  intro x1 x2 s H
  refine ax_iload_n (pc' := 10) dX12_driven_9 rfl rfl ?_
  refine ax_aload_n (pc' := 11) dX12_driven_10 rfl rfl ?_
  refine ax_getR (pc' := 14) dX12_driven_11 fl_X12_23 sh_69 rfl rfl rfl ?_
  refine ax_iconst (pc' := 15) (v := (1 : Int32)) dX12_driven_14 (by decide) rfl ?_
  refine ax_iald (pc' := 16) dX12_driven_15 sh_73 (ac_in (by decide)) rfl rfl ?_
  refine ax_icmp_ge (pc' := 19) (tgt := 66) dX12_driven_16 (by decide) rfl (fun hc16 => ?_) (fun hc16 => ?_)
  · have H := H.1 hc16
    refine ax_iload_n (pc' := 67) dX12_driven_66 rfl rfl ?_
    exact ax_iret dX12_driven_67 rfl rfl rfl ⟨_, _, rfl, rfl, H⟩
  · have H := H.2 hc16
    refine ax_iload_n (pc' := 20) dX12_driven_19 rfl rfl ?_
    refine ax_aload_n (pc' := 21) dX12_driven_20 rfl rfl ?_
    refine ax_getR (pc' := 24) dX12_driven_21 fl_X12_67 sh_69 rfl rfl rfl ?_
    refine ax_iload_n (pc' := 25) dX12_driven_24 rfl rfl ?_
    refine ay_S2 (pc' := 28) (ce' := 0) (sl' := 0) (mc2 := 0) (ms2 := 0) (I2 := i_X12_isThere) dX12_driven_25 ml_X12_273 rfl rfl rfl rfl rfl rfl rfl rfl (ac_M.imp (o_X12_isThere _ 556 x2 sh_556 rfl H) ?_)
    rintro _ _ ⟨r25, s25, rfl, rfl, H⟩
    refine ax_if_eq (pc' := 31) (tgt := 57) dX12_driven_28 (by decide) rfl (fun hc28 => ?_) (fun hc28 => ?_)
    · have H := H.1 hc28
      refine ax_iconst (pc' := 58) (v := (0 : Int32)) dX12_driven_57 (by decide) rfl ?_
      refine ax_ior (pc' := 59) dX12_driven_58 rfl ?_
      refine ax_istore_n (pc' := 60) dX12_driven_59 rfl rfl rfl ?_
      refine ax_iinc (pc' := 63) (v := (x2 + (1 : Int32))) dX12_driven_60 rfl rfl rfl rfl rfl ?_
      refine ax_goto (tgt := 9) dX12_driven_63 (by decide) ?_
      exact H
    · have H := H.2 hc28
      refine ax_aload_n (pc' := 32) dX12_driven_31 rfl rfl ?_
      refine ax_getR (pc' := 35) dX12_driven_32 fl_X12_67 sh_69 rfl rfl rfl ?_
      refine ax_bipush (pc' := 37) (v := (26 : Int32)) dX12_driven_35 (by decide) rfl ?_
      refine ax_iload_n (pc' := 38) dX12_driven_37 rfl rfl ?_
      refine ax_iadd (pc' := 39) dX12_driven_38 rfl ?_
      obtain ⟨hj39, H⟩ := H
      refine ax_iald (pc' := 40) dX12_driven_39 sh_556 hj39 rfl rfl ?_
      refine ax_aload_n (pc' := 41) dX12_driven_40 rfl rfl ?_
      refine ax_getR (pc' := 44) dX12_driven_41 fl_X12_37 sh_69 rfl rfl rfl ?_
      refine ax_iload_n (pc' := 45) dX12_driven_44 rfl rfl ?_
      obtain ⟨hj45, H⟩ := H
      refine ax_aald (pc' := 46) dX12_driven_45 sh_101 hj45 rfl rfl ?_
      refine ax_iconst (pc' := 47) (v := (0 : Int32)) dX12_driven_46 (by decide) rfl ?_
      refine ax_iald (pc' := 48) dX12_driven_47 (sh_r_102 _ (ac_lt hj45)) (ac_in (by decide)) (sh_n_102 _ (ac_lt hj45)) rfl ?_
      refine ax_icmp_eq (pc' := 51) (tgt := 57) dX12_driven_48 (by decide) rfl (fun hc48 => ?_) (fun hc48 => ?_)
      · have H := H.1 hc48
        refine ax_iconst (pc' := 58) (v := (0 : Int32)) dX12_driven_57 (by decide) rfl ?_
        refine ax_ior (pc' := 59) dX12_driven_58 rfl ?_
        refine ax_istore_n (pc' := 60) dX12_driven_59 rfl rfl rfl ?_
        refine ax_iinc (pc' := 63) (v := (x2 + (1 : Int32))) dX12_driven_60 rfl rfl rfl rfl rfl ?_
        refine ax_goto (tgt := 9) dX12_driven_63 (by decide) ?_
        exact H
      · have H := H.2 hc48
        refine ax_iconst (pc' := 52) (v := (1 : Int32)) dX12_driven_51 (by decide) rfl ?_
        refine ax_iload_n (pc' := 53) dX12_driven_52 rfl rfl ?_
        refine ax_ishl (pc' := 54) dX12_driven_53 rfl ?_
        refine ax_goto (tgt := 58) dX12_driven_54 (by decide) ?_
        refine ax_ior (pc' := 59) dX12_driven_58 rfl ?_
        refine ax_istore_n (pc' := 60) dX12_driven_59 rfl rfl rfl ?_
        refine ax_iinc (pc' := 63) (v := (x2 + (1 : Int32))) dX12_driven_60 rfl rfl rfl rfl rfl ?_
        refine ax_goto (tgt := 9) dX12_driven_63 (by decide) ?_
        exact H
theorem o_X12_driven {g : ac_G} {τ : Nat → Nat → Int64} (d : Nat)  {Q : Int32 → ac_m → Prop} {s : ac_m} (H : w_X12_driven  Q s) : ac_M g i_X12_driven (d + 1) 0 0 [.ref 69] (false, 586, SH, s, τ) (liI τ Q) := by
  refine ac_ofX (by decide +kernel) rfl rfl rfl ?_
  refine ax_aload_n (pc' := 1) dX12_driven_0 rfl rfl ?_
  refine ax_iconst (pc' := 2) (v := (0 : Int32)) dX12_driven_1 (by decide) rfl ?_
  refine ax_putI (pc' := 5) dX12_driven_2 fp_X12_104 sh_69 rfl rfl rfl ?_
  refine ax_iconst (pc' := 6) (v := (0 : Int32)) dX12_driven_5 (by decide) rfl ?_
  refine ax_istore_n (pc' := 7) dX12_driven_6 rfl rfl rfl ?_
  refine ax_iconst (pc' := 8) (v := (0 : Int32)) dX12_driven_7 (by decide) rfl ?_
  refine ax_istore_n (pc' := 9) dX12_driven_8 rfl rfl rfl ?_
  refine ol_X12_driven_9 d       H
theorem o_X12_draw {g : ac_G} {τ : Nat → Nat → Int64} (d : Nat) (p1 : Int32) {Q : Int32 → ac_m → Prop} {s : ac_m} (H : w_X12_draw p1 Q s) : ac_M g i_X12_draw d 0 0 [.ref 69, .int p1] (false, 586, SH, s, τ) (liI τ Q) := by
  refine ac_ofX (by decide +kernel) rfl rfl rfl ?_
  refine ax_aload_n (pc' := 1) dX12_draw_0 rfl rfl ?_
  refine ax_aload_n (pc' := 2) dX12_draw_1 rfl rfl ?_
  refine ax_getI (pc' := 5) dX12_draw_2 fl_X12_404 sh_69 rfl rfl rfl ?_
  refine ax_ldcw (pc' := 8) dX12_draw_5 ck_X12_407 rfl ?_
  refine ax_imul (pc' := 9) dX12_draw_8 rfl ?_
  refine ax_sipush (pc' := 12) (v := (12345 : Int32)) dX12_draw_9 (by decide) rfl ?_
  refine ax_iadd (pc' := 13) dX12_draw_12 rfl ?_
  refine ax_putI (pc' := 16) dX12_draw_13 fp_X12_404 sh_69 rfl rfl rfl ?_
  refine ax_aload_n (pc' := 17) dX12_draw_16 rfl rfl ?_
  refine ax_getI (pc' := 20) dX12_draw_17 fl_X12_404 sh_69 rfl rfl rfl ?_
  refine ax_bipush (pc' := 22) (v := (16 : Int32)) dX12_draw_20 (by decide) rfl ?_
  refine ax_ishr (pc' := 23) dX12_draw_22 rfl ?_
  refine ax_sipush (pc' := 26) (v := (32767 : Int32)) dX12_draw_23 (by decide) rfl ?_
  refine ax_iand (pc' := 27) dX12_draw_26 rfl ?_
  refine ax_iload_n (pc' := 28) dX12_draw_27 rfl rfl ?_
  obtain ⟨hz, H⟩ := H
  refine ax_irem (pc' := 29) dX12_draw_28 hz rfl ?_
  exact ax_iret dX12_draw_29 rfl rfl rfl ⟨_, _, rfl, rfl, H⟩
theorem ol_X12_decadeBy_19 {g : ac_G} {τ : Nat → Nat → Int64} (d : Nat) (p1 : Int32) (p2 : Int32) (p3 : Int32) {Q : ac_m → Prop}  (f2 : Int32) (f3 : Int32)  {x4 : Int32} {s : ac_m} (H : l_X12_decadeBy_19 p1 p2 p3 Q  f2 f3  x4 s) : ac_X g i_X12_decadeBy (d + 6) 0 0 (liV τ Q) 0 0 19 [some (.ref 69), none, some (.int f2), some (.int f3), some (.int x4), none, none] [] (false, 586, SH, s, τ) := by
  refine H (fun x4 s => ac_X g i_X12_decadeBy (d + 6) 0 0 (liV τ Q) 0 0 19 [some (.ref 69), none, some (.int f2), some (.int f3), some (.int x4), none, none] [] (false, 586, SH, s, τ)) ?_
  intro x4 s H
  refine ax_iload (pc' := 21) dX12_decadeBy_19 rfl rfl ?_
  refine ax_iload_n (pc' := 22) dX12_decadeBy_21 rfl rfl ?_
  refine ax_icmp_ge (pc' := 25) (tgt := 125) dX12_decadeBy_22 (by decide) rfl (fun hc22 => ?_) (fun hc22 => ?_)
  · have H := H.1 hc22
    exact ax_vret dX12_decadeBy_125 rfl rfl rfl ⟨_, rfl, rfl, H⟩
  · have H := H.2 hc22
    refine ax_aload_n (pc' := 26) dX12_decadeBy_25 rfl rfl ?_
    refine ax_getR (pc' := 29) dX12_decadeBy_26 fl_X12_23 sh_69 rfl rfl rfl ?_
    refine ax_iconst (pc' := 30) (v := (1 : Int32)) dX12_decadeBy_29 (by decide) rfl ?_
    refine ax_iald (pc' := 31) dX12_decadeBy_30 sh_73 (ac_in (by decide)) rfl rfl ?_
    refine ax_if_le (pc' := 34) (tgt := 111) dX12_decadeBy_31 (by decide) rfl (fun hc31 => ?_) (fun hc31 => ?_)
    · have H := H.1 hc31
      refine ax_aload_n (pc' := 112) dX12_decadeBy_111 rfl rfl ?_
      refine ax_aload_n (pc' := 113) dX12_decadeBy_112 rfl rfl ?_
      refine ax_getR (pc' := 116) dX12_decadeBy_113 fl_X12_70 sh_69 rfl rfl rfl ?_
      refine ay_V1 (pc' := 119) (ce' := 0) (sl' := 0) (mc2 := 0) (ms2 := 0) (I2 := i_X12_dayEnds) dX12_decadeBy_116 ml_X12_314 sh_69 (by decide) rfl rfl rfl rfl rfl rfl rfl rfl rfl (ac_M.imp (o_X12_dayEnds _ 557 sh_557 rfl H) ?_)
      rintro _ _ ⟨s116, rfl, rfl, H⟩
      refine ax_iinc (pc' := 122) (v := (x4 + (1 : Int32))) dX12_decadeBy_119 rfl rfl rfl rfl rfl ?_
      refine ax_goto (tgt := 19) dX12_decadeBy_122 (by decide) ?_
      exact H
    · have H := H.2 hc31
      refine ax_aload_n (pc' := 35) dX12_decadeBy_34 rfl rfl ?_
      refine ax_aload_n (pc' := 36) dX12_decadeBy_35 rfl rfl ?_
      refine ax_getR (pc' := 39) dX12_decadeBy_36 fl_X12_23 sh_69 rfl rfl rfl ?_
      refine ax_iconst (pc' := 40) (v := (1 : Int32)) dX12_decadeBy_39 (by decide) rfl ?_
      refine ax_iald (pc' := 41) dX12_decadeBy_40 sh_73 (ac_in (by decide)) rfl rfl ?_
      refine ay_V1 (pc' := 44) (ce' := 0) (sl' := 0) (mc2 := 0) (ms2 := 0) (I2 := i_X12_draw) dX12_decadeBy_41 ml_X12_408 sh_69 (by decide) rfl rfl rfl rfl rfl rfl rfl rfl rfl (ac_M.imp (o_X12_draw _ (s 73 (1 : Int32).toNatClampNeg) H) ?_)
      rintro _ _ ⟨r41, s41, rfl, rfl, H⟩
      refine ax_istore (pc' := 46) dX12_decadeBy_44 rfl rfl rfl ?_
      refine ax_aload_n (pc' := 47) dX12_decadeBy_46 rfl rfl ?_
      refine ax_getR (pc' := 50) dX12_decadeBy_47 fl_X12_70 sh_69 rfl rfl rfl ?_
      refine ax_iload (pc' := 52) dX12_decadeBy_50 rfl rfl ?_
      refine ay_S2 (pc' := 55) (ce' := 0) (sl' := 0) (mc2 := 0) (ms2 := 0) (I2 := i_X12_asks) dX12_decadeBy_52 ml_X12_300 rfl rfl rfl rfl rfl rfl rfl rfl (ac_M.imp (o_X12_asks _ 557 r41 sh_557 rfl H) ?_)
      rintro _ _ ⟨r52, s52, rfl, rfl, H⟩
      refine ax_if_ne (pc' := 58) (tgt := 69) dX12_decadeBy_55 (by decide) rfl (fun hc55 => ?_) (fun hc55 => ?_)
      · have H := H.1 hc55
        refine ax_aload_n (pc' := 70) dX12_decadeBy_69 rfl rfl ?_
        refine ax_bipush (pc' := 72) (v := (16 : Int32)) dX12_decadeBy_70 (by decide) rfl ?_
        refine ay_V1 (pc' := 75) (ce' := 0) (sl' := 0) (mc2 := 0) (ms2 := 0) (I2 := i_X12_draw) dX12_decadeBy_72 ml_X12_408 sh_69 (by decide) rfl rfl rfl rfl rfl rfl rfl rfl rfl (ac_M.imp (o_X12_draw _ (16 : Int32) H) ?_)
        rintro _ _ ⟨r72, s72, rfl, rfl, H⟩
        refine ax_iload_n (pc' := 76) dX12_decadeBy_75 rfl rfl ?_
        refine ax_icmp_ge (pc' := 79) (tgt := 111) dX12_decadeBy_76 (by decide) rfl (fun hc76 => ?_) (fun hc76 => ?_)
        · have H := H.1 hc76
          refine ax_aload_n (pc' := 112) dX12_decadeBy_111 rfl rfl ?_
          refine ax_aload_n (pc' := 113) dX12_decadeBy_112 rfl rfl ?_
          refine ax_getR (pc' := 116) dX12_decadeBy_113 fl_X12_70 sh_69 rfl rfl rfl ?_
          refine ay_V1 (pc' := 119) (ce' := 0) (sl' := 0) (mc2 := 0) (ms2 := 0) (I2 := i_X12_dayEnds) dX12_decadeBy_116 ml_X12_314 sh_69 (by decide) rfl rfl rfl rfl rfl rfl rfl rfl rfl (ac_M.imp (o_X12_dayEnds _ 557 sh_557 rfl H) ?_)
          rintro _ _ ⟨s116, rfl, rfl, H⟩
          refine ax_iinc (pc' := 122) (v := (x4 + (1 : Int32))) dX12_decadeBy_119 rfl rfl rfl rfl rfl ?_
          refine ax_goto (tgt := 19) dX12_decadeBy_122 (by decide) ?_
          refine ax_drop 5 rfl ?_
          exact H
        · have H := H.2 hc76
          refine ax_aload_n (pc' := 80) dX12_decadeBy_79 rfl rfl ?_
          refine ax_aload_n (pc' := 81) dX12_decadeBy_80 rfl rfl ?_
          refine ax_getR (pc' := 84) dX12_decadeBy_81 fl_X12_23 sh_69 rfl rfl rfl ?_
          refine ax_iconst (pc' := 85) (v := (1 : Int32)) dX12_decadeBy_84 (by decide) rfl ?_
          refine ax_iald (pc' := 86) dX12_decadeBy_85 sh_73 (ac_in (by decide)) rfl rfl ?_
          refine ay_V1 (pc' := 89) (ce' := 0) (sl' := 0) (mc2 := 0) (ms2 := 0) (I2 := i_X12_draw) dX12_decadeBy_86 ml_X12_408 sh_69 (by decide) rfl rfl rfl rfl rfl rfl rfl rfl rfl (ac_M.imp (o_X12_draw _ (s72 73 (1 : Int32).toNatClampNeg) H) ?_)
          rintro _ _ ⟨r86, s86, rfl, rfl, H⟩
          refine ax_istore (pc' := 91) dX12_decadeBy_89 rfl rfl rfl ?_
          refine ax_aload_n (pc' := 92) dX12_decadeBy_91 rfl rfl ?_
          refine ax_getR (pc' := 95) dX12_decadeBy_92 fl_X12_70 sh_69 rfl rfl rfl ?_
          refine ax_iload (pc' := 97) dX12_decadeBy_95 rfl rfl ?_
          refine ax_aload_n (pc' := 98) dX12_decadeBy_97 rfl rfl ?_
          refine ax_aload_n (pc' := 99) dX12_decadeBy_98 rfl rfl ?_
          refine ax_getR (pc' := 102) dX12_decadeBy_99 fl_X12_23 sh_69 rfl rfl rfl ?_
          refine ax_iconst (pc' := 103) (v := (0 : Int32)) dX12_decadeBy_102 (by decide) rfl ?_
          refine ax_iald (pc' := 104) dX12_decadeBy_103 sh_73 (ac_in (by decide)) rfl rfl ?_
          refine ay_V1 (pc' := 107) (ce' := 0) (sl' := 0) (mc2 := 0) (ms2 := 0) (I2 := i_X12_draw) dX12_decadeBy_104 ml_X12_408 sh_69 (by decide) rfl rfl rfl rfl rfl rfl rfl rfl rfl (ac_M.imp (o_X12_draw _ (s86 73 (0 : Int32).toNatClampNeg) H) ?_)
          rintro _ _ ⟨r104, s104, rfl, rfl, H⟩
          refine ay_S3 (pc' := 110) (ce' := 0) (sl' := 0) (mc2 := 0) (ms2 := 0) (I2 := i_X12_drives) dX12_decadeBy_107 ml_X12_303 rfl rfl rfl rfl rfl rfl rfl rfl (ac_M.imp (o_X12_drives _ 557 r86 r104 sh_557 rfl H) ?_)
          rintro _ _ ⟨r107, s107, rfl, rfl, H⟩
          refine ax_pop (pc' := 111) dX12_decadeBy_110 rfl rfl ?_
          refine ax_aload_n (pc' := 112) dX12_decadeBy_111 rfl rfl ?_
          refine ax_aload_n (pc' := 113) dX12_decadeBy_112 rfl rfl ?_
          refine ax_getR (pc' := 116) dX12_decadeBy_113 fl_X12_70 sh_69 rfl rfl rfl ?_
          refine ay_V1 (pc' := 119) (ce' := 0) (sl' := 0) (mc2 := 0) (ms2 := 0) (I2 := i_X12_dayEnds) dX12_decadeBy_116 ml_X12_314 sh_69 (by decide) rfl rfl rfl rfl rfl rfl rfl rfl rfl (ac_M.imp (o_X12_dayEnds _ 557 sh_557 rfl H) ?_)
          rintro _ _ ⟨s116, rfl, rfl, H⟩
          refine ax_iinc (pc' := 122) (v := (x4 + (1 : Int32))) dX12_decadeBy_119 rfl rfl rfl rfl rfl ?_
          refine ax_goto (tgt := 19) dX12_decadeBy_122 (by decide) ?_
          refine ax_drop 5 rfl ?_
          refine ax_drop 6 rfl ?_
          exact H
      · have H := H.2 hc55
        refine ax_aload_n (pc' := 59) dX12_decadeBy_58 rfl rfl ?_
        refine ax_aload_n (pc' := 60) dX12_decadeBy_59 rfl rfl ?_
        refine ax_getR (pc' := 63) dX12_decadeBy_60 fl_X12_70 sh_69 rfl rfl rfl ?_
        refine ax_iload (pc' := 65) dX12_decadeBy_63 rfl rfl ?_
        refine ay_V2 (pc' := 68) (ce' := 0) (sl' := 0) (mc2 := 0) (ms2 := 0) (I2 := i_X12_doesAgain) dX12_decadeBy_65 ml_X12_311 sh_69 (by decide) rfl rfl rfl rfl rfl rfl rfl rfl rfl (ac_M.imp (o_X12_doesAgain _ 557 r41 sh_557 rfl H) ?_)
        rintro _ _ ⟨r65, s65, rfl, rfl, H⟩
        refine ax_pop (pc' := 69) dX12_decadeBy_68 rfl rfl ?_
        refine ax_aload_n (pc' := 70) dX12_decadeBy_69 rfl rfl ?_
        refine ax_bipush (pc' := 72) (v := (16 : Int32)) dX12_decadeBy_70 (by decide) rfl ?_
        refine ay_V1 (pc' := 75) (ce' := 0) (sl' := 0) (mc2 := 0) (ms2 := 0) (I2 := i_X12_draw) dX12_decadeBy_72 ml_X12_408 sh_69 (by decide) rfl rfl rfl rfl rfl rfl rfl rfl rfl (ac_M.imp (o_X12_draw _ (16 : Int32) H) ?_)
        rintro _ _ ⟨r72, s72, rfl, rfl, H⟩
        refine ax_iload_n (pc' := 76) dX12_decadeBy_75 rfl rfl ?_
        refine ax_icmp_ge (pc' := 79) (tgt := 111) dX12_decadeBy_76 (by decide) rfl (fun hc76 => ?_) (fun hc76 => ?_)
        · have H := H.1 hc76
          refine ax_aload_n (pc' := 112) dX12_decadeBy_111 rfl rfl ?_
          refine ax_aload_n (pc' := 113) dX12_decadeBy_112 rfl rfl ?_
          refine ax_getR (pc' := 116) dX12_decadeBy_113 fl_X12_70 sh_69 rfl rfl rfl ?_
          refine ay_V1 (pc' := 119) (ce' := 0) (sl' := 0) (mc2 := 0) (ms2 := 0) (I2 := i_X12_dayEnds) dX12_decadeBy_116 ml_X12_314 sh_69 (by decide) rfl rfl rfl rfl rfl rfl rfl rfl rfl (ac_M.imp (o_X12_dayEnds _ 557 sh_557 rfl H) ?_)
          rintro _ _ ⟨s116, rfl, rfl, H⟩
          refine ax_iinc (pc' := 122) (v := (x4 + (1 : Int32))) dX12_decadeBy_119 rfl rfl rfl rfl rfl ?_
          refine ax_goto (tgt := 19) dX12_decadeBy_122 (by decide) ?_
          refine ax_drop 5 rfl ?_
          exact H
        · have H := H.2 hc76
          refine ax_aload_n (pc' := 80) dX12_decadeBy_79 rfl rfl ?_
          refine ax_aload_n (pc' := 81) dX12_decadeBy_80 rfl rfl ?_
          refine ax_getR (pc' := 84) dX12_decadeBy_81 fl_X12_23 sh_69 rfl rfl rfl ?_
          refine ax_iconst (pc' := 85) (v := (1 : Int32)) dX12_decadeBy_84 (by decide) rfl ?_
          refine ax_iald (pc' := 86) dX12_decadeBy_85 sh_73 (ac_in (by decide)) rfl rfl ?_
          refine ay_V1 (pc' := 89) (ce' := 0) (sl' := 0) (mc2 := 0) (ms2 := 0) (I2 := i_X12_draw) dX12_decadeBy_86 ml_X12_408 sh_69 (by decide) rfl rfl rfl rfl rfl rfl rfl rfl rfl (ac_M.imp (o_X12_draw _ (s72 73 (1 : Int32).toNatClampNeg) H) ?_)
          rintro _ _ ⟨r86, s86, rfl, rfl, H⟩
          refine ax_istore (pc' := 91) dX12_decadeBy_89 rfl rfl rfl ?_
          refine ax_aload_n (pc' := 92) dX12_decadeBy_91 rfl rfl ?_
          refine ax_getR (pc' := 95) dX12_decadeBy_92 fl_X12_70 sh_69 rfl rfl rfl ?_
          refine ax_iload (pc' := 97) dX12_decadeBy_95 rfl rfl ?_
          refine ax_aload_n (pc' := 98) dX12_decadeBy_97 rfl rfl ?_
          refine ax_aload_n (pc' := 99) dX12_decadeBy_98 rfl rfl ?_
          refine ax_getR (pc' := 102) dX12_decadeBy_99 fl_X12_23 sh_69 rfl rfl rfl ?_
          refine ax_iconst (pc' := 103) (v := (0 : Int32)) dX12_decadeBy_102 (by decide) rfl ?_
          refine ax_iald (pc' := 104) dX12_decadeBy_103 sh_73 (ac_in (by decide)) rfl rfl ?_
          refine ay_V1 (pc' := 107) (ce' := 0) (sl' := 0) (mc2 := 0) (ms2 := 0) (I2 := i_X12_draw) dX12_decadeBy_104 ml_X12_408 sh_69 (by decide) rfl rfl rfl rfl rfl rfl rfl rfl rfl (ac_M.imp (o_X12_draw _ (s86 73 (0 : Int32).toNatClampNeg) H) ?_)
          rintro _ _ ⟨r104, s104, rfl, rfl, H⟩
          refine ay_S3 (pc' := 110) (ce' := 0) (sl' := 0) (mc2 := 0) (ms2 := 0) (I2 := i_X12_drives) dX12_decadeBy_107 ml_X12_303 rfl rfl rfl rfl rfl rfl rfl rfl (ac_M.imp (o_X12_drives _ 557 r86 r104 sh_557 rfl H) ?_)
          rintro _ _ ⟨r107, s107, rfl, rfl, H⟩
          refine ax_pop (pc' := 111) dX12_decadeBy_110 rfl rfl ?_
          refine ax_aload_n (pc' := 112) dX12_decadeBy_111 rfl rfl ?_
          refine ax_aload_n (pc' := 113) dX12_decadeBy_112 rfl rfl ?_
          refine ax_getR (pc' := 116) dX12_decadeBy_113 fl_X12_70 sh_69 rfl rfl rfl ?_
          refine ay_V1 (pc' := 119) (ce' := 0) (sl' := 0) (mc2 := 0) (ms2 := 0) (I2 := i_X12_dayEnds) dX12_decadeBy_116 ml_X12_314 sh_69 (by decide) rfl rfl rfl rfl rfl rfl rfl rfl rfl (ac_M.imp (o_X12_dayEnds _ 557 sh_557 rfl H) ?_)
          rintro _ _ ⟨s116, rfl, rfl, H⟩
          refine ax_iinc (pc' := 122) (v := (x4 + (1 : Int32))) dX12_decadeBy_119 rfl rfl rfl rfl rfl ?_
          refine ax_goto (tgt := 19) dX12_decadeBy_122 (by decide) ?_
          refine ax_drop 5 rfl ?_
          refine ax_drop 6 rfl ?_
          exact H
theorem o_X12_decadeBy {g : ac_G} {τ : Nat → Nat → Int64} (d : Nat) (p1 : Int32) (p2 : Int32) (p3 : Int32) {Q : ac_m → Prop} {s : ac_m} (H : w_X12_decadeBy p1 p2 p3 Q s) : ac_M g i_X12_decadeBy (d + 6) 0 0 [.ref 69, .int p1, .int p2, .int p3] (false, 586, SH, s, τ) (liV τ Q) := by
  refine ac_ofX (by decide +kernel) rfl rfl rfl ?_
  refine ax_aload_n (pc' := 1) dX12_decadeBy_0 rfl rfl ?_
  refine ax_getR (pc' := 4) dX12_decadeBy_1 fl_X12_67 sh_69 rfl rfl rfl ?_
  refine ax_aload_n (pc' := 5) dX12_decadeBy_4 rfl rfl ?_
  refine ax_getR (pc' := 8) dX12_decadeBy_5 fl_X12_70 sh_69 rfl rfl rfl ?_
  refine ay_S2 (pc' := 11) (ce' := 0) (sl' := 0) (mc2 := 0) (ms2 := 0) (I2 := i_X12_copies) dX12_decadeBy_8 ml_X12_331 rfl rfl rfl rfl rfl rfl rfl rfl (ac_M.imp (o_X12_copies _ 556 557 sh_556 rfl sh_557 rfl H) ?_)
  rintro _ _ ⟨s8, rfl, rfl, H⟩
  refine ax_aload_n (pc' := 12) dX12_decadeBy_11 rfl rfl ?_
  refine ax_iload_n (pc' := 13) dX12_decadeBy_12 rfl rfl ?_
  refine ax_putI (pc' := 16) dX12_decadeBy_13 fp_X12_404 sh_69 rfl rfl rfl ?_
  refine ax_iconst (pc' := 17) (v := (0 : Int32)) dX12_decadeBy_16 (by decide) rfl ?_
  refine ax_istore (pc' := 19) dX12_decadeBy_17 rfl rfl rfl ?_
  refine ax_drop 1 rfl ?_
  refine ol_X12_decadeBy_19 d p1 p2 p3  _ _    H
