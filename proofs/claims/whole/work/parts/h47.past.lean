theorem ol_X2_sumParts_9 {g : ac_G} {τ : Nat → Nat → Int64} (d : Nat) (p1 : Int32) {Q : ac_m → Prop}  (f1 : Int32)  {x2 : Int32} {s : ac_m} (H : l_X2_sumParts_9 p1 Q  f1  x2 s) : ac_X g i_X2_sumParts (d + 1) 0 0 (liV τ Q) 0 0 9 [some (.ref 62), some (.int f1), some (.int x2), none] [] (false, 586, SH, s, τ) := by
  refine H (fun x2 s => ac_X g i_X2_sumParts (d + 1) 0 0 (liV τ Q) 0 0 9 [some (.ref 62), some (.int f1), some (.int x2), none] [] (false, 586, SH, s, τ)) ?_
  intro x2 s H
  refine ax_iload_n (pc' := 10) dX2_sumParts_9 rfl rfl ?_
  refine ax_sipush (pc' := 13) (v := (4096 : Int32)) dX2_sumParts_10 (by decide) rfl ?_
  refine ax_icmp_ge (pc' := 16) (tgt := 69) dX2_sumParts_13 (by decide) rfl (fun hc13 => ?_) (fun hc13 => ?_)
  · have H := H.1 hc13
    exact ax_vret dX2_sumParts_69 rfl rfl rfl ⟨_, rfl, rfl, H⟩
  · have H := H.2 hc13
    refine ax_iload_n (pc' := 17) dX2_sumParts_16 rfl rfl ?_
    refine ax_iload_n (pc' := 18) dX2_sumParts_17 rfl rfl ?_
    refine ax_iconst (pc' := 19) (v := (-1 : Int32)) dX2_sumParts_18 (by decide) rfl ?_
    refine ax_ixor (pc' := 20) dX2_sumParts_19 rfl ?_
    refine ax_iand (pc' := 21) dX2_sumParts_20 rfl ?_
    refine ax_if_ne (pc' := 24) (tgt := 63) dX2_sumParts_21 (by decide) rfl (fun hc21 => ?_) (fun hc21 => ?_)
    · have H := H.1 hc21
      refine ax_iinc (pc' := 66) (v := (x2 + (1 : Int32))) dX2_sumParts_63 rfl rfl rfl rfl rfl ?_
      refine ax_goto (tgt := 9) dX2_sumParts_66 (by decide) ?_
      exact H
    · have H := H.2 hc21
      refine ax_iload_n (pc' := 25) dX2_sumParts_24 rfl rfl ?_
      refine ax_iload_n (pc' := 26) dX2_sumParts_25 rfl rfl ?_
      refine ax_ineg (pc' := 27) dX2_sumParts_26 rfl ?_
      refine ax_iand (pc' := 28) dX2_sumParts_27 rfl ?_
      refine ax_iconst (pc' := 29) (v := (1 : Int32)) dX2_sumParts_28 (by decide) rfl ?_
      refine ax_isub (pc' := 30) dX2_sumParts_29 rfl ?_
      refine ay_S1 (pc' := 33) (ce' := 0) (sl' := 0) (mc2 := 0) (ms2 := 0) (I2 := i_J6_bitCount_0f7a4) dX2_sumParts_30 ml_X2_33 rfl rfl rfl rfl rfl rfl rfl rfl (ac_M.imp (o_J6_bitCount_0f7a4 _ ((x2 &&& (-x2)) - (1 : Int32)) H) ?_)
      rintro _ _ ⟨r30, s30, rfl, rfl, H⟩
      refine ax_istore_n (pc' := 34) dX2_sumParts_33 rfl rfl rfl ?_
      refine ax_iload_n (pc' := 35) dX2_sumParts_34 rfl rfl ?_
      refine ax_bipush (pc' := 37) (v := (12 : Int32)) dX2_sumParts_35 (by decide) rfl ?_
      refine ax_icmp_ge (pc' := 40) (tgt := 63) dX2_sumParts_37 (by decide) rfl (fun hc37 => ?_) (fun hc37 => ?_)
      · have H := H.1 hc37
        refine ax_iinc (pc' := 66) (v := (x2 + (1 : Int32))) dX2_sumParts_63 rfl rfl rfl rfl rfl ?_
        refine ax_goto (tgt := 9) dX2_sumParts_66 (by decide) ?_
        refine ax_drop 3 rfl ?_
        exact H
      · have H := H.2 hc37
        refine ax_aload_n (pc' := 41) dX2_sumParts_40 rfl rfl ?_
        refine ax_getR (pc' := 44) dX2_sumParts_41 fl_X2_15 sh_62 rfl rfl rfl ?_
        refine ax_iload_n (pc' := 45) dX2_sumParts_44 rfl rfl ?_
        refine ax_aload_n (pc' := 46) dX2_sumParts_45 rfl rfl ?_
        refine ax_getR (pc' := 49) dX2_sumParts_46 fl_X2_15 sh_62 rfl rfl rfl ?_
        refine ax_iload_n (pc' := 50) dX2_sumParts_49 rfl rfl ?_
        refine ax_iload_n (pc' := 51) dX2_sumParts_50 rfl rfl ?_
        refine ax_iconst (pc' := 52) (v := (1 : Int32)) dX2_sumParts_51 (by decide) rfl ?_
        refine ax_isub (pc' := 53) dX2_sumParts_52 rfl ?_
        refine ax_iand (pc' := 54) dX2_sumParts_53 rfl ?_
        obtain ⟨hj54, H⟩ := H
        refine ax_iald (pc' := 55) dX2_sumParts_54 sh_64 hj54 rfl rfl ?_
        refine ax_aload_n (pc' := 56) dX2_sumParts_55 rfl rfl ?_
        refine ax_getR (pc' := 59) dX2_sumParts_56 fl_X2_9 sh_62 rfl rfl rfl ?_
        refine ax_iload_n (pc' := 60) dX2_sumParts_59 rfl rfl ?_
        obtain ⟨hj60, H⟩ := H
        refine ax_iald (pc' := 61) dX2_sumParts_60 sh_63 hj60 rfl rfl ?_
        refine ax_iadd (pc' := 62) dX2_sumParts_61 rfl ?_
        obtain ⟨hj62, H⟩ := H
        refine ax_iast (pc' := 63) dX2_sumParts_62 sh_64 hj62 rfl rfl ?_
        refine ax_iinc (pc' := 66) (v := (x2 + (1 : Int32))) dX2_sumParts_63 rfl rfl rfl rfl rfl ?_
        refine ax_goto (tgt := 9) dX2_sumParts_66 (by decide) ?_
        refine ax_drop 3 rfl ?_
        exact H
theorem o_X2_sumParts {g : ac_G} {τ : Nat → Nat → Int64} (d : Nat) (p1 : Int32) {Q : ac_m → Prop} {s : ac_m} (H : w_X2_sumParts p1 Q s) : ac_M g i_X2_sumParts (d + 1) 0 0 [.ref 62, .int p1] (false, 586, SH, s, τ) (liV τ Q) := by
  refine ac_ofX (by decide +kernel) rfl rfl rfl ?_
  refine ax_aload_n (pc' := 1) dX2_sumParts_0 rfl rfl ?_
  refine ax_getR (pc' := 4) dX2_sumParts_1 fl_X2_15 sh_62 rfl rfl rfl ?_
  refine ax_iconst (pc' := 5) (v := (0 : Int32)) dX2_sumParts_4 (by decide) rfl ?_
  refine ax_iconst (pc' := 6) (v := (0 : Int32)) dX2_sumParts_5 (by decide) rfl ?_
  refine ax_iast (pc' := 7) dX2_sumParts_6 sh_64 (ac_in (by decide)) rfl rfl ?_
  refine ax_iconst (pc' := 8) (v := (1 : Int32)) dX2_sumParts_7 (by decide) rfl ?_
  refine ax_istore_n (pc' := 9) dX2_sumParts_8 rfl rfl rfl ?_
  refine ol_X2_sumParts_9 d p1  _    H
theorem ol_X2_digitOf_4 {g : ac_G} {τ : Nat → Nat → Int64} (d : Nat) (p1 : Int32) {Q : Int32 → ac_m → Prop}  (f0 : Int32)  {x1 : Int32} {x2 : Int32} {s : ac_m} (H : l_X2_digitOf_4 p1 Q  f0  x1 x2 s) : ac_X g i_X2_digitOf d 0 0 (liI τ Q) 0 0 4 [some (.int f0), some (.int x1), some (.int x2)] [] (false, 586, SH, s, τ) := by
  refine H (fun x1 x2 s => ac_X g i_X2_digitOf d 0 0 (liI τ Q) 0 0 4 [some (.int f0), some (.int x1), some (.int x2)] [] (false, 586, SH, s, τ)) ?_
  intro x1 x2 s H
  refine ax_iload_n (pc' := 5) dX2_digitOf_4 rfl rfl ?_
  refine ax_iload_n (pc' := 6) dX2_digitOf_5 rfl rfl ?_
  refine ax_icmp_ge (pc' := 9) (tgt := 26) dX2_digitOf_6 (by decide) rfl (fun hc6 => ?_) (fun hc6 => ?_)
  · have H := H.1 hc6
    refine ax_iload_n (pc' := 27) dX2_digitOf_26 rfl rfl ?_
    exact ax_iret dX2_digitOf_27 rfl rfl rfl ⟨_, _, rfl, rfl, H⟩
  · have H := H.2 hc6
    refine ax_iload_n (pc' := 10) dX2_digitOf_9 rfl rfl ?_
    refine ax_bipush (pc' := 12) (v := (6 : Int32)) dX2_digitOf_10 (by decide) rfl ?_
    refine ax_icmp_ge (pc' := 15) (tgt := 26) dX2_digitOf_12 (by decide) rfl (fun hc12 => ?_) (fun hc12 => ?_)
    · have H := H.1 hc12
      refine ax_iload_n (pc' := 27) dX2_digitOf_26 rfl rfl ?_
      exact ax_iret dX2_digitOf_27 rfl rfl rfl ⟨_, _, rfl, rfl, H⟩
    · have H := H.2 hc12
      refine ax_iload_n (pc' := 16) dX2_digitOf_15 rfl rfl ?_
      refine ax_bipush (pc' := 18) (v := (25 : Int32)) dX2_digitOf_16 (by decide) rfl ?_
      refine ax_imul (pc' := 19) dX2_digitOf_18 rfl ?_
      refine ax_istore_n (pc' := 20) dX2_digitOf_19 rfl rfl rfl ?_
      refine ax_iinc (pc' := 23) (v := (x2 + (1 : Int32))) dX2_digitOf_20 rfl rfl rfl rfl rfl ?_
      refine ax_goto (tgt := 4) dX2_digitOf_23 (by decide) ?_
      exact H
theorem o_X2_digitOf {g : ac_G} {τ : Nat → Nat → Int64} (d : Nat) (p1 : Int32) {Q : Int32 → ac_m → Prop} {s : ac_m} (H : w_X2_digitOf p1 Q s) : ac_M g i_X2_digitOf d 0 0 [.int p1] (false, 586, SH, s, τ) (liI τ Q) := by
  refine ac_ofX (by decide +kernel) rfl rfl rfl ?_
  refine ax_iconst (pc' := 1) (v := (1 : Int32)) dX2_digitOf_0 (by decide) rfl ?_
  refine ax_istore_n (pc' := 2) dX2_digitOf_1 rfl rfl rfl ?_
  refine ax_iconst (pc' := 3) (v := (0 : Int32)) dX2_digitOf_2 (by decide) rfl ?_
  refine ax_istore_n (pc' := 4) dX2_digitOf_3 rfl rfl rfl ?_
  refine ol_X2_digitOf_4 d p1  _    H
theorem ol_X2_mostCancelling_62 {g : ac_G} {τ : Nat → Nat → Int64} (d : Nat)  {Q : Int32 → ac_m → Prop}  (f1 : Int32)  {x2 : Int32} {x3 : Int32} {s : ac_m} (H : l_X2_mostCancelling_62  Q  f1  x2 x3 s) : ac_X g i_X2_mostCancelling (d + 2) 0 0 (liI τ Q) 0 0 62 [some (.ref 62), some (.int f1), some (.int x2), some (.int x3)] [] (false, 586, SH, s, τ) := by
  refine H (fun x2 x3 s => ac_X g i_X2_mostCancelling (d + 2) 0 0 (liI τ Q) 0 0 62 [some (.ref 62), some (.int f1), some (.int x2), some (.int x3)] [] (false, 586, SH, s, τ)) ?_
  intro x2 x3 s H
  refine ax_iload_n (pc' := 63) dX2_mostCancelling_62 rfl rfl ?_
  refine ax_sipush (pc' := 66) (v := (4096 : Int32)) dX2_mostCancelling_63 (by decide) rfl ?_
  refine ax_icmp_ge (pc' := 69) (tgt := 105) dX2_mostCancelling_66 (by decide) rfl (fun hc66 => ?_) (fun hc66 => ?_)
  · have H := H.1 hc66
    refine ax_iload_n (pc' := 106) dX2_mostCancelling_105 rfl rfl ?_
    exact ax_iret dX2_mostCancelling_106 rfl rfl rfl ⟨_, _, rfl, rfl, H⟩
  · have H := H.2 hc66
    refine ax_iload_n (pc' := 70) dX2_mostCancelling_69 rfl rfl ?_
    refine ax_iload_n (pc' := 71) dX2_mostCancelling_70 rfl rfl ?_
    refine ax_iconst (pc' := 72) (v := (-1 : Int32)) dX2_mostCancelling_71 (by decide) rfl ?_
    refine ax_ixor (pc' := 73) dX2_mostCancelling_72 rfl ?_
    refine ax_iand (pc' := 74) dX2_mostCancelling_73 rfl ?_
    refine ax_if_ne (pc' := 77) (tgt := 99) dX2_mostCancelling_74 (by decide) rfl (fun hc74 => ?_) (fun hc74 => ?_)
    · have H := H.1 hc74
      refine ax_iinc (pc' := 102) (v := (x3 + (1 : Int32))) dX2_mostCancelling_99 rfl rfl rfl rfl rfl ?_
      refine ax_goto (tgt := 62) dX2_mostCancelling_102 (by decide) ?_
      exact H
    · have H := H.2 hc74
      refine ax_aload_n (pc' := 78) dX2_mostCancelling_77 rfl rfl ?_
      refine ax_getR (pc' := 81) dX2_mostCancelling_78 fl_X2_15 sh_62 rfl rfl rfl ?_
      refine ax_iload_n (pc' := 82) dX2_mostCancelling_81 rfl rfl ?_
      obtain ⟨hj82, H⟩ := H
      refine ax_iald (pc' := 83) dX2_mostCancelling_82 sh_64 hj82 rfl rfl ?_
      refine ax_if_ne (pc' := 86) (tgt := 99) dX2_mostCancelling_83 (by decide) rfl (fun hc83 => ?_) (fun hc83 => ?_)
      · have H := H.1 hc83
        refine ax_iinc (pc' := 102) (v := (x3 + (1 : Int32))) dX2_mostCancelling_99 rfl rfl rfl rfl rfl ?_
        refine ax_goto (tgt := 62) dX2_mostCancelling_102 (by decide) ?_
        exact H
      · have H := H.2 hc83
        refine ax_iload_n (pc' := 87) dX2_mostCancelling_86 rfl rfl ?_
        refine ay_S1 (pc' := 90) (ce' := 0) (sl' := 0) (mc2 := 0) (ms2 := 0) (I2 := i_J6_bitCount_0f7a4) dX2_mostCancelling_87 ml_X2_33 rfl rfl rfl rfl rfl rfl rfl rfl (ac_M.imp (o_J6_bitCount_0f7a4 _ x3 H) ?_)
        rintro _ _ ⟨r87, s87, rfl, rfl, H⟩
        refine ax_iload_n (pc' := 91) dX2_mostCancelling_90 rfl rfl ?_
        refine ay_S1 (pc' := 94) (ce' := 0) (sl' := 0) (mc2 := 0) (ms2 := 0) (I2 := i_J6_bitCount_0f7a4) dX2_mostCancelling_91 ml_X2_33 rfl rfl rfl rfl rfl rfl rfl rfl (ac_M.imp (o_J6_bitCount_0f7a4 _ x2 H) ?_)
        rintro _ _ ⟨r91, s91, rfl, rfl, H⟩
        refine ax_icmp_le (pc' := 97) (tgt := 99) dX2_mostCancelling_94 (by decide) rfl (fun hc94 => ?_) (fun hc94 => ?_)
        · have H := H.1 hc94
          refine ax_iinc (pc' := 102) (v := (x3 + (1 : Int32))) dX2_mostCancelling_99 rfl rfl rfl rfl rfl ?_
          refine ax_goto (tgt := 62) dX2_mostCancelling_102 (by decide) ?_
          exact H
        · have H := H.2 hc94
          refine ax_iload_n (pc' := 98) dX2_mostCancelling_97 rfl rfl ?_
          refine ax_istore_n (pc' := 99) dX2_mostCancelling_98 rfl rfl rfl ?_
          refine ax_iinc (pc' := 102) (v := (x3 + (1 : Int32))) dX2_mostCancelling_99 rfl rfl rfl rfl rfl ?_
          refine ax_goto (tgt := 62) dX2_mostCancelling_102 (by decide) ?_
          exact H
theorem ol_X2_mostCancelling_10 {g : ac_G} {τ : Nat → Nat → Int64} (d : Nat)  {Q : Int32 → ac_m → Prop}  (f1 : Int32)  {x2 : Int32} {s : ac_m} (H : l_X2_mostCancelling_10  Q  f1  x2 s) : ac_X g i_X2_mostCancelling (d + 2) 0 0 (liI τ Q) 0 0 10 [some (.ref 62), some (.int f1), some (.int x2), none] [] (false, 586, SH, s, τ) := by
  refine H (fun x2 s => ac_X g i_X2_mostCancelling (d + 2) 0 0 (liI τ Q) 0 0 10 [some (.ref 62), some (.int f1), some (.int x2), none] [] (false, 586, SH, s, τ)) ?_
  intro x2 s H
  refine ax_iload_n (pc' := 11) dX2_mostCancelling_10 rfl rfl ?_
  refine ax_bipush (pc' := 13) (v := (12 : Int32)) dX2_mostCancelling_11 (by decide) rfl ?_
  refine ax_icmp_ge (pc' := 16) (tgt := 53) dX2_mostCancelling_13 (by decide) rfl (fun hc13 => ?_) (fun hc13 => ?_)
  · have H := H.1 hc13
    refine ax_aload_n (pc' := 54) dX2_mostCancelling_53 rfl rfl ?_
    refine ax_iload_n (pc' := 55) dX2_mostCancelling_54 rfl rfl ?_
    refine ay_V1 (pc' := 58) (ce' := 0) (sl' := 0) (mc2 := 0) (ms2 := 0) (I2 := i_X2_sumParts) dX2_mostCancelling_55 ml_X2_56 sh_62 (by decide) rfl rfl rfl rfl rfl rfl rfl rfl rfl (ac_M.imp (o_X2_sumParts _ f1 H) ?_)
    rintro _ _ ⟨s55, rfl, rfl, H⟩
    refine ax_iconst (pc' := 59) (v := (0 : Int32)) dX2_mostCancelling_58 (by decide) rfl ?_
    refine ax_istore_n (pc' := 60) dX2_mostCancelling_59 rfl rfl rfl ?_
    refine ax_iconst (pc' := 61) (v := (1 : Int32)) dX2_mostCancelling_60 (by decide) rfl ?_
    refine ax_istore_n (pc' := 62) dX2_mostCancelling_61 rfl rfl rfl ?_
    refine ol_X2_mostCancelling_62 d   _    H
  · have H := H.2 hc13
    refine ax_aload_n (pc' := 17) dX2_mostCancelling_16 rfl rfl ?_
    refine ax_getR (pc' := 20) dX2_mostCancelling_17 fl_X2_9 sh_62 rfl rfl rfl ?_
    refine ax_iload_n (pc' := 21) dX2_mostCancelling_20 rfl rfl ?_
    refine ax_aload_n (pc' := 22) dX2_mostCancelling_21 rfl rfl ?_
    refine ax_getR (pc' := 25) dX2_mostCancelling_22 fl_X2_25 sh_62 rfl rfl rfl ?_
    refine ax_getR (pc' := 28) dX2_mostCancelling_25 fl_X2_45 sh_3 rfl rfl rfl ?_
    refine ax_iload_n (pc' := 29) dX2_mostCancelling_28 rfl rfl ?_
    obtain ⟨hj29, H⟩ := H
    refine ax_iald (pc' := 30) dX2_mostCancelling_29 sh_6 hj29 rfl rfl ?_
    refine ay_S1 (pc' := 33) (ce' := 0) (sl' := 0) (mc2 := 0) (ms2 := 0) (I2 := i_X2_digitOf) dX2_mostCancelling_30 ml_X2_50 rfl rfl rfl rfl rfl rfl rfl rfl (ac_M.imp (o_X2_digitOf _ (s 6 x2.toNatClampNeg) H) ?_)
    rintro _ _ ⟨r30, s30, rfl, rfl, H⟩
    refine ax_aload_n (pc' := 34) dX2_mostCancelling_33 rfl rfl ?_
    refine ax_getR (pc' := 37) dX2_mostCancelling_34 fl_X2_25 sh_62 rfl rfl rfl ?_
    refine ax_getR (pc' := 40) dX2_mostCancelling_37 fl_X2_53 sh_3 rfl rfl rfl ?_
    refine ax_iload_n (pc' := 41) dX2_mostCancelling_40 rfl rfl ?_
    obtain ⟨hj41, H⟩ := H
    refine ax_iald (pc' := 42) dX2_mostCancelling_41 sh_7 hj41 rfl rfl ?_
    refine ay_S1 (pc' := 45) (ce' := 0) (sl' := 0) (mc2 := 0) (ms2 := 0) (I2 := i_X2_digitOf) dX2_mostCancelling_42 ml_X2_50 rfl rfl rfl rfl rfl rfl rfl rfl (ac_M.imp (o_X2_digitOf _ (s30 7 x2.toNatClampNeg) H) ?_)
    rintro _ _ ⟨r42, s42, rfl, rfl, H⟩
    refine ax_isub (pc' := 46) dX2_mostCancelling_45 rfl ?_
    obtain ⟨hj46, H⟩ := H
    refine ax_iast (pc' := 47) dX2_mostCancelling_46 sh_63 hj46 rfl rfl ?_
    refine ax_iinc (pc' := 50) (v := (x2 + (1 : Int32))) dX2_mostCancelling_47 rfl rfl rfl rfl rfl ?_
    refine ax_goto (tgt := 10) dX2_mostCancelling_50 (by decide) ?_
    exact H
theorem o_X2_mostCancelling {g : ac_G} {τ : Nat → Nat → Int64} (d : Nat)  {Q : Int32 → ac_m → Prop} {s : ac_m} (H : w_X2_mostCancelling  Q s) : ac_M g i_X2_mostCancelling (d + 2) 0 0 [.ref 62] (false, 586, SH, s, τ) (liI τ Q) := by
  refine ac_ofX (by decide +kernel) rfl rfl rfl ?_
  refine ax_aload_n (pc' := 1) dX2_mostCancelling_0 rfl rfl ?_
  refine ax_getR (pc' := 4) dX2_mostCancelling_1 fl_X2_29 sh_62 rfl rfl rfl ?_
  refine ay_V0 (pc' := 7) (ce' := 0) (sl' := 0) (mc2 := 0) (ms2 := 0) (I2 := i_X5_thereBits) dX2_mostCancelling_4 ml_X2_39 sh_42 (by decide) rfl rfl rfl rfl rfl rfl rfl rfl rfl (ac_M.imp (o_X5_thereBits _ 42 is_now H) ?_)
  rintro _ _ ⟨r4, s4, rfl, rfl, H⟩
  refine ax_istore_n (pc' := 8) dX2_mostCancelling_7 rfl rfl rfl ?_
  refine ax_iconst (pc' := 9) (v := (0 : Int32)) dX2_mostCancelling_8 (by decide) rfl ?_
  refine ax_istore_n (pc' := 10) dX2_mostCancelling_9 rfl rfl rfl ?_
  refine ol_X2_mostCancelling_10 d   _    H
theorem o_X2_isBetter {g : ac_G} {τ : Nat → Nat → Int64} (d : Nat) (p1 : Int32) (p2 : Int32) {Q : Int32 → ac_m → Prop} {s : ac_m} (H : w_X2_isBetter p1 p2 Q s) : ac_M g i_X2_isBetter (d + 1) 0 0 [.ref 62, .int p1, .int p2] (false, 586, SH, s, τ) (liI τ Q) := by
  refine ac_ofX (by decide +kernel) rfl rfl rfl ?_
  refine ax_iload_n (pc' := 1) dX2_isBetter_0 rfl rfl ?_
  refine ax_if_lt (pc' := 4) (tgt := 22) dX2_isBetter_1 (by decide) rfl (fun hc1 => ?_) (fun hc1 => ?_)
  · have H := H.1 hc1
    refine ax_iconst (pc' := 23) (v := (0 : Int32)) dX2_isBetter_22 (by decide) rfl ?_
    exact ax_zret dX2_isBetter_23 rfl rfl rfl rfl ⟨_, _, rfl, rfl, H⟩
  · have H := H.2 hc1
    refine ax_iload_n (pc' := 5) dX2_isBetter_4 rfl rfl ?_
    refine ax_sipush (pc' := 8) (v := (4096 : Int32)) dX2_isBetter_5 (by decide) rfl ?_
    refine ax_icmp_ge (pc' := 11) (tgt := 22) dX2_isBetter_8 (by decide) rfl (fun hc8 => ?_) (fun hc8 => ?_)
    · have H := H.1 hc8
      refine ax_iconst (pc' := 23) (v := (0 : Int32)) dX2_isBetter_22 (by decide) rfl ?_
      exact ax_zret dX2_isBetter_23 rfl rfl rfl rfl ⟨_, _, rfl, rfl, H⟩
    · have H := H.2 hc8
      refine ax_iload_n (pc' := 12) dX2_isBetter_11 rfl rfl ?_
      refine ax_if_lt (pc' := 15) (tgt := 22) dX2_isBetter_12 (by decide) rfl (fun hc12 => ?_) (fun hc12 => ?_)
      · have H := H.1 hc12
        refine ax_iconst (pc' := 23) (v := (0 : Int32)) dX2_isBetter_22 (by decide) rfl ?_
        exact ax_zret dX2_isBetter_23 rfl rfl rfl rfl ⟨_, _, rfl, rfl, H⟩
      · have H := H.2 hc12
        refine ax_iload_n (pc' := 16) dX2_isBetter_15 rfl rfl ?_
        refine ax_sipush (pc' := 19) (v := (4096 : Int32)) dX2_isBetter_16 (by decide) rfl ?_
        refine ax_icmp_lt (pc' := 22) (tgt := 24) dX2_isBetter_19 (by decide) rfl (fun hc19 => ?_) (fun hc19 => ?_)
        · have H := H.1 hc19
          refine ax_aload_n (pc' := 25) dX2_isBetter_24 rfl rfl ?_
          refine ax_getR (pc' := 28) dX2_isBetter_25 fl_X2_15 sh_62 rfl rfl rfl ?_
          refine ax_iload_n (pc' := 29) dX2_isBetter_28 rfl rfl ?_
          obtain ⟨hj29, H⟩ := H
          refine ax_iald (pc' := 30) dX2_isBetter_29 sh_64 hj29 rfl rfl ?_
          refine ax_sipush (pc' := 33) (v := (1024 : Int32)) dX2_isBetter_30 (by decide) rfl ?_
          refine ax_idiv (pc' := 34) dX2_isBetter_33 (by decide) rfl ?_
          refine ax_aload_n (pc' := 35) dX2_isBetter_34 rfl rfl ?_
          refine ax_getR (pc' := 38) dX2_isBetter_35 fl_X2_15 sh_62 rfl rfl rfl ?_
          refine ax_iload_n (pc' := 39) dX2_isBetter_38 rfl rfl ?_
          obtain ⟨hj39, H⟩ := H
          refine ax_iald (pc' := 40) dX2_isBetter_39 sh_64 hj39 rfl rfl ?_
          refine ax_sipush (pc' := 43) (v := (1024 : Int32)) dX2_isBetter_40 (by decide) rfl ?_
          refine ax_idiv (pc' := 44) dX2_isBetter_43 (by decide) rfl ?_
          refine ax_isub (pc' := 45) dX2_isBetter_44 rfl ?_
          refine ax_topi (fun y45 hy45 => ?_)
          have H := H y45 hy45
          refine ax_istore_n (pc' := 46) dX2_isBetter_45 rfl rfl rfl ?_
          refine ax_iload_n (pc' := 47) dX2_isBetter_46 rfl rfl ?_
          refine ax_if_gt (pc' := 50) (tgt := 65) dX2_isBetter_47 (by decide) rfl (fun hc47 => ?_) (fun hc47 => ?_)
          · have H := H.1 hc47
            refine ax_iconst (pc' := 66) (v := (1 : Int32)) dX2_isBetter_65 (by decide) rfl ?_
            refine ax_goto (tgt := 70) dX2_isBetter_66 (by decide) ?_
            exact ax_zret dX2_isBetter_70 rfl rfl rfl rfl ⟨_, _, rfl, rfl, H⟩
          · have H := H.2 hc47
            refine ax_iload_n (pc' := 51) dX2_isBetter_50 rfl rfl ?_
            refine ax_if_ne (pc' := 54) (tgt := 69) dX2_isBetter_51 (by decide) rfl (fun hc51 => ?_) (fun hc51 => ?_)
            · have H := H.1 hc51
              refine ax_iconst (pc' := 70) (v := (0 : Int32)) dX2_isBetter_69 (by decide) rfl ?_
              exact ax_zret dX2_isBetter_70 rfl rfl rfl rfl ⟨_, _, rfl, rfl, H⟩
            · have H := H.2 hc51
              refine ax_iload_n (pc' := 55) dX2_isBetter_54 rfl rfl ?_
              refine ay_S1 (pc' := 58) (ce' := 0) (sl' := 0) (mc2 := 0) (ms2 := 0) (I2 := i_J6_bitCount_0f7a4) dX2_isBetter_55 ml_X2_33 rfl rfl rfl rfl rfl rfl rfl rfl (ac_M.imp (o_J6_bitCount_0f7a4 _ p1 H) ?_)
              rintro _ _ ⟨r55, s55, rfl, rfl, H⟩
              refine ax_iload_n (pc' := 59) dX2_isBetter_58 rfl rfl ?_
              refine ay_S1 (pc' := 62) (ce' := 0) (sl' := 0) (mc2 := 0) (ms2 := 0) (I2 := i_J6_bitCount_0f7a4) dX2_isBetter_59 ml_X2_33 rfl rfl rfl rfl rfl rfl rfl rfl (ac_M.imp (o_J6_bitCount_0f7a4 _ p2 H) ?_)
              rintro _ _ ⟨r59, s59, rfl, rfl, H⟩
              refine ax_icmp_ge (pc' := 65) (tgt := 69) dX2_isBetter_62 (by decide) rfl (fun hc62 => ?_) (fun hc62 => ?_)
              · have H := H.1 hc62
                refine ax_iconst (pc' := 70) (v := (0 : Int32)) dX2_isBetter_69 (by decide) rfl ?_
                exact ax_zret dX2_isBetter_70 rfl rfl rfl rfl ⟨_, _, rfl, rfl, H⟩
              · have H := H.2 hc62
                refine ax_iconst (pc' := 66) (v := (1 : Int32)) dX2_isBetter_65 (by decide) rfl ?_
                refine ax_goto (tgt := 70) dX2_isBetter_66 (by decide) ?_
                exact ax_zret dX2_isBetter_70 rfl rfl rfl rfl ⟨_, _, rfl, rfl, H⟩
        · have H := H.2 hc19
          refine ax_iconst (pc' := 23) (v := (0 : Int32)) dX2_isBetter_22 (by decide) rfl ?_
          exact ax_zret dX2_isBetter_23 rfl rfl rfl rfl ⟨_, _, rfl, rfl, H⟩
theorem ol_X2_heaviestFed_68 {g : ac_G} {τ : Nat → Nat → Int64} (d : Nat) (p1 : Int32) {Q : Int32 → ac_m → Prop}  (f1 : Int32) (f2 : Int32)  {x3 : Int32} {x4 : Int32} {s : ac_m} (H : l_X2_heaviestFed_68 p1 Q  f1 f2  x3 x4 s) : ac_X g i_X2_heaviestFed (d + 4) 0 0 (liI τ Q) 0 0 68 [some (.ref 62), some (.int f1), some (.int f2), some (.int x3), some (.int x4)] [] (false, 586, SH, s, τ) := by
  refine H (fun x3 x4 s => ac_X g i_X2_heaviestFed (d + 4) 0 0 (liI τ Q) 0 0 68 [some (.ref 62), some (.int f1), some (.int f2), some (.int x3), some (.int x4)] [] (false, 586, SH, s, τ)) ?_
  intro x3 x4 s H
  refine ax_iload (pc' := 70) dX2_heaviestFed_68 rfl rfl ?_
  refine ax_sipush (pc' := 73) (v := (4096 : Int32)) dX2_heaviestFed_70 (by decide) rfl ?_
  refine ax_icmp_ge (pc' := 76) (tgt := 119) dX2_heaviestFed_73 (by decide) rfl (fun hc73 => ?_) (fun hc73 => ?_)
  · have H := H.1 hc73
    refine ax_iload_n (pc' := 120) dX2_heaviestFed_119 rfl rfl ?_
    exact ax_iret dX2_heaviestFed_120 rfl rfl rfl ⟨_, _, rfl, rfl, H⟩
  · have H := H.2 hc73
    refine ax_iload (pc' := 78) dX2_heaviestFed_76 rfl rfl ?_
    refine ax_iload_n (pc' := 79) dX2_heaviestFed_78 rfl rfl ?_
    refine ax_iconst (pc' := 80) (v := (-1 : Int32)) dX2_heaviestFed_79 (by decide) rfl ?_
    refine ax_ixor (pc' := 81) dX2_heaviestFed_80 rfl ?_
    refine ax_iand (pc' := 82) dX2_heaviestFed_81 rfl ?_
    refine ax_if_ne (pc' := 85) (tgt := 113) dX2_heaviestFed_82 (by decide) rfl (fun hc82 => ?_) (fun hc82 => ?_)
    · have H := H.1 hc82
      refine ax_iinc (pc' := 116) (v := (x4 + (1 : Int32))) dX2_heaviestFed_113 rfl rfl rfl rfl rfl ?_
      refine ax_goto (tgt := 68) dX2_heaviestFed_116 (by decide) ?_
      exact H
    · have H := H.2 hc82
      refine ax_aload_n (pc' := 86) dX2_heaviestFed_85 rfl rfl ?_
      refine ax_getR (pc' := 89) dX2_heaviestFed_86 fl_X2_15 sh_62 rfl rfl rfl ?_
      refine ax_iload (pc' := 91) dX2_heaviestFed_89 rfl rfl ?_
      obtain ⟨hj91, H⟩ := H
      refine ax_iald (pc' := 92) dX2_heaviestFed_91 sh_64 hj91 rfl rfl ?_
      refine ax_sipush (pc' := 95) (v := (1024 : Int32)) dX2_heaviestFed_92 (by decide) rfl ?_
      refine ax_irem (pc' := 96) dX2_heaviestFed_95 (by decide) rfl ?_
      refine ax_iload_n (pc' := 97) dX2_heaviestFed_96 rfl rfl ?_
      refine ax_icmp_gt (pc' := 100) (tgt := 113) dX2_heaviestFed_97 (by decide) rfl (fun hc97 => ?_) (fun hc97 => ?_)
      · have H := H.1 hc97
        refine ax_iinc (pc' := 116) (v := (x4 + (1 : Int32))) dX2_heaviestFed_113 rfl rfl rfl rfl rfl ?_
        refine ax_goto (tgt := 68) dX2_heaviestFed_116 (by decide) ?_
        exact H
      · have H := H.2 hc97
        refine ax_aload_n (pc' := 101) dX2_heaviestFed_100 rfl rfl ?_
        refine ax_iload (pc' := 103) dX2_heaviestFed_101 rfl rfl ?_
        refine ax_iload_n (pc' := 104) dX2_heaviestFed_103 rfl rfl ?_
        refine ay_V2 (pc' := 107) (ce' := 0) (sl' := 0) (mc2 := 0) (ms2 := 0) (I2 := i_X2_isBetter) dX2_heaviestFed_104 ml_X2_69 sh_62 (by decide) rfl rfl rfl rfl rfl rfl rfl rfl rfl (ac_M.imp (o_X2_isBetter _ x4 x3 H) ?_)
        rintro _ _ ⟨r104, s104, rfl, rfl, H⟩
        refine ax_if_eq (pc' := 110) (tgt := 113) dX2_heaviestFed_107 (by decide) rfl (fun hc107 => ?_) (fun hc107 => ?_)
        · have H := H.1 hc107
          refine ax_iinc (pc' := 116) (v := (x4 + (1 : Int32))) dX2_heaviestFed_113 rfl rfl rfl rfl rfl ?_
          refine ax_goto (tgt := 68) dX2_heaviestFed_116 (by decide) ?_
          exact H
        · have H := H.2 hc107
          refine ax_iload (pc' := 112) dX2_heaviestFed_110 rfl rfl ?_
          refine ax_istore_n (pc' := 113) dX2_heaviestFed_112 rfl rfl rfl ?_
          refine ax_iinc (pc' := 116) (v := (x4 + (1 : Int32))) dX2_heaviestFed_113 rfl rfl rfl rfl rfl ?_
          refine ax_goto (tgt := 68) dX2_heaviestFed_116 (by decide) ?_
          exact H
theorem ol_X2_heaviestFed_17 {g : ac_G} {τ : Nat → Nat → Int64} (d : Nat) (p1 : Int32) {Q : Int32 → ac_m → Prop}  (f1 : Int32) (f2 : Int32)  {x3 : Int32} {s : ac_m} (H : l_X2_heaviestFed_17 p1 Q  f1 f2  x3 s) : ac_X g i_X2_heaviestFed (d + 4) 0 0 (liI τ Q) 0 0 17 [some (.ref 62), some (.int f1), some (.int f2), some (.int x3), none] [] (false, 586, SH, s, τ) := by
  refine H (fun x3 s => ac_X g i_X2_heaviestFed (d + 4) 0 0 (liI τ Q) 0 0 17 [some (.ref 62), some (.int f1), some (.int f2), some (.int x3), none] [] (false, 586, SH, s, τ)) ?_
  intro x3 s H
  refine ax_iload_n (pc' := 18) dX2_heaviestFed_17 rfl rfl ?_
  refine ax_bipush (pc' := 20) (v := (12 : Int32)) dX2_heaviestFed_18 (by decide) rfl ?_
  refine ax_icmp_ge (pc' := 23) (tgt := 58) dX2_heaviestFed_20 (by decide) rfl (fun hc20 => ?_) (fun hc20 => ?_)
  · have H := H.1 hc20
    refine ax_aload_n (pc' := 59) dX2_heaviestFed_58 rfl rfl ?_
    refine ax_iload_n (pc' := 60) dX2_heaviestFed_59 rfl rfl ?_
    refine ay_V1 (pc' := 63) (ce' := 0) (sl' := 0) (mc2 := 0) (ms2 := 0) (I2 := i_X2_sumParts) dX2_heaviestFed_60 ml_X2_56 sh_62 (by decide) rfl rfl rfl rfl rfl rfl rfl rfl rfl (ac_M.imp (o_X2_sumParts _ f2 H) ?_)
    rintro _ _ ⟨s60, rfl, rfl, H⟩
    refine ax_iconst (pc' := 64) (v := (0 : Int32)) dX2_heaviestFed_63 (by decide) rfl ?_
    refine ax_istore_n (pc' := 65) dX2_heaviestFed_64 rfl rfl rfl ?_
    refine ax_iconst (pc' := 66) (v := (1 : Int32)) dX2_heaviestFed_65 (by decide) rfl ?_
    refine ax_istore (pc' := 68) dX2_heaviestFed_66 rfl rfl rfl ?_
    refine ol_X2_heaviestFed_68 d p1  _ _    H
  · have H := H.2 hc20
    refine ax_aload_n (pc' := 24) dX2_heaviestFed_23 rfl rfl ?_
    refine ax_getR (pc' := 27) dX2_heaviestFed_24 fl_X2_9 sh_62 rfl rfl rfl ?_
    refine ax_iload_n (pc' := 28) dX2_heaviestFed_27 rfl rfl ?_
    refine ax_aload_n (pc' := 29) dX2_heaviestFed_28 rfl rfl ?_
    refine ax_getR (pc' := 32) dX2_heaviestFed_29 fl_X2_29 sh_62 rfl rfl rfl ?_
    refine ax_getR (pc' := 35) dX2_heaviestFed_32 fl_X2_63 sh_42 rfl rfl rfl ?_
    refine ax_iload_n (pc' := 36) dX2_heaviestFed_35 rfl rfl ?_
    obtain ⟨hj36, H⟩ := H
    refine ax_iald (pc' := 37) dX2_heaviestFed_36 sh_44 hj36 rfl rfl ?_
    refine ax_sipush (pc' := 40) (v := (1024 : Int32)) dX2_heaviestFed_37 (by decide) rfl ?_
    refine ax_imul (pc' := 41) dX2_heaviestFed_40 rfl ?_
    refine ax_aload_n (pc' := 42) dX2_heaviestFed_41 rfl rfl ?_
    refine ax_getR (pc' := 45) dX2_heaviestFed_42 fl_X2_29 sh_62 rfl rfl rfl ?_
    refine ax_getR (pc' := 48) dX2_heaviestFed_45 fl_X2_66 sh_42 rfl rfl rfl ?_
    refine ax_iload_n (pc' := 49) dX2_heaviestFed_48 rfl rfl ?_
    obtain ⟨hj49, H⟩ := H
    refine ax_iald (pc' := 50) dX2_heaviestFed_49 sh_49 hj49 rfl rfl ?_
    refine ax_iadd (pc' := 51) dX2_heaviestFed_50 rfl ?_
    obtain ⟨hj51, H⟩ := H
    refine ax_iast (pc' := 52) dX2_heaviestFed_51 sh_63 hj51 rfl rfl ?_
    refine ax_iinc (pc' := 55) (v := (x3 + (1 : Int32))) dX2_heaviestFed_52 rfl rfl rfl rfl rfl ?_
    refine ax_goto (tgt := 17) dX2_heaviestFed_55 (by decide) ?_
    exact H
theorem o_X2_heaviestFed {g : ac_G} {τ : Nat → Nat → Int64} (d : Nat) (p1 : Int32) {Q : Int32 → ac_m → Prop} {s : ac_m} (H : w_X2_heaviestFed p1 Q s) : ac_M g i_X2_heaviestFed (d + 4) 0 0 [.ref 62, .int p1] (false, 586, SH, s, τ) (liI τ Q) := by
  refine ac_ofX (by decide +kernel) rfl rfl rfl ?_
  refine ax_aload_n (pc' := 1) dX2_heaviestFed_0 rfl rfl ?_
  refine ax_getR (pc' := 4) dX2_heaviestFed_1 fl_X2_29 sh_62 rfl rfl rfl ?_
  refine ay_V0 (pc' := 7) (ce' := 0) (sl' := 0) (mc2 := 0) (ms2 := 0) (I2 := i_X5_thereBits) dX2_heaviestFed_4 ml_X2_39 sh_42 (by decide) rfl rfl rfl rfl rfl rfl rfl rfl rfl (ac_M.imp (o_X5_thereBits _ 42 is_now H) ?_)
  rintro _ _ ⟨r4, s4, rfl, rfl, H⟩
  refine ax_istore_n (pc' := 8) dX2_heaviestFed_7 rfl rfl rfl ?_
  refine ax_aload_n (pc' := 9) dX2_heaviestFed_8 rfl rfl ?_
  refine ax_getR (pc' := 12) dX2_heaviestFed_9 fl_X2_29 sh_62 rfl rfl rfl ?_
  refine ay_V0 (pc' := 15) (ce' := 0) (sl' := 0) (mc2 := 0) (ms2 := 0) (I2 := i_X5_reckonAppetites) dX2_heaviestFed_12 ml_X2_60 sh_42 (by decide) rfl rfl rfl rfl rfl rfl rfl rfl rfl (ac_M.imp (o_X5_reckonAppetites _ 42 is_now H) ?_)
  rintro _ _ ⟨s12, rfl, rfl, H⟩
  refine ax_iconst (pc' := 16) (v := (0 : Int32)) dX2_heaviestFed_15 (by decide) rfl ?_
  refine ax_istore_n (pc' := 17) dX2_heaviestFed_16 rfl rfl rfl ?_
  refine ol_X2_heaviestFed_17 d p1  _ _    H
theorem o_X2_notePayment {g : ac_G} {τ : Nat → Nat → Int64} (d : Nat) (p1 : Int32) {Q : ac_m → Prop} {s : ac_m} (H : w_X2_notePayment p1 Q s) : ac_M g i_X2_notePayment (d + 1) 0 0 [.ref 62, .int p1] (false, 586, SH, s, τ) (liV τ Q) := by
  refine ac_ofX (by decide +kernel) rfl rfl rfl ?_
  refine ax_aload_n (pc' := 1) dX2_notePayment_0 rfl rfl ?_
  refine ax_dup (pc' := 2) dX2_notePayment_1 rfl rfl ?_
  refine ax_getI (pc' := 5) dX2_notePayment_2 fl_X2_18 sh_62 rfl rfl rfl ?_
  refine ax_iconst (pc' := 6) (v := (1 : Int32)) dX2_notePayment_5 (by decide) rfl ?_
  refine ax_iadd (pc' := 7) dX2_notePayment_6 rfl ?_
  refine ax_putI (pc' := 10) dX2_notePayment_7 fp_X2_18 sh_62 rfl rfl rfl ?_
  refine ax_aload_n (pc' := 11) dX2_notePayment_10 rfl rfl ?_
  refine ax_getI (pc' := 14) dX2_notePayment_11 fl_X2_22 sh_62 rfl rfl rfl ?_
  refine ax_iconst (pc' := 15) (v := (-1 : Int32)) dX2_notePayment_14 (by decide) rfl ?_
  refine ax_icmp_eq (pc' := 18) (tgt := 32) dX2_notePayment_15 (by decide) rfl (fun hc15 => ?_) (fun hc15 => ?_)
  · have H := H.1 hc15
    refine ax_aload_n (pc' := 33) dX2_notePayment_32 rfl rfl ?_
    refine ax_iload_n (pc' := 34) dX2_notePayment_33 rfl rfl ?_
    refine ax_putI (pc' := 37) dX2_notePayment_34 fp_X2_22 sh_62 rfl rfl rfl ?_
    exact ax_vret dX2_notePayment_37 rfl rfl rfl ⟨_, rfl, rfl, H⟩
  · have H := H.2 hc15
    refine ax_iload_n (pc' := 19) dX2_notePayment_18 rfl rfl ?_
    refine ay_S1 (pc' := 22) (ce' := 0) (sl' := 0) (mc2 := 0) (ms2 := 0) (I2 := i_J6_bitCount_0f7a4) dX2_notePayment_19 ml_X2_33 rfl rfl rfl rfl rfl rfl rfl rfl (ac_M.imp (o_J6_bitCount_0f7a4 _ p1 H) ?_)
    rintro _ _ ⟨r19, s19, rfl, rfl, H⟩
    refine ax_aload_n (pc' := 23) dX2_notePayment_22 rfl rfl ?_
    refine ax_getI (pc' := 26) dX2_notePayment_23 fl_X2_22 sh_62 rfl rfl rfl ?_
    refine ay_S1 (pc' := 29) (ce' := 0) (sl' := 0) (mc2 := 0) (ms2 := 0) (I2 := i_J6_bitCount_0f7a4) dX2_notePayment_26 ml_X2_33 rfl rfl rfl rfl rfl rfl rfl rfl (ac_M.imp (o_J6_bitCount_0f7a4 _ (s19 62 5) H) ?_)
    rintro _ _ ⟨r26, s26, rfl, rfl, H⟩
    refine ax_icmp_ge (pc' := 32) (tgt := 37) dX2_notePayment_29 (by decide) rfl (fun hc29 => ?_) (fun hc29 => ?_)
    · have H := H.1 hc29
      exact ax_vret dX2_notePayment_37 rfl rfl rfl ⟨_, rfl, rfl, H⟩
    · have H := H.2 hc29
      refine ax_aload_n (pc' := 33) dX2_notePayment_32 rfl rfl ?_
      refine ax_iload_n (pc' := 34) dX2_notePayment_33 rfl rfl ?_
      refine ax_putI (pc' := 37) dX2_notePayment_34 fp_X2_22 sh_62 rfl rfl rfl ?_
      exact ax_vret dX2_notePayment_37 rfl rfl rfl ⟨_, rfl, rfl, H⟩
theorem ol_X2_findPayments_71 {g : ac_G} {τ : Nat → Nat → Int64} (d : Nat) (p1 : Int32) {Q : ac_m → Prop}  (f1 : Int32) (f2 : Int32)  {x3 : Int32} {s : ac_m} (H : l_X2_findPayments_71 p1 Q  f1 f2  x3 s) : ac_X g i_X2_findPayments (d + 2) 0 0 (liV τ Q) 0 0 71 [some (.ref 62), some (.int f1), some (.int f2), some (.int x3)] [] (false, 586, SH, s, τ) := by
  refine H (fun x3 s => ac_X g i_X2_findPayments (d + 2) 0 0 (liV τ Q) 0 0 71 [some (.ref 62), some (.int f1), some (.int f2), some (.int x3)] [] (false, 586, SH, s, τ)) ?_
  intro x3 s H
  refine ax_iload_n (pc' := 72) dX2_findPayments_71 rfl rfl ?_
  refine ax_sipush (pc' := 75) (v := (4096 : Int32)) dX2_findPayments_72 (by decide) rfl ?_
  refine ax_icmp_ge (pc' := 78) (tgt := 115) dX2_findPayments_75 (by decide) rfl (fun hc75 => ?_) (fun hc75 => ?_)
  · have H := H.1 hc75
    exact ax_vret dX2_findPayments_115 rfl rfl rfl ⟨_, rfl, rfl, H⟩
  · have H := H.2 hc75
    refine ax_iload_n (pc' := 79) dX2_findPayments_78 rfl rfl ?_
    refine ax_iload_n (pc' := 80) dX2_findPayments_79 rfl rfl ?_
    refine ax_iconst (pc' := 81) (v := (-1 : Int32)) dX2_findPayments_80 (by decide) rfl ?_
    refine ax_ixor (pc' := 82) dX2_findPayments_81 rfl ?_
    refine ax_iand (pc' := 83) dX2_findPayments_82 rfl ?_
    refine ax_if_ne (pc' := 86) (tgt := 109) dX2_findPayments_83 (by decide) rfl (fun hc83 => ?_) (fun hc83 => ?_)
    · have H := H.1 hc83
      refine ax_iinc (pc' := 112) (v := (x3 + (1 : Int32))) dX2_findPayments_109 rfl rfl rfl rfl rfl ?_
      refine ax_goto (tgt := 71) dX2_findPayments_112 (by decide) ?_
      exact H
    · have H := H.2 hc83
      refine ax_aload_n (pc' := 87) dX2_findPayments_86 rfl rfl ?_
      refine ax_getR (pc' := 90) dX2_findPayments_87 fl_X2_15 sh_62 rfl rfl rfl ?_
      refine ax_iload_n (pc' := 91) dX2_findPayments_90 rfl rfl ?_
      obtain ⟨hj91, H⟩ := H
      refine ax_iald (pc' := 92) dX2_findPayments_91 sh_64 hj91 rfl rfl ?_
      refine ax_aload_n (pc' := 93) dX2_findPayments_92 rfl rfl ?_
      refine ax_getR (pc' := 96) dX2_findPayments_93 fl_X2_29 sh_62 rfl rfl rfl ?_
      refine ax_getR (pc' := 99) dX2_findPayments_96 fl_X2_63 sh_42 rfl rfl rfl ?_
      refine ax_iload_n (pc' := 100) dX2_findPayments_99 rfl rfl ?_
      obtain ⟨hj100, H⟩ := H
      refine ax_iald (pc' := 101) dX2_findPayments_100 sh_44 hj100 rfl rfl ?_
      refine ax_icmp_ne (pc' := 104) (tgt := 109) dX2_findPayments_101 (by decide) rfl (fun hc101 => ?_) (fun hc101 => ?_)
      · have H := H.1 hc101
        refine ax_iinc (pc' := 112) (v := (x3 + (1 : Int32))) dX2_findPayments_109 rfl rfl rfl rfl rfl ?_
        refine ax_goto (tgt := 71) dX2_findPayments_112 (by decide) ?_
        exact H
      · have H := H.2 hc101
        refine ax_aload_n (pc' := 105) dX2_findPayments_104 rfl rfl ?_
        refine ax_iload_n (pc' := 106) dX2_findPayments_105 rfl rfl ?_
        refine ay_V1 (pc' := 109) (ce' := 0) (sl' := 0) (mc2 := 0) (ms2 := 0) (I2 := i_X2_notePayment) dX2_findPayments_106 ml_X2_83 sh_62 (by decide) rfl rfl rfl rfl rfl rfl rfl rfl rfl (ac_M.imp (o_X2_notePayment _ x3 H) ?_)
        rintro _ _ ⟨s106, rfl, rfl, H⟩
        refine ax_iinc (pc' := 112) (v := (x3 + (1 : Int32))) dX2_findPayments_109 rfl rfl rfl rfl rfl ?_
        refine ax_goto (tgt := 71) dX2_findPayments_112 (by decide) ?_
        exact H
theorem o_X2_findPayments {g : ac_G} {τ : Nat → Nat → Int64} (d : Nat) (p1 : Int32) {Q : ac_m → Prop} {s : ac_m} (H : w_X2_findPayments p1 Q s) : ac_M g i_X2_findPayments (d + 2) 0 0 [.ref 62, .int p1] (false, 586, SH, s, τ) (liV τ Q) := by
  refine ac_ofX (by decide +kernel) rfl rfl rfl ?_
  refine ax_aload_n (pc' := 1) dX2_findPayments_0 rfl rfl ?_
  refine ax_iconst (pc' := 2) (v := (0 : Int32)) dX2_findPayments_1 (by decide) rfl ?_
  refine ax_putI (pc' := 5) dX2_findPayments_2 fp_X2_18 sh_62 rfl rfl rfl ?_
  refine ax_aload_n (pc' := 6) dX2_findPayments_5 rfl rfl ?_
  refine ax_iconst (pc' := 7) (v := (-1 : Int32)) dX2_findPayments_6 (by decide) rfl ?_
  refine ax_putI (pc' := 10) dX2_findPayments_7 fp_X2_22 sh_62 rfl rfl rfl ?_
  refine ax_iload_n (pc' := 11) dX2_findPayments_10 rfl rfl ?_
  refine ax_if_lt (pc' := 14) (tgt := 31) dX2_findPayments_11 (by decide) rfl (fun hc11 => ?_) (fun hc11 => ?_)
  · have H := H.1 hc11
    exact ax_vret dX2_findPayments_31 rfl rfl rfl ⟨_, rfl, rfl, H⟩
  · have H := H.2 hc11
    refine ax_iload_n (pc' := 15) dX2_findPayments_14 rfl rfl ?_
    refine ax_bipush (pc' := 17) (v := (12 : Int32)) dX2_findPayments_15 (by decide) rfl ?_
    refine ax_icmp_ge (pc' := 20) (tgt := 31) dX2_findPayments_17 (by decide) rfl (fun hc17 => ?_) (fun hc17 => ?_)
    · have H := H.1 hc17
      exact ax_vret dX2_findPayments_31 rfl rfl rfl ⟨_, rfl, rfl, H⟩
    · have H := H.2 hc17
      refine ax_aload_n (pc' := 21) dX2_findPayments_20 rfl rfl ?_
      refine ax_getR (pc' := 24) dX2_findPayments_21 fl_X2_29 sh_62 rfl rfl rfl ?_
      refine ax_iload_n (pc' := 25) dX2_findPayments_24 rfl rfl ?_
      refine ay_V1 (pc' := 28) (ce' := 0) (sl' := 0) (mc2 := 0) (ms2 := 0) (I2 := i_X5_isThere) dX2_findPayments_25 ml_X2_73 sh_42 (by decide) rfl rfl rfl rfl rfl rfl rfl rfl rfl (ac_M.imp (o_X5_isThere _ 42 p1 is_now H) ?_)
      rintro _ _ ⟨r25, s25, rfl, rfl, H⟩
      refine ax_if_ne (pc' := 31) (tgt := 32) dX2_findPayments_28 (by decide) rfl (fun hc28 => ?_) (fun hc28 => ?_)
      · have H := H.1 hc28
        refine ax_aload_n (pc' := 33) dX2_findPayments_32 rfl rfl ?_
        refine ax_getR (pc' := 36) dX2_findPayments_33 fl_X2_29 sh_62 rfl rfl rfl ?_
        refine ax_getR (pc' := 39) dX2_findPayments_36 fl_X2_63 sh_42 rfl rfl rfl ?_
        refine ax_iconst (pc' := 40) (v := (0 : Int32)) dX2_findPayments_39 (by decide) rfl ?_
        refine ax_aload_n (pc' := 41) dX2_findPayments_40 rfl rfl ?_
        refine ax_getR (pc' := 44) dX2_findPayments_41 fl_X2_9 sh_62 rfl rfl rfl ?_
        refine ax_iconst (pc' := 45) (v := (0 : Int32)) dX2_findPayments_44 (by decide) rfl ?_
        refine ax_bipush (pc' := 47) (v := (12 : Int32)) dX2_findPayments_45 (by decide) rfl ?_
        refine ax_copy (pc' := 50) dX2_findPayments_47 mj_X2_77 mk_copy.1 mk_copy.2.1 mk_copy.2.2 sh_44 sh_63 rfl rfl (by decide) (by decide) (by decide) (by decide) (by decide) rfl rfl ?_
        refine ax_aload_n (pc' := 51) dX2_findPayments_50 rfl rfl ?_
        refine ax_getR (pc' := 54) dX2_findPayments_51 fl_X2_29 sh_62 rfl rfl rfl ?_
        refine ay_V0 (pc' := 57) (ce' := 0) (sl' := 0) (mc2 := 0) (ms2 := 0) (I2 := i_X5_thereBits) dX2_findPayments_54 ml_X2_39 sh_42 (by decide) rfl rfl rfl rfl rfl rfl rfl rfl rfl (ac_M.imp (o_X5_thereBits _ 42 is_now H) ?_)
        rintro _ _ ⟨r54, s54, rfl, rfl, H⟩
        refine ax_iconst (pc' := 58) (v := (1 : Int32)) dX2_findPayments_57 (by decide) rfl ?_
        refine ax_iload_n (pc' := 59) dX2_findPayments_58 rfl rfl ?_
        refine ax_ishl (pc' := 60) dX2_findPayments_59 rfl ?_
        refine ax_iconst (pc' := 61) (v := (-1 : Int32)) dX2_findPayments_60 (by decide) rfl ?_
        refine ax_ixor (pc' := 62) dX2_findPayments_61 rfl ?_
        refine ax_iand (pc' := 63) dX2_findPayments_62 rfl ?_
        refine ax_istore_n (pc' := 64) dX2_findPayments_63 rfl rfl rfl ?_
        refine ax_aload_n (pc' := 65) dX2_findPayments_64 rfl rfl ?_
        refine ax_iload_n (pc' := 66) dX2_findPayments_65 rfl rfl ?_
        refine ay_V1 (pc' := 69) (ce' := 0) (sl' := 0) (mc2 := 0) (ms2 := 0) (I2 := i_X2_sumParts) dX2_findPayments_66 ml_X2_56 sh_62 (by decide) rfl rfl rfl rfl rfl rfl rfl rfl rfl (ac_M.imp (o_X2_sumParts _ (r54 &&& (((1 : Int32) <<< (p1 &&& 31)) ^^^ (-1 : Int32))) H) ?_)
        rintro _ _ ⟨s66, rfl, rfl, H⟩
        refine ax_iconst (pc' := 70) (v := (1 : Int32)) dX2_findPayments_69 (by decide) rfl ?_
        refine ax_istore_n (pc' := 71) dX2_findPayments_70 rfl rfl rfl ?_
        refine ol_X2_findPayments_71 d p1  _ _    H
      · have H := H.2 hc28
        exact ax_vret dX2_findPayments_31 rfl rfl rfl ⟨_, rfl, rfl, H⟩
theorem o_X6_clear {g : ac_G} {τ : Nat → Nat → Int64} (d : Nat)  {Q : ac_m → Prop} {s : ac_m} (H : w_X6_clear  Q s) : ac_M g i_X6_clear d 0 0 [.ref 58] (false, 586, SH, s, τ) (liV τ Q) := by
  refine ac_ofX (by decide +kernel) rfl rfl rfl ?_
  refine ax_aload_n (pc' := 1) dX6_clear_0 rfl rfl ?_
  refine ax_iconst (pc' := 2) (v := (0 : Int32)) dX6_clear_1 (by decide) rfl ?_
  refine ax_putI (pc' := 5) dX6_clear_2 fp_X6_23 sh_58 rfl rfl rfl ?_
  refine ax_aload_n (pc' := 6) dX6_clear_5 rfl rfl ?_
  refine ax_iconst (pc' := 7) (v := (0 : Int32)) dX6_clear_6 (by decide) rfl ?_
  refine ax_putI (pc' := 10) dX6_clear_7 fp_X6_27 sh_58 rfl rfl rfl ?_
  exact ax_vret dX6_clear_10 rfl rfl rfl ⟨_, rfl, rfl, H⟩
theorem o_X6_keepWork {g : ac_G} {τ : Nat → Nat → Int64} (d : Nat)  {Q : ac_m → Prop} {s : ac_m} (H : w_X6_keepWork  Q s) : ac_M g i_X6_keepWork (d + 1) 0 0 [.ref 58, .ref 42] (false, 586, SH, s, τ) (liV τ Q) := by
  refine ac_ofX (by decide +kernel) rfl rfl rfl ?_
  refine ax_aload_n (pc' := 1) dX6_keepWork_0 rfl rfl ?_
  refine ax_getI (pc' := 4) dX6_keepWork_1 fl_X6_23 sh_58 rfl rfl rfl ?_
  refine ax_if_lt (pc' := 7) (tgt := 41) dX6_keepWork_4 (by decide) rfl (fun hc4 => ?_) (fun hc4 => ?_)
  · have H := H.1 hc4
    exact ax_vret dX6_keepWork_41 rfl rfl rfl ⟨_, rfl, rfl, H⟩
  · have H := H.2 hc4
    refine ax_aload_n (pc' := 8) dX6_keepWork_7 rfl rfl ?_
    refine ax_getI (pc' := 11) dX6_keepWork_8 fl_X6_23 sh_58 rfl rfl rfl ?_
    refine ax_bipush (pc' := 13) (v := (16 : Int32)) dX6_keepWork_11 (by decide) rfl ?_
    refine ax_icmp_ge (pc' := 16) (tgt := 41) dX6_keepWork_13 (by decide) rfl (fun hc13 => ?_) (fun hc13 => ?_)
    · have H := H.1 hc13
      exact ax_vret dX6_keepWork_41 rfl rfl rfl ⟨_, rfl, rfl, H⟩
    · have H := H.2 hc13
      refine ax_aload_n (pc' := 17) dX6_keepWork_16 rfl rfl ?_
      refine ax_aload_n (pc' := 18) dX6_keepWork_17 rfl rfl ?_
      refine ax_getR (pc' := 21) dX6_keepWork_18 fl_X6_11 sh_58 rfl rfl rfl ?_
      refine ax_aload_n (pc' := 22) dX6_keepWork_21 rfl rfl ?_
      refine ax_getI (pc' := 25) dX6_keepWork_22 fl_X6_23 sh_58 rfl rfl rfl ?_
      refine ax_bipush (pc' := 27) (v := (83 : Int32)) dX6_keepWork_25 (by decide) rfl ?_
      refine ax_imul (pc' := 28) dX6_keepWork_27 rfl ?_
      refine ay_V2 (pc' := 31) (ce' := 0) (sl' := 0) (mc2 := 0) (ms2 := 0) (I2 := i_X5_store) dX6_keepWork_28 ml_X6_30 sh_42 (by decide) rfl rfl rfl rfl rfl rfl rfl rfl rfl (ac_M.imp (o_X5_store _ 42 59 1328 ((s 58 3) * (83 : Int32)) is_now sh_59 rfl H) ?_)
      rintro _ _ ⟨s28, rfl, rfl, H⟩
      refine ax_aload_n (pc' := 32) dX6_keepWork_31 rfl rfl ?_
      refine ax_dup (pc' := 33) dX6_keepWork_32 rfl rfl ?_
      refine ax_getI (pc' := 36) dX6_keepWork_33 fl_X6_23 sh_58 rfl rfl rfl ?_
      refine ax_iconst (pc' := 37) (v := (1 : Int32)) dX6_keepWork_36 (by decide) rfl ?_
      refine ax_iadd (pc' := 38) dX6_keepWork_37 rfl ?_
      refine ax_putI (pc' := 41) dX6_keepWork_38 fp_X6_23 sh_58 rfl rfl rfl ?_
      exact ax_vret dX6_keepWork_41 rfl rfl rfl ⟨_, rfl, rfl, H⟩
theorem o_X6_undoWork {g : ac_G} {τ : Nat → Nat → Int64} (d : Nat)  {Q : Int32 → ac_m → Prop} {s : ac_m} (H : w_X6_undoWork  Q s) : ac_M g i_X6_undoWork (d + 1) 0 0 [.ref 58, .ref 42] (false, 586, SH, s, τ) (liI τ Q) := by
  refine ac_ofX (by decide +kernel) rfl rfl rfl ?_
  refine ax_aload_n (pc' := 1) dX6_undoWork_0 rfl rfl ?_
  refine ax_getI (pc' := 4) dX6_undoWork_1 fl_X6_23 sh_58 rfl rfl rfl ?_
  refine ax_if_gt (pc' := 7) (tgt := 9) dX6_undoWork_4 (by decide) rfl (fun hc4 => ?_) (fun hc4 => ?_)
  · have H := H.1 hc4
    refine ax_aload_n (pc' := 10) dX6_undoWork_9 rfl rfl ?_
    refine ax_dup (pc' := 11) dX6_undoWork_10 rfl rfl ?_
    refine ax_getI (pc' := 14) dX6_undoWork_11 fl_X6_23 sh_58 rfl rfl rfl ?_
    refine ax_iconst (pc' := 15) (v := (1 : Int32)) dX6_undoWork_14 (by decide) rfl ?_
    refine ax_isub (pc' := 16) dX6_undoWork_15 rfl ?_
    refine ax_putI (pc' := 19) dX6_undoWork_16 fp_X6_23 sh_58 rfl rfl rfl ?_
    refine ax_aload_n (pc' := 20) dX6_undoWork_19 rfl rfl ?_
    refine ax_aload_n (pc' := 21) dX6_undoWork_20 rfl rfl ?_
    refine ax_getR (pc' := 24) dX6_undoWork_21 fl_X6_11 sh_58 rfl rfl rfl ?_
    refine ax_aload_n (pc' := 25) dX6_undoWork_24 rfl rfl ?_
    refine ax_getI (pc' := 28) dX6_undoWork_25 fl_X6_23 sh_58 rfl rfl rfl ?_
    refine ax_bipush (pc' := 30) (v := (83 : Int32)) dX6_undoWork_28 (by decide) rfl ?_
    refine ax_imul (pc' := 31) dX6_undoWork_30 rfl ?_
    refine ay_V2 (pc' := 34) (ce' := 0) (sl' := 0) (mc2 := 0) (ms2 := 0) (I2 := i_X5_load) dX6_undoWork_31 ml_X6_34 sh_42 (by decide) rfl rfl rfl rfl rfl rfl rfl rfl rfl (ac_M.imp (o_X5_load _ 42 59 1328 (((ac_u s 58 3 ((s 58 3) - (1 : Int32))) 58 3) * (83 : Int32)) is_now sh_59 rfl H) ?_)
    rintro _ _ ⟨s31, rfl, rfl, H⟩
    refine ax_iconst (pc' := 35) (v := (1 : Int32)) dX6_undoWork_34 (by decide) rfl ?_
    exact ax_zret dX6_undoWork_35 rfl rfl rfl rfl ⟨_, _, rfl, rfl, H⟩
  · have H := H.2 hc4
    refine ax_iconst (pc' := 8) (v := (0 : Int32)) dX6_undoWork_7 (by decide) rfl ?_
    exact ax_zret dX6_undoWork_8 rfl rfl rfl rfl ⟨_, _, rfl, rfl, H⟩
theorem o_X6_takeImage {g : ac_G} {τ : Nat → Nat → Int64} (d : Nat)  {Q : Int32 → ac_m → Prop} {s : ac_m} (H : w_X6_takeImage  Q s) : ac_M g i_X6_takeImage (d + 1) 0 0 [.ref 58, .ref 42] (false, 586, SH, s, τ) (liI τ Q) := by
  refine ac_ofX (by decide +kernel) rfl rfl rfl ?_
  refine ax_aload_n (pc' := 1) dX6_takeImage_0 rfl rfl ?_
  refine ax_getI (pc' := 4) dX6_takeImage_1 fl_X6_27 sh_58 rfl rfl rfl ?_
  refine ax_if_lt (pc' := 7) (tgt := 15) dX6_takeImage_4 (by decide) rfl (fun hc4 => ?_) (fun hc4 => ?_)
  · have H := H.1 hc4
    refine ax_iconst (pc' := 16) (v := (0 : Int32)) dX6_takeImage_15 (by decide) rfl ?_
    exact ax_zret dX6_takeImage_16 rfl rfl rfl rfl ⟨_, _, rfl, rfl, H⟩
  · have H := H.2 hc4
    refine ax_aload_n (pc' := 8) dX6_takeImage_7 rfl rfl ?_
    refine ax_getI (pc' := 11) dX6_takeImage_8 fl_X6_27 sh_58 rfl rfl rfl ?_
    refine ax_iconst (pc' := 12) (v := (3 : Int32)) dX6_takeImage_11 (by decide) rfl ?_
    refine ax_icmp_lt (pc' := 15) (tgt := 17) dX6_takeImage_12 (by decide) rfl (fun hc12 => ?_) (fun hc12 => ?_)
    · have H := H.1 hc12
      refine ax_aload_n (pc' := 18) dX6_takeImage_17 rfl rfl ?_
      refine ax_getI (pc' := 21) dX6_takeImage_18 fl_X6_27 sh_58 rfl rfl rfl ?_
      refine ax_sipush (pc' := 24) (v := (1411 : Int32)) dX6_takeImage_21 (by decide) rfl ?_
      refine ax_imul (pc' := 25) dX6_takeImage_24 rfl ?_
      refine ax_istore_n (pc' := 26) dX6_takeImage_25 rfl rfl rfl ?_
      refine ax_aload_n (pc' := 27) dX6_takeImage_26 rfl rfl ?_
      refine ax_getR (pc' := 30) dX6_takeImage_27 fl_X6_11 sh_58 rfl rfl rfl ?_
      refine ax_iconst (pc' := 31) (v := (0 : Int32)) dX6_takeImage_30 (by decide) rfl ?_
      refine ax_aload_n (pc' := 32) dX6_takeImage_31 rfl rfl ?_
      refine ax_getR (pc' := 35) dX6_takeImage_32 fl_X6_17 sh_58 rfl rfl rfl ?_
      refine ax_iload_n (pc' := 36) dX6_takeImage_35 rfl rfl ?_
      refine ax_sipush (pc' := 39) (v := (1328 : Int32)) dX6_takeImage_36 (by decide) rfl ?_
      obtain ⟨⟨ha1, ha2, ha3, ha4, ha5⟩, H⟩ := H
      refine ax_copy (pc' := 42) dX6_takeImage_39 mj_X6_37 mk_copy.1 mk_copy.2.1 mk_copy.2.2 sh_59 sh_60 rfl rfl ha1 ha2 ha3 ha4 ha5 rfl rfl ?_
      refine ax_aload_n (pc' := 43) dX6_takeImage_42 rfl rfl ?_
      refine ax_aload_n (pc' := 44) dX6_takeImage_43 rfl rfl ?_
      refine ax_getR (pc' := 47) dX6_takeImage_44 fl_X6_17 sh_58 rfl rfl rfl ?_
      refine ax_iload_n (pc' := 48) dX6_takeImage_47 rfl rfl ?_
      refine ax_sipush (pc' := 51) (v := (1328 : Int32)) dX6_takeImage_48 (by decide) rfl ?_
      refine ax_iadd (pc' := 52) dX6_takeImage_51 rfl ?_
      refine ay_V2 (pc' := 55) (ce' := 0) (sl' := 0) (mc2 := 0) (ms2 := 0) (I2 := i_X5_store) dX6_takeImage_52 ml_X6_30 sh_42 (by decide) rfl rfl rfl rfl rfl rfl rfl rfl rfl (ac_M.imp (o_X5_store _ 42 60 4233 (((s 58 4) * (1411 : Int32)) + (1328 : Int32)) is_now sh_60 rfl H) ?_)
      rintro _ _ ⟨s52, rfl, rfl, H⟩
      refine ax_aload_n (pc' := 56) dX6_takeImage_55 rfl rfl ?_
      refine ax_getR (pc' := 59) dX6_takeImage_56 fl_X6_20 sh_58 rfl rfl rfl ?_
      refine ax_aload_n (pc' := 60) dX6_takeImage_59 rfl rfl ?_
      refine ax_getI (pc' := 63) dX6_takeImage_60 fl_X6_27 sh_58 rfl rfl rfl ?_
      refine ax_aload_n (pc' := 64) dX6_takeImage_63 rfl rfl ?_
      refine ax_getI (pc' := 67) dX6_takeImage_64 fl_X6_23 sh_58 rfl rfl rfl ?_
      obtain ⟨hj67, H⟩ := H
      refine ax_iast (pc' := 68) dX6_takeImage_67 sh_61 hj67 rfl rfl ?_
      refine ax_aload_n (pc' := 69) dX6_takeImage_68 rfl rfl ?_
      refine ax_dup (pc' := 70) dX6_takeImage_69 rfl rfl ?_
      refine ax_getI (pc' := 73) dX6_takeImage_70 fl_X6_27 sh_58 rfl rfl rfl ?_
      refine ax_iconst (pc' := 74) (v := (1 : Int32)) dX6_takeImage_73 (by decide) rfl ?_
      refine ax_iadd (pc' := 75) dX6_takeImage_74 rfl ?_
      refine ax_putI (pc' := 78) dX6_takeImage_75 fp_X6_27 sh_58 rfl rfl rfl ?_
      refine ax_iconst (pc' := 79) (v := (1 : Int32)) dX6_takeImage_78 (by decide) rfl ?_
      exact ax_zret dX6_takeImage_79 rfl rfl rfl rfl ⟨_, _, rfl, rfl, H⟩
    · have H := H.2 hc12
      refine ax_iconst (pc' := 16) (v := (0 : Int32)) dX6_takeImage_15 (by decide) rfl ?_
      exact ax_zret dX6_takeImage_16 rfl rfl rfl rfl ⟨_, _, rfl, rfl, H⟩
theorem o_X6_useImage {g : ac_G} {τ : Nat → Nat → Int64} (d : Nat)  {Q : Int32 → ac_m → Prop} {s : ac_m} (H : w_X6_useImage  Q s) : ac_M g i_X6_useImage (d + 1) 0 0 [.ref 58, .ref 42] (false, 586, SH, s, τ) (liI τ Q) := by
  refine ac_ofX (by decide +kernel) rfl rfl rfl ?_
  refine ax_aload_n (pc' := 1) dX6_useImage_0 rfl rfl ?_
  refine ax_getI (pc' := 4) dX6_useImage_1 fl_X6_27 sh_58 rfl rfl rfl ?_
  refine ax_if_le (pc' := 7) (tgt := 15) dX6_useImage_4 (by decide) rfl (fun hc4 => ?_) (fun hc4 => ?_)
  · have H := H.1 hc4
    refine ax_iconst (pc' := 16) (v := (0 : Int32)) dX6_useImage_15 (by decide) rfl ?_
    exact ax_zret dX6_useImage_16 rfl rfl rfl rfl ⟨_, _, rfl, rfl, H⟩
  · have H := H.2 hc4
    refine ax_aload_n (pc' := 8) dX6_useImage_7 rfl rfl ?_
    refine ax_getI (pc' := 11) dX6_useImage_8 fl_X6_27 sh_58 rfl rfl rfl ?_
    refine ax_iconst (pc' := 12) (v := (3 : Int32)) dX6_useImage_11 (by decide) rfl ?_
    refine ax_icmp_le (pc' := 15) (tgt := 17) dX6_useImage_12 (by decide) rfl (fun hc12 => ?_) (fun hc12 => ?_)
    · have H := H.1 hc12
      refine ax_aload_n (pc' := 18) dX6_useImage_17 rfl rfl ?_
      refine ax_dup (pc' := 19) dX6_useImage_18 rfl rfl ?_
      refine ax_getI (pc' := 22) dX6_useImage_19 fl_X6_27 sh_58 rfl rfl rfl ?_
      refine ax_iconst (pc' := 23) (v := (1 : Int32)) dX6_useImage_22 (by decide) rfl ?_
      refine ax_isub (pc' := 24) dX6_useImage_23 rfl ?_
      refine ax_putI (pc' := 27) dX6_useImage_24 fp_X6_27 sh_58 rfl rfl rfl ?_
      refine ax_aload_n (pc' := 28) dX6_useImage_27 rfl rfl ?_
      refine ax_getI (pc' := 31) dX6_useImage_28 fl_X6_27 sh_58 rfl rfl rfl ?_
      refine ax_sipush (pc' := 34) (v := (1411 : Int32)) dX6_useImage_31 (by decide) rfl ?_
      refine ax_imul (pc' := 35) dX6_useImage_34 rfl ?_
      refine ax_istore_n (pc' := 36) dX6_useImage_35 rfl rfl rfl ?_
      refine ax_aload_n (pc' := 37) dX6_useImage_36 rfl rfl ?_
      refine ax_getR (pc' := 40) dX6_useImage_37 fl_X6_17 sh_58 rfl rfl rfl ?_
      refine ax_iload_n (pc' := 41) dX6_useImage_40 rfl rfl ?_
      refine ax_aload_n (pc' := 42) dX6_useImage_41 rfl rfl ?_
      refine ax_getR (pc' := 45) dX6_useImage_42 fl_X6_11 sh_58 rfl rfl rfl ?_
      refine ax_iconst (pc' := 46) (v := (0 : Int32)) dX6_useImage_45 (by decide) rfl ?_
      refine ax_sipush (pc' := 49) (v := (1328 : Int32)) dX6_useImage_46 (by decide) rfl ?_
      obtain ⟨⟨ha1, ha2, ha3, ha4, ha5⟩, H⟩ := H
      refine ax_copy (pc' := 52) dX6_useImage_49 mj_X6_37 mk_copy.1 mk_copy.2.1 mk_copy.2.2 sh_60 sh_59 rfl rfl ha1 ha2 ha3 ha4 ha5 rfl rfl ?_
      refine ax_aload_n (pc' := 53) dX6_useImage_52 rfl rfl ?_
      refine ax_aload_n (pc' := 54) dX6_useImage_53 rfl rfl ?_
      refine ax_getR (pc' := 57) dX6_useImage_54 fl_X6_17 sh_58 rfl rfl rfl ?_
      refine ax_iload_n (pc' := 58) dX6_useImage_57 rfl rfl ?_
      refine ax_sipush (pc' := 61) (v := (1328 : Int32)) dX6_useImage_58 (by decide) rfl ?_
      refine ax_iadd (pc' := 62) dX6_useImage_61 rfl ?_
      refine ay_V2 (pc' := 65) (ce' := 0) (sl' := 0) (mc2 := 0) (ms2 := 0) (I2 := i_X5_load) dX6_useImage_62 ml_X6_34 sh_42 (by decide) rfl rfl rfl rfl rfl rfl rfl rfl rfl (ac_M.imp (o_X5_load _ 42 60 4233 ((((ac_u s 58 4 ((s 58 4) - (1 : Int32))) 58 4) * (1411 : Int32)) + (1328 : Int32)) is_now sh_60 rfl H) ?_)
      rintro _ _ ⟨s62, rfl, rfl, H⟩
      refine ax_aload_n (pc' := 66) dX6_useImage_65 rfl rfl ?_
      refine ax_aload_n (pc' := 67) dX6_useImage_66 rfl rfl ?_
      refine ax_getR (pc' := 70) dX6_useImage_67 fl_X6_20 sh_58 rfl rfl rfl ?_
      refine ax_aload_n (pc' := 71) dX6_useImage_70 rfl rfl ?_
      refine ax_getI (pc' := 74) dX6_useImage_71 fl_X6_27 sh_58 rfl rfl rfl ?_
      obtain ⟨hj74, H⟩ := H
      refine ax_iald (pc' := 75) dX6_useImage_74 sh_61 hj74 rfl rfl ?_
      refine ax_putI (pc' := 78) dX6_useImage_75 fp_X6_23 sh_58 rfl rfl rfl ?_
      refine ax_iconst (pc' := 79) (v := (1 : Int32)) dX6_useImage_78 (by decide) rfl ?_
      exact ax_zret dX6_useImage_79 rfl rfl rfl rfl ⟨_, _, rfl, rfl, H⟩
    · have H := H.2 hc12
      refine ax_iconst (pc' := 16) (v := (0 : Int32)) dX6_useImage_15 (by decide) rfl ?_
      exact ax_zret dX6_useImage_16 rfl rfl rfl rfl ⟨_, _, rfl, rfl, H⟩
