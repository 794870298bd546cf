theorem o_X0_clear {g : ac_G} {τ : Nat → Nat → Int64} (d : Nat) (a : Nat) (hm : is_Bk a) {Q : ac_m → Prop} {s : ac_m} (H : w_X0_clear a Q s) : ac_M g i_X0_clear (d + 1) 0 0 [.ref a] (false, 586, SH, s, τ) (liV τ Q) := by
  refine ac_ofX (by decide +kernel) rfl rfl rfl ?_
  refine ax_aload_n (pc' := 1) dX0_clear_0 rfl rfl ?_
  refine ax_getR (pc' := 4) dX0_clear_1 fl_X0_9 (bk_0 hm) rfl (bk_2 hm) rfl ?_
  refine ax_iconst (pc' := 5) (v := (-1 : Int32)) dX0_clear_4 (by decide) rfl ?_
  refine ay_S2 (pc' := 8) (ce' := 0) (sl' := 0) (mc2 := 0) (ms2 := 0) (I2 := i_J7_fill_53178) dX0_clear_5 ml_X0_22 rfl rfl rfl rfl rfl rfl rfl rfl (ac_M.imp (o_J7_fill_53178 _ (a + 1) 13 (-1 : Int32) (bk_1 hm) (bk_3 hm) H) ?_)
  rintro _ _ ⟨s5, rfl, rfl, H⟩
  refine ax_aload_n (pc' := 9) dX0_clear_8 rfl rfl ?_
  refine ax_iconst (pc' := 10) (v := (0 : Int32)) dX0_clear_9 (by decide) rfl ?_
  refine ax_putI (pc' := 13) dX0_clear_10 fp_X0_15 (bk_0 hm) rfl (bk_2 hm) rfl ?_
  exact ax_vret dX0_clear_13 rfl rfl rfl ⟨_, rfl, rfl, H⟩
theorem o_X0_take {g : ac_G} {τ : Nat → Nat → Int64} (d : Nat)  {Q : ac_m → Prop} {s : ac_m} (H : w_X0_take  Q s) : ac_M g i_X0_take d 0 0 [.ref 33, .ref 35] (false, 586, SH, s, τ) (liV τ Q) := by
  refine ac_ofX (by decide +kernel) rfl rfl rfl ?_
  refine ax_aload_n (pc' := 1) dX0_take_0 rfl rfl ?_
  refine ax_getR (pc' := 4) dX0_take_1 fl_X0_9 sh_35 rfl rfl rfl ?_
  refine ax_iconst (pc' := 5) (v := (0 : Int32)) dX0_take_4 (by decide) rfl ?_
  refine ax_aload_n (pc' := 6) dX0_take_5 rfl rfl ?_
  refine ax_getR (pc' := 9) dX0_take_6 fl_X0_9 sh_33 rfl rfl rfl ?_
  refine ax_iconst (pc' := 10) (v := (0 : Int32)) dX0_take_9 (by decide) rfl ?_
  refine ax_bipush (pc' := 12) (v := (13 : Int32)) dX0_take_10 (by decide) rfl ?_
  refine ax_copy (pc' := 15) dX0_take_12 mj_X0_28 mk_copy.1 mk_copy.2.1 mk_copy.2.2 sh_36 sh_34 rfl rfl (by decide) (by decide) (by decide) (by decide) (by decide) rfl rfl ?_
  refine ax_aload_n (pc' := 16) dX0_take_15 rfl rfl ?_
  refine ax_aload_n (pc' := 17) dX0_take_16 rfl rfl ?_
  refine ax_getI (pc' := 20) dX0_take_17 fl_X0_15 sh_35 rfl rfl rfl ?_
  refine ax_putI (pc' := 23) dX0_take_20 fp_X0_15 sh_33 rfl rfl rfl ?_
  exact ax_vret dX0_take_23 rfl rfl rfl ⟨_, rfl, rfl, H⟩
theorem o_X0_readLine {g : ac_G} {τ : Nat → Nat → Int64} (d : Nat)  {Q : Int32 → ac_m → Prop} {s : ac_m} (H : w_X0_readLine  Q s) : ac_M g i_X0_readLine (d + 3) 0 0 [.ref 35, .ref 1] (false, 586, SH, s, τ) (liI τ Q) := by
  refine ac_ofX (by decide +kernel) rfl rfl rfl ?_
  refine ax_aload_n (pc' := 1) dX0_readLine_0 rfl rfl ?_
  refine ax_iconst (pc' := 2) (v := (1 : Int32)) dX0_readLine_1 (by decide) rfl ?_
  refine ax_bipush (pc' := 4) (v := (12 : Int32)) dX0_readLine_2 (by decide) rfl ?_
  refine ay_V2 (pc' := 7) (ce' := 0) (sl' := 0) (mc2 := 0) (ms2 := 0) (I2 := i_X10_number) dX0_readLine_4 ml_X0_47 sh_1 (by decide) rfl rfl rfl rfl rfl rfl rfl rfl rfl (ac_M.imp (o_X10_number _ (1 : Int32) (12 : Int32) H) ?_)
  rintro _ _ ⟨r4, s4, rfl, rfl, H⟩
  refine ax_istore_n (pc' := 8) dX0_readLine_7 rfl rfl rfl ?_
  refine ax_iload_n (pc' := 9) dX0_readLine_8 rfl rfl ?_
  refine ax_iconst (pc' := 10) (v := (1 : Int32)) dX0_readLine_9 (by decide) rfl ?_
  refine ax_icmp_lt (pc' := 13) (tgt := 19) dX0_readLine_10 (by decide) rfl (fun hc10 => ?_) (fun hc10 => ?_)
  · have H := H.1 hc10
    refine ax_iconst (pc' := 20) (v := (0 : Int32)) dX0_readLine_19 (by decide) rfl ?_
    exact ax_zret dX0_readLine_20 rfl rfl rfl rfl ⟨_, _, rfl, rfl, H⟩
  · have H := H.2 hc10
    refine ax_iload_n (pc' := 14) dX0_readLine_13 rfl rfl ?_
    refine ax_bipush (pc' := 16) (v := (12 : Int32)) dX0_readLine_14 (by decide) rfl ?_
    refine ax_icmp_le (pc' := 19) (tgt := 21) dX0_readLine_16 (by decide) rfl (fun hc16 => ?_) (fun hc16 => ?_)
    · have H := H.1 hc16
      refine ax_aload_n (pc' := 22) dX0_readLine_21 rfl rfl ?_
      refine ax_getR (pc' := 25) dX0_readLine_22 fl_X0_9 sh_35 rfl rfl rfl ?_
      refine ax_iload_n (pc' := 26) dX0_readLine_25 rfl rfl ?_
      obtain ⟨hj26, H⟩ := H
      refine ax_iald (pc' := 27) dX0_readLine_26 sh_36 hj26 rfl rfl ?_
      refine ax_iconst (pc' := 28) (v := (-1 : Int32)) dX0_readLine_27 (by decide) rfl ?_
      refine ax_icmp_eq (pc' := 31) (tgt := 37) dX0_readLine_28 (by decide) rfl (fun hc28 => ?_) (fun hc28 => ?_)
      · have H := H.1 hc28
        refine ax_aload_n (pc' := 38) dX0_readLine_37 rfl rfl ?_
        refine ax_getI (pc' := 41) dX0_readLine_38 fl_X0_15 sh_35 rfl rfl rfl ?_
        refine ax_bipush (pc' := 43) (v := (6 : Int32)) dX0_readLine_41 (by decide) rfl ?_
        refine ax_icmp_lt (pc' := 46) (tgt := 52) dX0_readLine_43 (by decide) rfl (fun hc43 => ?_) (fun hc43 => ?_)
        · have H := H.1 hc43
          refine ax_aload_n (pc' := 53) dX0_readLine_52 rfl rfl ?_
          refine ax_getR (pc' := 56) dX0_readLine_53 fl_X0_9 sh_35 rfl rfl rfl ?_
          refine ax_iload_n (pc' := 57) dX0_readLine_56 rfl rfl ?_
          refine ax_aload_n (pc' := 58) dX0_readLine_57 rfl rfl ?_
          refine ax_iconst (pc' := 59) (v := (0 : Int32)) dX0_readLine_58 (by decide) rfl ?_
          refine ax_bipush (pc' := 61) (v := (99 : Int32)) dX0_readLine_59 (by decide) rfl ?_
          refine ay_V2 (pc' := 64) (ce' := 0) (sl' := 0) (mc2 := 0) (ms2 := 0) (I2 := i_X10_number) dX0_readLine_61 ml_X0_47 sh_1 (by decide) rfl rfl rfl rfl rfl rfl rfl rfl rfl (ac_M.imp (o_X10_number _ (0 : Int32) (99 : Int32) H) ?_)
          rintro _ _ ⟨r61, s61, rfl, rfl, H⟩
          obtain ⟨hj64, H⟩ := H
          refine ax_iast (pc' := 65) dX0_readLine_64 sh_36 hj64 rfl rfl ?_
          refine ax_aload_n (pc' := 66) dX0_readLine_65 rfl rfl ?_
          refine ax_getR (pc' := 69) dX0_readLine_66 fl_X0_9 sh_35 rfl rfl rfl ?_
          refine ax_iload_n (pc' := 70) dX0_readLine_69 rfl rfl ?_
          obtain ⟨hj70, H⟩ := H
          refine ax_iald (pc' := 71) dX0_readLine_70 sh_36 hj70 rfl rfl ?_
          refine ax_iconst (pc' := 72) (v := (-1 : Int32)) dX0_readLine_71 (by decide) rfl ?_
          refine ax_icmp_ne (pc' := 75) (tgt := 77) dX0_readLine_72 (by decide) rfl (fun hc72 => ?_) (fun hc72 => ?_)
          · have H := H.1 hc72
            refine ax_aload_n (pc' := 78) dX0_readLine_77 rfl rfl ?_
            refine ax_dup (pc' := 79) dX0_readLine_78 rfl rfl ?_
            refine ax_getI (pc' := 82) dX0_readLine_79 fl_X0_15 sh_35 rfl rfl rfl ?_
            refine ax_iconst (pc' := 83) (v := (1 : Int32)) dX0_readLine_82 (by decide) rfl ?_
            refine ax_iadd (pc' := 84) dX0_readLine_83 rfl ?_
            refine ax_putI (pc' := 87) dX0_readLine_84 fp_X0_15 sh_35 rfl rfl rfl ?_
            refine ax_aload_n (pc' := 88) dX0_readLine_87 rfl rfl ?_
            refine ax_bipush (pc' := 90) (v := (59 : Int32)) dX0_readLine_88 (by decide) rfl ?_
            refine ay_V1 (pc' := 93) (ce' := 0) (sl' := 0) (mc2 := 0) (ms2 := 0) (I2 := i_X10_expects) dX0_readLine_90 ml_X0_55 sh_1 (by decide) rfl rfl rfl rfl rfl rfl rfl rfl rfl (ac_M.imp (o_X10_expects _ (59 : Int32) H) ?_)
            rintro _ _ ⟨r90, s90, rfl, rfl, H⟩
            obtain ⟨hb, H⟩ := H
            exact ax_zret dX0_readLine_93 rfl hb rfl rfl ⟨_, _, rfl, rfl, H⟩
          · have H := H.2 hc72
            refine ax_iconst (pc' := 76) (v := (0 : Int32)) dX0_readLine_75 (by decide) rfl ?_
            exact ax_zret dX0_readLine_76 rfl rfl rfl rfl ⟨_, _, rfl, rfl, H⟩
        · have H := H.2 hc43
          refine ax_aload_n (pc' := 47) dX0_readLine_46 rfl rfl ?_
          refine ax_iconst (pc' := 48) (v := (3 : Int32)) dX0_readLine_47 (by decide) rfl ?_
          refine ay_V1 (pc' := 51) (ce' := 0) (sl' := 0) (mc2 := 0) (ms2 := 0) (I2 := i_X10_fail) dX0_readLine_48 ml_X0_51 sh_1 (by decide) rfl rfl rfl rfl rfl rfl rfl rfl rfl (ac_M.imp (o_X10_fail _ (3 : Int32) H) ?_)
          rintro _ _ ⟨r48, s48, rfl, rfl, H⟩
          obtain ⟨hb, H⟩ := H
          exact ax_zret dX0_readLine_51 rfl hb rfl rfl ⟨_, _, rfl, rfl, H⟩
      · have H := H.2 hc28
        refine ax_aload_n (pc' := 32) dX0_readLine_31 rfl rfl ?_
        refine ax_iconst (pc' := 33) (v := (2 : Int32)) dX0_readLine_32 (by decide) rfl ?_
        refine ay_V1 (pc' := 36) (ce' := 0) (sl' := 0) (mc2 := 0) (ms2 := 0) (I2 := i_X10_fail) dX0_readLine_33 ml_X0_51 sh_1 (by decide) rfl rfl rfl rfl rfl rfl rfl rfl rfl (ac_M.imp (o_X10_fail _ (2 : Int32) H) ?_)
        rintro _ _ ⟨r33, s33, rfl, rfl, H⟩
        obtain ⟨hb, H⟩ := H
        exact ax_zret dX0_readLine_36 rfl hb rfl rfl ⟨_, _, rfl, rfl, H⟩
    · have H := H.2 hc16
      refine ax_iconst (pc' := 20) (v := (0 : Int32)) dX0_readLine_19 (by decide) rfl ?_
      exact ax_zret dX0_readLine_20 rfl rfl rfl rfl ⟨_, _, rfl, rfl, H⟩
theorem ol_X0_read_6 {g : ac_G} {τ : Nat → Nat → Int64} (d : Nat)  {Q : Int32 → ac_m → Prop}    {x2 : Int32} {s : ac_m} (H : l_X0_read_6  Q    x2 s) : ac_X g i_X0_read (d + 4) 0 0 (liI τ Q) 0 0 6 [some (.ref 35), some (.ref 1), some (.int x2)] [] (false, 586, SH, s, τ) := by
  refine H (fun x2 s => ac_X g i_X0_read (d + 4) 0 0 (liI τ Q) 0 0 6 [some (.ref 35), some (.ref 1), some (.int x2)] [] (false, 586, SH, s, τ)) ?_
  intro x2 s H
  refine ax_iload_n (pc' := 7) dX0_read_6 rfl rfl ?_
  refine ax_aload_n (pc' := 8) dX0_read_7 rfl rfl ?_
  refine ax_getI (pc' := 11) dX0_read_8 fl_X0_34 sh_1 rfl rfl rfl ?_
  refine ax_icmp_gt (pc' := 14) (tgt := 39) dX0_read_11 (by decide) rfl (fun hc11 => ?_) (fun hc11 => ?_)
  · have H := H.1 hc11
    refine ax_iconst (pc' := 40) (v := (1 : Int32)) dX0_read_39 (by decide) rfl ?_
    exact ax_zret dX0_read_40 rfl rfl rfl rfl ⟨_, _, rfl, rfl, H⟩
  · have H := H.2 hc11
    refine ax_aload_n (pc' := 15) dX0_read_14 rfl rfl ?_
    refine ay_V0 (pc' := 18) (ce' := 0) (sl' := 0) (mc2 := 0) (ms2 := 0) (I2 := i_X10_ended) dX0_read_15 ml_X0_39 sh_1 (by decide) rfl rfl rfl rfl rfl rfl rfl rfl rfl (ac_M.imp (o_X10_ended _  H) ?_)
    rintro _ _ ⟨r15, s15, rfl, rfl, H⟩
    refine ax_if_eq (pc' := 21) (tgt := 23) dX0_read_18 (by decide) rfl (fun hc18 => ?_) (fun hc18 => ?_)
    · have H := H.1 hc18
      refine ax_aload_n (pc' := 24) dX0_read_23 rfl rfl ?_
      refine ax_aload_n (pc' := 25) dX0_read_24 rfl rfl ?_
      refine ay_V1 (pc' := 28) (ce' := 0) (sl' := 0) (mc2 := 0) (ms2 := 0) (I2 := i_X0_readLine) dX0_read_25 ml_X0_43 sh_35 (by decide) rfl rfl rfl rfl rfl rfl rfl rfl rfl (ac_M.imp (o_X0_readLine _  H) ?_)
      rintro _ _ ⟨r25, s25, rfl, rfl, H⟩
      refine ax_if_ne (pc' := 31) (tgt := 33) dX0_read_28 (by decide) rfl (fun hc28 => ?_) (fun hc28 => ?_)
      · have H := H.1 hc28
        refine ax_iinc (pc' := 36) (v := (x2 + (1 : Int32))) dX0_read_33 rfl rfl rfl rfl rfl ?_
        refine ax_goto (tgt := 6) dX0_read_36 (by decide) ?_
        exact H
      · have H := H.2 hc28
        refine ax_iconst (pc' := 32) (v := (0 : Int32)) dX0_read_31 (by decide) rfl ?_
        exact ax_zret dX0_read_32 rfl rfl rfl rfl ⟨_, _, rfl, rfl, H⟩
    · have H := H.2 hc18
      refine ax_iconst (pc' := 22) (v := (1 : Int32)) dX0_read_21 (by decide) rfl ?_
      exact ax_zret dX0_read_22 rfl rfl rfl rfl ⟨_, _, rfl, rfl, H⟩
theorem o_X0_read {g : ac_G} {τ : Nat → Nat → Int64} (d : Nat)  {Q : Int32 → ac_m → Prop} {s : ac_m} (H : w_X0_read  Q s) : ac_M g i_X0_read (d + 4) 0 0 [.ref 35, .ref 1] (false, 586, SH, s, τ) (liI τ Q) := by
  refine ac_ofX (by decide +kernel) rfl rfl rfl ?_
  refine ax_aload_n (pc' := 1) dX0_read_0 rfl rfl ?_
  refine ay_V0 (pc' := 4) (ce' := 0) (sl' := 0) (mc2 := 0) (ms2 := 0) (I2 := i_X0_clear) dX0_read_1 ml_X0_19 sh_35 (by decide) rfl rfl rfl rfl rfl rfl rfl rfl rfl (ac_M.imp (o_X0_clear _ 35 is_Bk35 H) ?_)
  rintro _ _ ⟨s1, rfl, rfl, H⟩
  refine ax_iconst (pc' := 5) (v := (0 : Int32)) dX0_read_4 (by decide) rfl ?_
  refine ax_istore_n (pc' := 6) dX0_read_5 rfl rfl rfl ?_
  refine ol_X0_read_6 d       H
theorem o_X0_hasLine {g : ac_G} {τ : Nat → Nat → Int64} (d : Nat) (p1 : Int32) {Q : Int32 → ac_m → Prop} {s : ac_m} (H : w_X0_hasLine p1 Q s) : ac_M g i_X0_hasLine d 0 0 [.ref 33, .int p1] (false, 586, SH, s, τ) (liI τ Q) := by
  refine ac_ofX (by decide +kernel) rfl rfl rfl ?_
  refine ax_iload_n (pc' := 1) dX0_hasLine_0 rfl rfl ?_
  refine ax_if_lt (pc' := 4) (tgt := 24) dX0_hasLine_1 (by decide) rfl (fun hc1 => ?_) (fun hc1 => ?_)
  · have H := H.1 hc1
    refine ax_iconst (pc' := 25) (v := (0 : Int32)) dX0_hasLine_24 (by decide) rfl ?_
    exact ax_zret dX0_hasLine_25 rfl rfl rfl rfl ⟨_, _, rfl, rfl, H⟩
  · have H := H.2 hc1
    refine ax_iload_n (pc' := 5) dX0_hasLine_4 rfl rfl ?_
    refine ax_bipush (pc' := 7) (v := (12 : Int32)) dX0_hasLine_5 (by decide) rfl ?_
    refine ax_icmp_gt (pc' := 10) (tgt := 24) dX0_hasLine_7 (by decide) rfl (fun hc7 => ?_) (fun hc7 => ?_)
    · have H := H.1 hc7
      refine ax_iconst (pc' := 25) (v := (0 : Int32)) dX0_hasLine_24 (by decide) rfl ?_
      exact ax_zret dX0_hasLine_25 rfl rfl rfl rfl ⟨_, _, rfl, rfl, H⟩
    · have H := H.2 hc7
      refine ax_aload_n (pc' := 11) dX0_hasLine_10 rfl rfl ?_
      refine ax_getR (pc' := 14) dX0_hasLine_11 fl_X0_9 sh_33 rfl rfl rfl ?_
      refine ax_iload_n (pc' := 15) dX0_hasLine_14 rfl rfl ?_
      obtain ⟨hj15, H⟩ := H
      refine ax_iald (pc' := 16) dX0_hasLine_15 sh_34 hj15 rfl rfl ?_
      refine ax_iconst (pc' := 17) (v := (-1 : Int32)) dX0_hasLine_16 (by decide) rfl ?_
      refine ax_icmp_eq (pc' := 20) (tgt := 24) dX0_hasLine_17 (by decide) rfl (fun hc17 => ?_) (fun hc17 => ?_)
      · have H := H.1 hc17
        refine ax_iconst (pc' := 25) (v := (0 : Int32)) dX0_hasLine_24 (by decide) rfl ?_
        exact ax_zret dX0_hasLine_25 rfl rfl rfl rfl ⟨_, _, rfl, rfl, H⟩
      · have H := H.2 hc17
        refine ax_iconst (pc' := 21) (v := (1 : Int32)) dX0_hasLine_20 (by decide) rfl ?_
        refine ax_goto (tgt := 25) dX0_hasLine_21 (by decide) ?_
        exact ax_zret dX0_hasLine_25 rfl rfl rfl rfl ⟨_, _, rfl, rfl, H⟩
theorem o_X0_allows {g : ac_G} {τ : Nat → Nat → Int64} (d : Nat) (p1 : Int32) (p2 : Int32) {Q : Int32 → ac_m → Prop} {s : ac_m} (H : w_X0_allows p1 p2 Q s) : ac_M g i_X0_allows d 0 0 [.ref 33, .int p1, .int p2] (false, 586, SH, s, τ) (liI τ Q) := by
  refine ac_ofX (by decide +kernel) rfl rfl rfl ?_
  refine ax_iload_n (pc' := 1) dX0_allows_0 rfl rfl ?_
  refine ax_if_lt (pc' := 4) (tgt := 30) dX0_allows_1 (by decide) rfl (fun hc1 => ?_) (fun hc1 => ?_)
  · have H := H.1 hc1
    refine ax_iconst (pc' := 31) (v := (1 : Int32)) dX0_allows_30 (by decide) rfl ?_
    refine ax_goto (tgt := 35) dX0_allows_31 (by decide) ?_
    exact ax_zret dX0_allows_35 rfl rfl rfl rfl ⟨_, _, rfl, rfl, H⟩
  · have H := H.2 hc1
    refine ax_iload_n (pc' := 5) dX0_allows_4 rfl rfl ?_
    refine ax_bipush (pc' := 7) (v := (12 : Int32)) dX0_allows_5 (by decide) rfl ?_
    refine ax_icmp_gt (pc' := 10) (tgt := 30) dX0_allows_7 (by decide) rfl (fun hc7 => ?_) (fun hc7 => ?_)
    · have H := H.1 hc7
      refine ax_iconst (pc' := 31) (v := (1 : Int32)) dX0_allows_30 (by decide) rfl ?_
      refine ax_goto (tgt := 35) dX0_allows_31 (by decide) ?_
      exact ax_zret dX0_allows_35 rfl rfl rfl rfl ⟨_, _, rfl, rfl, H⟩
    · have H := H.2 hc7
      refine ax_aload_n (pc' := 11) dX0_allows_10 rfl rfl ?_
      refine ax_getR (pc' := 14) dX0_allows_11 fl_X0_9 sh_33 rfl rfl rfl ?_
      refine ax_iload_n (pc' := 15) dX0_allows_14 rfl rfl ?_
      obtain ⟨hj15, H⟩ := H
      refine ax_iald (pc' := 16) dX0_allows_15 sh_34 hj15 rfl rfl ?_
      refine ax_iconst (pc' := 17) (v := (-1 : Int32)) dX0_allows_16 (by decide) rfl ?_
      refine ax_icmp_eq (pc' := 20) (tgt := 30) dX0_allows_17 (by decide) rfl (fun hc17 => ?_) (fun hc17 => ?_)
      · have H := H.1 hc17
        refine ax_iconst (pc' := 31) (v := (1 : Int32)) dX0_allows_30 (by decide) rfl ?_
        refine ax_goto (tgt := 35) dX0_allows_31 (by decide) ?_
        exact ax_zret dX0_allows_35 rfl rfl rfl rfl ⟨_, _, rfl, rfl, H⟩
      · have H := H.2 hc17
        refine ax_aload_n (pc' := 21) dX0_allows_20 rfl rfl ?_
        refine ax_getR (pc' := 24) dX0_allows_21 fl_X0_9 sh_33 rfl rfl rfl ?_
        refine ax_iload_n (pc' := 25) dX0_allows_24 rfl rfl ?_
        obtain ⟨hj25, H⟩ := H
        refine ax_iald (pc' := 26) dX0_allows_25 sh_34 hj25 rfl rfl ?_
        refine ax_iload_n (pc' := 27) dX0_allows_26 rfl rfl ?_
        refine ax_icmp_ne (pc' := 30) (tgt := 34) dX0_allows_27 (by decide) rfl (fun hc27 => ?_) (fun hc27 => ?_)
        · have H := H.1 hc27
          refine ax_iconst (pc' := 35) (v := (0 : Int32)) dX0_allows_34 (by decide) rfl ?_
          exact ax_zret dX0_allows_35 rfl rfl rfl rfl ⟨_, _, rfl, rfl, H⟩
        · have H := H.2 hc27
          refine ax_iconst (pc' := 31) (v := (1 : Int32)) dX0_allows_30 (by decide) rfl ?_
          refine ax_goto (tgt := 35) dX0_allows_31 (by decide) ?_
          exact ax_zret dX0_allows_35 rfl rfl rfl rfl ⟨_, _, rfl, rfl, H⟩
theorem ol_X0_lastDay_3 {g : ac_G} {τ : Nat → Nat → Int64} (d : Nat)  {Q : Int32 → ac_m → Prop}    {x1 : Int32} {s : ac_m} (H : l_X0_lastDay_3  Q    x1 s) : ac_X g i_X0_lastDay d 0 0 (liI τ Q) 0 0 3 [some (.ref 33), some (.int x1)] [] (false, 586, SH, s, τ) := by
  refine H (fun x1 s => ac_X g i_X0_lastDay d 0 0 (liI τ Q) 0 0 3 [some (.ref 33), some (.int x1)] [] (false, 586, SH, s, τ)) ?_
  intro x1 s H
  refine ax_iload_n (pc' := 4) dX0_lastDay_3 rfl rfl ?_
  refine ax_if_le (pc' := 7) (tgt := 25) dX0_lastDay_4 (by decide) rfl (fun hc4 => ?_) (fun hc4 => ?_)
  · have H := H.1 hc4
    refine ax_iconst (pc' := 26) (v := (0 : Int32)) dX0_lastDay_25 (by decide) rfl ?_
    exact ax_iret dX0_lastDay_26 rfl rfl rfl ⟨_, _, rfl, rfl, H⟩
  · have H := H.2 hc4
    refine ax_aload_n (pc' := 8) dX0_lastDay_7 rfl rfl ?_
    refine ax_getR (pc' := 11) dX0_lastDay_8 fl_X0_9 sh_33 rfl rfl rfl ?_
    refine ax_iload_n (pc' := 12) dX0_lastDay_11 rfl rfl ?_
    obtain ⟨hj12, H⟩ := H
    refine ax_iald (pc' := 13) dX0_lastDay_12 sh_34 hj12 rfl rfl ?_
    refine ax_iconst (pc' := 14) (v := (-1 : Int32)) dX0_lastDay_13 (by decide) rfl ?_
    refine ax_icmp_eq (pc' := 17) (tgt := 19) dX0_lastDay_14 (by decide) rfl (fun hc14 => ?_) (fun hc14 => ?_)
    · have H := H.1 hc14
      refine ax_iinc (pc' := 22) (v := (x1 + (-1 : Int32))) dX0_lastDay_19 rfl rfl rfl rfl rfl ?_
      refine ax_goto (tgt := 3) dX0_lastDay_22 (by decide) ?_
      exact H
    · have H := H.2 hc14
      refine ax_iload_n (pc' := 18) dX0_lastDay_17 rfl rfl ?_
      exact ax_iret dX0_lastDay_18 rfl rfl rfl ⟨_, _, rfl, rfl, H⟩
theorem o_X0_lastDay {g : ac_G} {τ : Nat → Nat → Int64} (d : Nat)  {Q : Int32 → ac_m → Prop} {s : ac_m} (H : w_X0_lastDay  Q s) : ac_M g i_X0_lastDay d 0 0 [.ref 33] (false, 586, SH, s, τ) (liI τ Q) := by
  refine ac_ofX (by decide +kernel) rfl rfl rfl ?_
  refine ax_bipush (pc' := 2) (v := (12 : Int32)) dX0_lastDay_0 (by decide) rfl ?_
  refine ax_istore_n (pc' := 3) dX0_lastDay_2 rfl rfl rfl ?_
  refine ol_X0_lastDay_3 d       H
