theorem o_X10_hasRoom {g : ac_G} {τ : Nat → Nat → Int64} (d : Nat)  {Q : Int32 → ac_m → Prop} {s : ac_m} (H : w_X10_hasRoom  Q s) : ac_M g i_X10_hasRoom d 0 0 [.ref 1] (false, 586, SH, s, τ) (liI τ Q) := by
  refine ac_ofX (by decide +kernel) rfl rfl rfl ?_
  refine ax_aload_n (pc' := 1) dX10_hasRoom_0 rfl rfl ?_
  refine ax_getI (pc' := 4) dX10_hasRoom_1 fl_X10_15 sh_1 rfl rfl rfl ?_
  refine ax_bipush (pc' := 6) (v := (20 : Int32)) dX10_hasRoom_4 (by decide) rfl ?_
  refine ax_iadd (pc' := 7) dX10_hasRoom_6 rfl ?_
  refine ax_sipush (pc' := 10) (v := (600 : Int32)) dX10_hasRoom_7 (by decide) rfl ?_
  refine ax_icmp_gt (pc' := 13) (tgt := 17) dX10_hasRoom_10 (by decide) rfl (fun hc10 => ?_) (fun hc10 => ?_)
  · have H := H.1 hc10
    refine ax_iconst (pc' := 18) (v := (0 : Int32)) dX10_hasRoom_17 (by decide) rfl ?_
    exact ax_zret dX10_hasRoom_18 rfl rfl rfl rfl ⟨_, _, rfl, rfl, H⟩
  · have H := H.2 hc10
    refine ax_iconst (pc' := 14) (v := (1 : Int32)) dX10_hasRoom_13 (by decide) rfl ?_
    refine ax_goto (tgt := 18) dX10_hasRoom_14 (by decide) ?_
    exact ax_zret dX10_hasRoom_18 rfl rfl rfl rfl ⟨_, _, rfl, rfl, H⟩
theorem ol_X10_put_3 {g : ac_G} {τ : Nat → Nat → Int64} (d : Nat) (p1 : Int32) {Q : ac_m → Prop}  (f1 : Int32)  {x2 : Int32} {s : ac_m} (H : l_X10_put_3 p1 Q  f1  x2 s) : ac_X g i_X10_put d 0 0 (liV τ Q) 0 0 3 [some (.ref 1), some (.int f1), some (.int x2)] [] (false, 586, SH, s, τ) := by
  refine H (fun x2 s => ac_X g i_X10_put d 0 0 (liV τ Q) 0 0 3 [some (.ref 1), some (.int f1), some (.int x2)] [] (false, 586, SH, s, τ)) ?_
  intro x2 s H
  refine ax_iload_n (pc' := 4) dX10_put_3 rfl rfl ?_
  refine ax_if_lt (pc' := 7) (tgt := 53) dX10_put_4 (by decide) rfl (fun hc4 => ?_) (fun hc4 => ?_)
  · have H := H.1 hc4
    exact ax_vret dX10_put_53 rfl rfl rfl ⟨_, rfl, rfl, H⟩
  · have H := H.2 hc4
    refine ax_aload_n (pc' := 8) dX10_put_7 rfl rfl ?_
    refine ax_getI (pc' := 11) dX10_put_8 fl_X10_15 sh_1 rfl rfl rfl ?_
    refine ax_if_lt (pc' := 14) (tgt := 47) dX10_put_11 (by decide) rfl (fun hc11 => ?_) (fun hc11 => ?_)
    · have H := H.1 hc11
      refine ax_iinc (pc' := 50) (v := (x2 + (-8 : Int32))) dX10_put_47 rfl rfl rfl rfl rfl ?_
      refine ax_goto (tgt := 3) dX10_put_50 (by decide) ?_
      exact H
    · have H := H.2 hc11
      refine ax_aload_n (pc' := 15) dX10_put_14 rfl rfl ?_
      refine ax_getI (pc' := 18) dX10_put_15 fl_X10_15 sh_1 rfl rfl rfl ?_
      refine ax_sipush (pc' := 21) (v := (600 : Int32)) dX10_put_18 (by decide) rfl ?_
      refine ax_icmp_ge (pc' := 24) (tgt := 47) dX10_put_21 (by decide) rfl (fun hc21 => ?_) (fun hc21 => ?_)
      · have H := H.1 hc21
        refine ax_iinc (pc' := 50) (v := (x2 + (-8 : Int32))) dX10_put_47 rfl rfl rfl rfl rfl ?_
        refine ax_goto (tgt := 3) dX10_put_50 (by decide) ?_
        exact H
      · have H := H.2 hc21
        refine ax_aload_n (pc' := 25) dX10_put_24 rfl rfl ?_
        refine ax_getR (pc' := 28) dX10_put_25 fl_X10_9 sh_1 rfl rfl rfl ?_
        refine ax_aload_n (pc' := 29) dX10_put_28 rfl rfl ?_
        refine ax_getI (pc' := 32) dX10_put_29 fl_X10_15 sh_1 rfl rfl rfl ?_
        refine ax_iload_n (pc' := 33) dX10_put_32 rfl rfl ?_
        refine ax_iload_n (pc' := 34) dX10_put_33 rfl rfl ?_
        refine ax_ishr (pc' := 35) dX10_put_34 rfl ?_
        refine ax_i2b (pc' := 36) dX10_put_35 rfl ?_
        obtain ⟨hj36, H⟩ := H
        refine ax_bast (pc' := 37) dX10_put_36 sh_2 hj36 rfl rfl ?_
        refine ax_aload_n (pc' := 38) dX10_put_37 rfl rfl ?_
        refine ax_dup (pc' := 39) dX10_put_38 rfl rfl ?_
        refine ax_getI (pc' := 42) dX10_put_39 fl_X10_15 sh_1 rfl rfl rfl ?_
        refine ax_iconst (pc' := 43) (v := (1 : Int32)) dX10_put_42 (by decide) rfl ?_
        refine ax_iadd (pc' := 44) dX10_put_43 rfl ?_
        refine ax_putI (pc' := 47) dX10_put_44 fp_X10_15 sh_1 rfl rfl rfl ?_
        refine ax_iinc (pc' := 50) (v := (x2 + (-8 : Int32))) dX10_put_47 rfl rfl rfl rfl rfl ?_
        refine ax_goto (tgt := 3) dX10_put_50 (by decide) ?_
        exact H
theorem o_X10_put {g : ac_G} {τ : Nat → Nat → Int64} (d : Nat) (p1 : Int32) {Q : ac_m → Prop} {s : ac_m} (H : w_X10_put p1 Q s) : ac_M g i_X10_put d 0 0 [.ref 1, .int p1] (false, 586, SH, s, τ) (liV τ Q) := by
  refine ac_ofX (by decide +kernel) rfl rfl rfl ?_
  refine ax_bipush (pc' := 2) (v := (24 : Int32)) dX10_put_0 (by decide) rfl ?_
  refine ax_istore_n (pc' := 3) dX10_put_2 rfl rfl rfl ?_
  refine ol_X10_put_3 d p1  _    H
theorem o_X10_open {g : ac_G} {τ : Nat → Nat → Int64} (d : Nat) (p1 : Int32) {Q : ac_m → Prop} {s : ac_m} (H : w_X10_open p1 Q s) : ac_M g i_X10_open d 0 0 [.ref 1, .int p1] (false, 586, SH, s, τ) (liV τ Q) := by
  refine ac_ofX (by decide +kernel) rfl rfl rfl ?_
  refine ax_aload_n (pc' := 1) dX10_open_0 rfl rfl ?_
  refine ax_iload_n (pc' := 2) dX10_open_1 rfl rfl ?_
  refine ax_putI (pc' := 5) dX10_open_2 fp_X10_19 sh_1 rfl rfl rfl ?_
  refine ax_aload_n (pc' := 6) dX10_open_5 rfl rfl ?_
  refine ax_iconst (pc' := 7) (v := (0 : Int32)) dX10_open_6 (by decide) rfl ?_
  refine ax_putI (pc' := 10) dX10_open_7 fp_X10_15 sh_1 rfl rfl rfl ?_
  refine ax_aload_n (pc' := 11) dX10_open_10 rfl rfl ?_
  refine ax_iconst (pc' := 12) (v := (0 : Int32)) dX10_open_11 (by decide) rfl ?_
  refine ax_putI (pc' := 15) dX10_open_12 fp_X10_22 sh_1 rfl rfl rfl ?_
  refine ax_aload_n (pc' := 16) dX10_open_15 rfl rfl ?_
  refine ax_iconst (pc' := 17) (v := (0 : Int32)) dX10_open_16 (by decide) rfl ?_
  refine ax_putI (pc' := 20) dX10_open_17 fp_X10_25 sh_1 rfl rfl rfl ?_
  refine ax_aload_n (pc' := 21) dX10_open_20 rfl rfl ?_
  refine ax_iconst (pc' := 22) (v := (0 : Int32)) dX10_open_21 (by decide) rfl ?_
  refine ax_putI (pc' := 25) dX10_open_22 fp_X10_28 sh_1 rfl rfl rfl ?_
  refine ax_aload_n (pc' := 26) dX10_open_25 rfl rfl ?_
  refine ax_iconst (pc' := 27) (v := (-1 : Int32)) dX10_open_26 (by decide) rfl ?_
  refine ax_putI (pc' := 30) dX10_open_27 fp_X10_31 sh_1 rfl rfl rfl ?_
  exact ax_vret dX10_open_30 rfl rfl rfl ⟨_, rfl, rfl, H⟩
theorem o_X10_faultAnswer {g : ac_G} {τ : Nat → Nat → Int64} (d : Nat)  {Q : Int32 → ac_m → Prop} {s : ac_m} (H : w_X10_faultAnswer  Q s) : ac_M g i_X10_faultAnswer d 0 0 [.ref 1] (false, 586, SH, s, τ) (liI τ Q) := by
  refine ac_ofX (by decide +kernel) rfl rfl rfl ?_
  refine ax_aload_n (pc' := 1) dX10_faultAnswer_0 rfl rfl ?_
  refine ax_getI (pc' := 4) dX10_faultAnswer_1 fl_X10_28 sh_1 rfl rfl rfl ?_
  refine ax_bipush (pc' := 6) (v := (10 : Int32)) dX10_faultAnswer_4 (by decide) rfl ?_
  refine ax_isub (pc' := 7) dX10_faultAnswer_6 rfl ?_
  exact ax_iret dX10_faultAnswer_7 rfl rfl rfl ⟨_, _, rfl, rfl, H⟩
theorem o_X10_fail {g : ac_G} {τ : Nat → Nat → Int64} (d : Nat) (p1 : Int32) {Q : Int32 → ac_m → Prop} {s : ac_m} (H : w_X10_fail p1 Q s) : ac_M g i_X10_fail d 0 0 [.ref 1, .int p1] (false, 586, SH, s, τ) (liI τ Q) := by
  refine ac_ofX (by decide +kernel) rfl rfl rfl ?_
  refine ax_aload_n (pc' := 1) dX10_fail_0 rfl rfl ?_
  refine ax_iload_n (pc' := 2) dX10_fail_1 rfl rfl ?_
  refine ax_putI (pc' := 5) dX10_fail_2 fp_X10_28 sh_1 rfl rfl rfl ?_
  refine ax_aload_n (pc' := 6) dX10_fail_5 rfl rfl ?_
  refine ax_aload_n (pc' := 7) dX10_fail_6 rfl rfl ?_
  refine ax_getI (pc' := 10) dX10_fail_7 fl_X10_25 sh_1 rfl rfl rfl ?_
  refine ax_putI (pc' := 13) dX10_fail_10 fp_X10_31 sh_1 rfl rfl rfl ?_
  refine ax_iconst (pc' := 14) (v := (0 : Int32)) dX10_fail_13 (by decide) rfl ?_
  exact ax_zret dX10_fail_14 rfl rfl rfl rfl ⟨_, _, rfl, rfl, H⟩
theorem o_X10_byteAt {g : ac_G} {τ : Nat → Nat → Int64} (d : Nat) (p1 : Int32) {Q : Int32 → ac_m → Prop} {s : ac_m} (H : w_X10_byteAt p1 Q s) : ac_M g i_X10_byteAt d 0 0 [.ref 1, .int p1] (false, 586, SH, s, τ) (liI τ Q) := by
  refine ac_ofX (by decide +kernel) rfl rfl rfl ?_
  refine ax_iload_n (pc' := 1) dX10_byteAt_0 rfl rfl ?_
  refine ax_if_lt (pc' := 4) (tgt := 28) dX10_byteAt_1 (by decide) rfl (fun hc1 => ?_) (fun hc1 => ?_)
  · have H := H.1 hc1
    refine ax_iconst (pc' := 29) (v := (-1 : Int32)) dX10_byteAt_28 (by decide) rfl ?_
    exact ax_iret dX10_byteAt_29 rfl rfl rfl ⟨_, _, rfl, rfl, H⟩
  · have H := H.2 hc1
    refine ax_iload_n (pc' := 5) dX10_byteAt_4 rfl rfl ?_
    refine ax_aload_n (pc' := 6) dX10_byteAt_5 rfl rfl ?_
    refine ax_getI (pc' := 9) dX10_byteAt_6 fl_X10_19 sh_1 rfl rfl rfl ?_
    refine ax_icmp_ge (pc' := 12) (tgt := 28) dX10_byteAt_9 (by decide) rfl (fun hc9 => ?_) (fun hc9 => ?_)
    · have H := H.1 hc9
      refine ax_iconst (pc' := 29) (v := (-1 : Int32)) dX10_byteAt_28 (by decide) rfl ?_
      exact ax_iret dX10_byteAt_29 rfl rfl rfl ⟨_, _, rfl, rfl, H⟩
    · have H := H.2 hc9
      refine ax_iload_n (pc' := 13) dX10_byteAt_12 rfl rfl ?_
      refine ax_sipush (pc' := 16) (v := (600 : Int32)) dX10_byteAt_13 (by decide) rfl ?_
      refine ax_icmp_ge (pc' := 19) (tgt := 28) dX10_byteAt_16 (by decide) rfl (fun hc16 => ?_) (fun hc16 => ?_)
      · have H := H.1 hc16
        refine ax_iconst (pc' := 29) (v := (-1 : Int32)) dX10_byteAt_28 (by decide) rfl ?_
        exact ax_iret dX10_byteAt_29 rfl rfl rfl ⟨_, _, rfl, rfl, H⟩
      · have H := H.2 hc16
        refine ax_aload_n (pc' := 20) dX10_byteAt_19 rfl rfl ?_
        refine ax_getR (pc' := 23) dX10_byteAt_20 fl_X10_9 sh_1 rfl rfl rfl ?_
        refine ax_iload_n (pc' := 24) dX10_byteAt_23 rfl rfl ?_
        obtain ⟨hj24, H⟩ := H
        refine ax_bald (pc' := 25) dX10_byteAt_24 sh_2 hj24 rfl rfl ?_
        refine ax_goto (tgt := 29) dX10_byteAt_25 (by decide) ?_
        exact ax_iret dX10_byteAt_29 rfl rfl rfl ⟨_, _, rfl, rfl, H⟩
theorem ol_X10_startToken_5 {g : ac_G} {τ : Nat → Nat → Int64} (d : Nat)  {Q : ac_m → Prop}    {x1 : Int32} {s : ac_m} (H : l_X10_startToken_5  Q    x1 s) : ac_X g i_X10_startToken d 0 0 (liV τ Q) 0 0 5 [some (.ref 1), some (.int x1)] [] (false, 586, SH, s, τ) := by
  refine H (fun x1 s => ac_X g i_X10_startToken d 0 0 (liV τ Q) 0 0 5 [some (.ref 1), some (.int x1)] [] (false, 586, SH, s, τ)) ?_
  intro x1 s H
  refine ax_iload_n (pc' := 6) dX10_startToken_5 rfl rfl ?_
  refine ax_if_lt (pc' := 9) (tgt := 48) dX10_startToken_6 (by decide) rfl (fun hc6 => ?_) (fun hc6 => ?_)
  · have H := H.1 hc6
    refine ax_aload_n (pc' := 49) dX10_startToken_48 rfl rfl ?_
    refine ax_aload_n (pc' := 50) dX10_startToken_49 rfl rfl ?_
    refine ax_getI (pc' := 53) dX10_startToken_50 fl_X10_22 sh_1 rfl rfl rfl ?_
    refine ax_putI (pc' := 56) dX10_startToken_53 fp_X10_25 sh_1 rfl rfl rfl ?_
    exact ax_vret dX10_startToken_56 rfl rfl rfl ⟨_, rfl, rfl, H⟩
  · have H := H.2 hc6
    refine ax_iload_n (pc' := 10) dX10_startToken_9 rfl rfl ?_
    refine ax_aload_n (pc' := 11) dX10_startToken_10 rfl rfl ?_
    refine ax_getI (pc' := 14) dX10_startToken_11 fl_X10_19 sh_1 rfl rfl rfl ?_
    refine ax_icmp_ge (pc' := 17) (tgt := 48) dX10_startToken_14 (by decide) rfl (fun hc14 => ?_) (fun hc14 => ?_)
    · have H := H.1 hc14
      refine ax_aload_n (pc' := 49) dX10_startToken_48 rfl rfl ?_
      refine ax_aload_n (pc' := 50) dX10_startToken_49 rfl rfl ?_
      refine ax_getI (pc' := 53) dX10_startToken_50 fl_X10_22 sh_1 rfl rfl rfl ?_
      refine ax_putI (pc' := 56) dX10_startToken_53 fp_X10_25 sh_1 rfl rfl rfl ?_
      exact ax_vret dX10_startToken_56 rfl rfl rfl ⟨_, rfl, rfl, H⟩
    · have H := H.2 hc14
      refine ax_iload_n (pc' := 18) dX10_startToken_17 rfl rfl ?_
      refine ax_sipush (pc' := 21) (v := (600 : Int32)) dX10_startToken_18 (by decide) rfl ?_
      refine ax_icmp_ge (pc' := 24) (tgt := 48) dX10_startToken_21 (by decide) rfl (fun hc21 => ?_) (fun hc21 => ?_)
      · have H := H.1 hc21
        refine ax_aload_n (pc' := 49) dX10_startToken_48 rfl rfl ?_
        refine ax_aload_n (pc' := 50) dX10_startToken_49 rfl rfl ?_
        refine ax_getI (pc' := 53) dX10_startToken_50 fl_X10_22 sh_1 rfl rfl rfl ?_
        refine ax_putI (pc' := 56) dX10_startToken_53 fp_X10_25 sh_1 rfl rfl rfl ?_
        exact ax_vret dX10_startToken_56 rfl rfl rfl ⟨_, rfl, rfl, H⟩
      · have H := H.2 hc21
        refine ax_aload_n (pc' := 25) dX10_startToken_24 rfl rfl ?_
        refine ax_getR (pc' := 28) dX10_startToken_25 fl_X10_9 sh_1 rfl rfl rfl ?_
        refine ax_iload_n (pc' := 29) dX10_startToken_28 rfl rfl ?_
        obtain ⟨hj29, H⟩ := H
        refine ax_bald (pc' := 30) dX10_startToken_29 sh_2 hj29 rfl rfl ?_
        refine ax_bipush (pc' := 32) (v := (32 : Int32)) dX10_startToken_30 (by decide) rfl ?_
        refine ax_icmp_ne (pc' := 35) (tgt := 48) dX10_startToken_32 (by decide) rfl (fun hc32 => ?_) (fun hc32 => ?_)
        · have H := H.1 hc32
          refine ax_aload_n (pc' := 49) dX10_startToken_48 rfl rfl ?_
          refine ax_aload_n (pc' := 50) dX10_startToken_49 rfl rfl ?_
          refine ax_getI (pc' := 53) dX10_startToken_50 fl_X10_22 sh_1 rfl rfl rfl ?_
          refine ax_putI (pc' := 56) dX10_startToken_53 fp_X10_25 sh_1 rfl rfl rfl ?_
          exact ax_vret dX10_startToken_56 rfl rfl rfl ⟨_, rfl, rfl, H⟩
        · have H := H.2 hc32
          refine ax_aload_n (pc' := 36) dX10_startToken_35 rfl rfl ?_
          refine ax_iload_n (pc' := 37) dX10_startToken_36 rfl rfl ?_
          refine ax_iconst (pc' := 38) (v := (1 : Int32)) dX10_startToken_37 (by decide) rfl ?_
          refine ax_iadd (pc' := 39) dX10_startToken_38 rfl ?_
          refine ax_putI (pc' := 42) dX10_startToken_39 fp_X10_22 sh_1 rfl rfl rfl ?_
          refine ax_iinc (pc' := 45) (v := (x1 + (1 : Int32))) dX10_startToken_42 rfl rfl rfl rfl rfl ?_
          refine ax_goto (tgt := 5) dX10_startToken_45 (by decide) ?_
          exact H
theorem o_X10_startToken {g : ac_G} {τ : Nat → Nat → Int64} (d : Nat)  {Q : ac_m → Prop} {s : ac_m} (H : w_X10_startToken  Q s) : ac_M g i_X10_startToken d 0 0 [.ref 1] (false, 586, SH, s, τ) (liV τ Q) := by
  refine ac_ofX (by decide +kernel) rfl rfl rfl ?_
  refine ax_aload_n (pc' := 1) dX10_startToken_0 rfl rfl ?_
  refine ax_getI (pc' := 4) dX10_startToken_1 fl_X10_22 sh_1 rfl rfl rfl ?_
  refine ax_istore_n (pc' := 5) dX10_startToken_4 rfl rfl rfl ?_
  refine ol_X10_startToken_5 d       H
theorem o_X10_ended {g : ac_G} {τ : Nat → Nat → Int64} (d : Nat)  {Q : Int32 → ac_m → Prop} {s : ac_m} (H : w_X10_ended  Q s) : ac_M g i_X10_ended (d + 1) 0 0 [.ref 1] (false, 586, SH, s, τ) (liI τ Q) := by
  refine ac_ofX (by decide +kernel) rfl rfl rfl ?_
  refine ax_aload_n (pc' := 1) dX10_ended_0 rfl rfl ?_
  refine ay_V0 (pc' := 4) (ce' := 0) (sl' := 0) (mc2 := 0) (ms2 := 0) (I2 := i_X10_startToken) dX10_ended_1 ml_X10_34 sh_1 (by decide) rfl rfl rfl rfl rfl rfl rfl rfl rfl (ac_M.imp (o_X10_startToken _  H) ?_)
  rintro _ _ ⟨s1, rfl, rfl, H⟩
  refine ax_aload_n (pc' := 5) dX10_ended_4 rfl rfl ?_
  refine ax_getI (pc' := 8) dX10_ended_5 fl_X10_22 sh_1 rfl rfl rfl ?_
  refine ax_aload_n (pc' := 9) dX10_ended_8 rfl rfl ?_
  refine ax_getI (pc' := 12) dX10_ended_9 fl_X10_19 sh_1 rfl rfl rfl ?_
  refine ax_icmp_lt (pc' := 15) (tgt := 19) dX10_ended_12 (by decide) rfl (fun hc12 => ?_) (fun hc12 => ?_)
  · have H := H.1 hc12
    refine ax_iconst (pc' := 20) (v := (0 : Int32)) dX10_ended_19 (by decide) rfl ?_
    exact ax_zret dX10_ended_20 rfl rfl rfl rfl ⟨_, _, rfl, rfl, H⟩
  · have H := H.2 hc12
    refine ax_iconst (pc' := 16) (v := (1 : Int32)) dX10_ended_15 (by decide) rfl ?_
    refine ax_goto (tgt := 20) dX10_ended_16 (by decide) ?_
    exact ax_zret dX10_ended_20 rfl rfl rfl rfl ⟨_, _, rfl, rfl, H⟩
theorem o_X10_passes {g : ac_G} {τ : Nat → Nat → Int64} (d : Nat) (p1 : Int32) {Q : Int32 → ac_m → Prop} {s : ac_m} (H : w_X10_passes p1 Q s) : ac_M g i_X10_passes (d + 1) 0 0 [.ref 1, .int p1] (false, 586, SH, s, τ) (liI τ Q) := by
  refine ac_ofX (by decide +kernel) rfl rfl rfl ?_
  refine ax_aload_n (pc' := 1) dX10_passes_0 rfl rfl ?_
  refine ay_V0 (pc' := 4) (ce' := 0) (sl' := 0) (mc2 := 0) (ms2 := 0) (I2 := i_X10_startToken) dX10_passes_1 ml_X10_34 sh_1 (by decide) rfl rfl rfl rfl rfl rfl rfl rfl rfl (ac_M.imp (o_X10_startToken _  H) ?_)
  rintro _ _ ⟨s1, rfl, rfl, H⟩
  refine ax_aload_n (pc' := 5) dX10_passes_4 rfl rfl ?_
  refine ax_aload_n (pc' := 6) dX10_passes_5 rfl rfl ?_
  refine ax_getI (pc' := 9) dX10_passes_6 fl_X10_22 sh_1 rfl rfl rfl ?_
  refine ay_V1 (pc' := 12) (ce' := 0) (sl' := 0) (mc2 := 0) (ms2 := 0) (I2 := i_X10_byteAt) dX10_passes_9 ml_X10_37 sh_1 (by decide) rfl rfl rfl rfl rfl rfl rfl rfl rfl (ac_M.imp (o_X10_byteAt _ (s1 1 3) H) ?_)
  rintro _ _ ⟨r9, s9, rfl, rfl, H⟩
  refine ax_iload_n (pc' := 13) dX10_passes_12 rfl rfl ?_
  refine ax_icmp_eq (pc' := 16) (tgt := 18) dX10_passes_13 (by decide) rfl (fun hc13 => ?_) (fun hc13 => ?_)
  · have H := H.1 hc13
    refine ax_aload_n (pc' := 19) dX10_passes_18 rfl rfl ?_
    refine ax_dup (pc' := 20) dX10_passes_19 rfl rfl ?_
    refine ax_getI (pc' := 23) dX10_passes_20 fl_X10_22 sh_1 rfl rfl rfl ?_
    refine ax_iconst (pc' := 24) (v := (1 : Int32)) dX10_passes_23 (by decide) rfl ?_
    refine ax_iadd (pc' := 25) dX10_passes_24 rfl ?_
    refine ax_putI (pc' := 28) dX10_passes_25 fp_X10_22 sh_1 rfl rfl rfl ?_
    refine ax_iconst (pc' := 29) (v := (1 : Int32)) dX10_passes_28 (by decide) rfl ?_
    exact ax_zret dX10_passes_29 rfl rfl rfl rfl ⟨_, _, rfl, rfl, H⟩
  · have H := H.2 hc13
    refine ax_iconst (pc' := 17) (v := (0 : Int32)) dX10_passes_16 (by decide) rfl ?_
    exact ax_zret dX10_passes_17 rfl rfl rfl rfl ⟨_, _, rfl, rfl, H⟩
theorem o_X10_expects {g : ac_G} {τ : Nat → Nat → Int64} (d : Nat) (p1 : Int32) {Q : Int32 → ac_m → Prop} {s : ac_m} (H : w_X10_expects p1 Q s) : ac_M g i_X10_expects (d + 1) 0 0 [.ref 1, .int p1] (false, 586, SH, s, τ) (liI τ Q) := by
  refine ac_ofX (by decide +kernel) rfl rfl rfl ?_
  refine ax_aload_n (pc' := 1) dX10_expects_0 rfl rfl ?_
  refine ay_V0 (pc' := 4) (ce' := 0) (sl' := 0) (mc2 := 0) (ms2 := 0) (I2 := i_X10_startToken) dX10_expects_1 ml_X10_34 sh_1 (by decide) rfl rfl rfl rfl rfl rfl rfl rfl rfl (ac_M.imp (o_X10_startToken _  H) ?_)
  rintro _ _ ⟨s1, rfl, rfl, H⟩
  refine ax_aload_n (pc' := 5) dX10_expects_4 rfl rfl ?_
  refine ax_aload_n (pc' := 6) dX10_expects_5 rfl rfl ?_
  refine ax_getI (pc' := 9) dX10_expects_6 fl_X10_22 sh_1 rfl rfl rfl ?_
  refine ay_V1 (pc' := 12) (ce' := 0) (sl' := 0) (mc2 := 0) (ms2 := 0) (I2 := i_X10_byteAt) dX10_expects_9 ml_X10_37 sh_1 (by decide) rfl rfl rfl rfl rfl rfl rfl rfl rfl (ac_M.imp (o_X10_byteAt _ (s1 1 3) H) ?_)
  rintro _ _ ⟨r9, s9, rfl, rfl, H⟩
  refine ax_iload_n (pc' := 13) dX10_expects_12 rfl rfl ?_
  refine ax_icmp_eq (pc' := 16) (tgt := 22) dX10_expects_13 (by decide) rfl (fun hc13 => ?_) (fun hc13 => ?_)
  · have H := H.1 hc13
    refine ax_aload_n (pc' := 23) dX10_expects_22 rfl rfl ?_
    refine ax_dup (pc' := 24) dX10_expects_23 rfl rfl ?_
    refine ax_getI (pc' := 27) dX10_expects_24 fl_X10_22 sh_1 rfl rfl rfl ?_
    refine ax_iconst (pc' := 28) (v := (1 : Int32)) dX10_expects_27 (by decide) rfl ?_
    refine ax_iadd (pc' := 29) dX10_expects_28 rfl ?_
    refine ax_putI (pc' := 32) dX10_expects_29 fp_X10_22 sh_1 rfl rfl rfl ?_
    refine ax_iconst (pc' := 33) (v := (1 : Int32)) dX10_expects_32 (by decide) rfl ?_
    exact ax_zret dX10_expects_33 rfl rfl rfl rfl ⟨_, _, rfl, rfl, H⟩
  · have H := H.2 hc13
    refine ax_aload_n (pc' := 17) dX10_expects_16 rfl rfl ?_
    refine ax_iconst (pc' := 18) (v := (1 : Int32)) dX10_expects_17 (by decide) rfl ?_
    refine ay_V1 (pc' := 21) (ce' := 0) (sl' := 0) (mc2 := 0) (ms2 := 0) (I2 := i_X10_fail) dX10_expects_18 ml_X10_41 sh_1 (by decide) rfl rfl rfl rfl rfl rfl rfl rfl rfl (ac_M.imp (o_X10_fail _ (1 : Int32) H) ?_)
    rintro _ _ ⟨r18, s18, rfl, rfl, H⟩
    obtain ⟨hb, H⟩ := H
    exact ax_zret dX10_expects_21 rfl hb rfl rfl ⟨_, _, rfl, rfl, H⟩
theorem o_X10_isLetter {g : ac_G} {τ : Nat → Nat → Int64} (d : Nat) (p1 : Int32) {Q : Int32 → ac_m → Prop} {s : ac_m} (H : w_X10_isLetter p1 Q s) : ac_M g i_X10_isLetter d 0 0 [.int p1] (false, 586, SH, s, τ) (liI τ Q) := by
  refine ac_ofX (by decide +kernel) rfl rfl rfl ?_
  refine ax_iload_n (pc' := 1) dX10_isLetter_0 rfl rfl ?_
  refine ax_bipush (pc' := 3) (v := (97 : Int32)) dX10_isLetter_1 (by decide) rfl ?_
  refine ax_icmp_lt (pc' := 6) (tgt := 16) dX10_isLetter_3 (by decide) rfl (fun hc3 => ?_) (fun hc3 => ?_)
  · have H := H.1 hc3
    refine ax_iconst (pc' := 17) (v := (0 : Int32)) dX10_isLetter_16 (by decide) rfl ?_
    exact ax_zret dX10_isLetter_17 rfl rfl rfl rfl ⟨_, _, rfl, rfl, H⟩
  · have H := H.2 hc3
    refine ax_iload_n (pc' := 7) dX10_isLetter_6 rfl rfl ?_
    refine ax_bipush (pc' := 9) (v := (122 : Int32)) dX10_isLetter_7 (by decide) rfl ?_
    refine ax_icmp_gt (pc' := 12) (tgt := 16) dX10_isLetter_9 (by decide) rfl (fun hc9 => ?_) (fun hc9 => ?_)
    · have H := H.1 hc9
      refine ax_iconst (pc' := 17) (v := (0 : Int32)) dX10_isLetter_16 (by decide) rfl ?_
      exact ax_zret dX10_isLetter_17 rfl rfl rfl rfl ⟨_, _, rfl, rfl, H⟩
    · have H := H.2 hc9
      refine ax_iconst (pc' := 13) (v := (1 : Int32)) dX10_isLetter_12 (by decide) rfl ?_
      refine ax_goto (tgt := 17) dX10_isLetter_13 (by decide) ?_
      exact ax_zret dX10_isLetter_17 rfl rfl rfl rfl ⟨_, _, rfl, rfl, H⟩
theorem ol_X10_passesWord_11 {g : ac_G} {τ : Nat → Nat → Int64} (d : Nat) (i1 : Nat) (hi1 : i1 < 22) {Q : Int32 → ac_m → Prop}  (f2 : Int32)  {x3 : Int32} {s : ac_m} (H : l_X10_passesWord_11 i1 Q  f2  x3 s) : ac_X g i_X10_passesWord (d + 4) 0 0 (liI τ Q) 0 0 11 [some (.ref 1), some (.ref (1000000 + (1 + i1))), some (.int f2), some (.int x3)] [] (false, 586, SH, s, τ) := by
  refine H (fun x3 s => ac_X g i_X10_passesWord (d + 4) 0 0 (liI τ Q) 0 0 11 [some (.ref 1), some (.ref (1000000 + (1 + i1))), some (.int f2), some (.int x3)] [] (false, 586, SH, s, τ)) ?_
  intro x3 s H
  refine ax_iload_n (pc' := 12) dX10_passesWord_11 rfl rfl ?_
  refine ax_iload_n (pc' := 13) dX10_passesWord_12 rfl rfl ?_
  refine ax_icmp_ge (pc' := 16) (tgt := 42) dX10_passesWord_13 (by decide) rfl (fun hc13 => ?_) (fun hc13 => ?_)
  · have H := H.1 hc13
    refine ax_aload_n (pc' := 43) dX10_passesWord_42 rfl rfl ?_
    refine ax_aload_n (pc' := 44) dX10_passesWord_43 rfl rfl ?_
    refine ax_getI (pc' := 47) dX10_passesWord_44 fl_X10_22 sh_1 rfl rfl rfl ?_
    refine ax_iload_n (pc' := 48) dX10_passesWord_47 rfl rfl ?_
    refine ax_iadd (pc' := 49) dX10_passesWord_48 rfl ?_
    refine ay_V1 (pc' := 52) (ce' := 0) (sl' := 0) (mc2 := 0) (ms2 := 0) (I2 := i_X10_byteAt) dX10_passesWord_49 ml_X10_37 sh_1 (by decide) rfl rfl rfl rfl rfl rfl rfl rfl rfl (ac_M.imp (o_X10_byteAt _ ((s 1 3) + f2) H) ?_)
    rintro _ _ ⟨r49, s49, rfl, rfl, H⟩
    refine ay_S1 (pc' := 55) (ce' := 0) (sl' := 0) (mc2 := 0) (ms2 := 0) (I2 := i_X10_isLetter) dX10_passesWord_52 ml_X10_54 rfl rfl rfl rfl rfl rfl rfl rfl (ac_M.imp (o_X10_isLetter _ r49 H) ?_)
    rintro _ _ ⟨r52, s52, rfl, rfl, H⟩
    refine ax_if_eq (pc' := 58) (tgt := 60) dX10_passesWord_55 (by decide) rfl (fun hc55 => ?_) (fun hc55 => ?_)
    · have H := H.1 hc55
      refine ax_aload_n (pc' := 61) dX10_passesWord_60 rfl rfl ?_
      refine ax_dup (pc' := 62) dX10_passesWord_61 rfl rfl ?_
      refine ax_getI (pc' := 65) dX10_passesWord_62 fl_X10_22 sh_1 rfl rfl rfl ?_
      refine ax_iload_n (pc' := 66) dX10_passesWord_65 rfl rfl ?_
      refine ax_iadd (pc' := 67) dX10_passesWord_66 rfl ?_
      refine ax_putI (pc' := 70) dX10_passesWord_67 fp_X10_22 sh_1 rfl rfl rfl ?_
      refine ax_iconst (pc' := 71) (v := (1 : Int32)) dX10_passesWord_70 (by decide) rfl ?_
      exact ax_zret dX10_passesWord_71 rfl rfl rfl rfl ⟨_, _, rfl, rfl, H⟩
    · have H := H.2 hc55
      refine ax_iconst (pc' := 59) (v := (0 : Int32)) dX10_passesWord_58 (by decide) rfl ?_
      exact ax_zret dX10_passesWord_59 rfl rfl rfl rfl ⟨_, _, rfl, rfl, H⟩
  · have H := H.2 hc13
    refine ax_aload_n (pc' := 17) dX10_passesWord_16 rfl rfl ?_
    refine ax_aload_n (pc' := 18) dX10_passesWord_17 rfl rfl ?_
    refine ax_getI (pc' := 21) dX10_passesWord_18 fl_X10_22 sh_1 rfl rfl rfl ?_
    refine ax_iload_n (pc' := 22) dX10_passesWord_21 rfl rfl ?_
    refine ax_iadd (pc' := 23) dX10_passesWord_22 rfl ?_
    refine ay_V1 (pc' := 26) (ce' := 0) (sl' := 0) (mc2 := 0) (ms2 := 0) (I2 := i_X10_byteAt) dX10_passesWord_23 ml_X10_37 sh_1 (by decide) rfl rfl rfl rfl rfl rfl rfl rfl rfl (ac_M.imp (o_X10_byteAt _ ((s 1 3) + x3) H) ?_)
    rintro _ _ ⟨r23, s23, rfl, rfl, H⟩
    refine ax_aload_n (pc' := 27) dX10_passesWord_26 rfl rfl ?_
    refine ax_iload_n (pc' := 28) dX10_passesWord_27 rfl rfl ?_
    obtain ⟨hj28, H⟩ := H
    refine ax_strchar (pc' := 31) dX10_passesWord_28 ml_X10_50 hi1 hj28 rfl rfl rfl rfl rfl ?_
    refine ax_icmp_eq (pc' := 34) (tgt := 36) dX10_passesWord_31 (by decide) rfl (fun hc31 => ?_) (fun hc31 => ?_)
    · have H := H.1 hc31
      refine ax_iinc (pc' := 39) (v := (x3 + (1 : Int32))) dX10_passesWord_36 rfl rfl rfl rfl rfl ?_
      refine ax_goto (tgt := 11) dX10_passesWord_39 (by decide) ?_
      exact H
    · have H := H.2 hc31
      refine ax_iconst (pc' := 35) (v := (0 : Int32)) dX10_passesWord_34 (by decide) rfl ?_
      exact ax_zret dX10_passesWord_35 rfl rfl rfl rfl ⟨_, _, rfl, rfl, H⟩
theorem o_X10_passesWord {g : ac_G} {τ : Nat → Nat → Int64} (d : Nat) (i1 : Nat) (hi1 : i1 < 22) {Q : Int32 → ac_m → Prop} {s : ac_m} (H : w_X10_passesWord i1 Q s) : ac_M g i_X10_passesWord (d + 4) 0 0 [.ref 1, .ref (1000000 + (1 + i1))] (false, 586, SH, s, τ) (liI τ Q) := by
  refine ac_ofX (by decide +kernel) rfl rfl rfl ?_
  refine ax_aload_n (pc' := 1) dX10_passesWord_0 rfl rfl ?_
  refine ay_V0 (pc' := 4) (ce' := 0) (sl' := 0) (mc2 := 0) (ms2 := 0) (I2 := i_X10_startToken) dX10_passesWord_1 ml_X10_34 sh_1 (by decide) rfl rfl rfl rfl rfl rfl rfl rfl rfl (ac_M.imp (o_X10_startToken _  H) ?_)
  rintro _ _ ⟨s1, rfl, rfl, H⟩
  refine ax_aload_n (pc' := 5) dX10_passesWord_4 rfl rfl ?_
  refine ax_strlen (pc' := 8) dX10_passesWord_5 ml_X10_45 hi1 rfl rfl rfl rfl rfl ?_
  refine ax_istore_n (pc' := 9) dX10_passesWord_8 rfl rfl rfl ?_
  refine ax_iconst (pc' := 10) (v := (0 : Int32)) dX10_passesWord_9 (by decide) rfl ?_
  refine ax_istore_n (pc' := 11) dX10_passesWord_10 rfl rfl rfl ?_
  refine ol_X10_passesWord_11 d i1 hi1 _    H
theorem o_X10_isDigit {g : ac_G} {τ : Nat → Nat → Int64} (d : Nat) (p1 : Int32) {Q : Int32 → ac_m → Prop} {s : ac_m} (H : w_X10_isDigit p1 Q s) : ac_M g i_X10_isDigit d 0 0 [.int p1] (false, 586, SH, s, τ) (liI τ Q) := by
  refine ac_ofX (by decide +kernel) rfl rfl rfl ?_
  refine ax_iload_n (pc' := 1) dX10_isDigit_0 rfl rfl ?_
  refine ax_bipush (pc' := 3) (v := (48 : Int32)) dX10_isDigit_1 (by decide) rfl ?_
  refine ax_icmp_lt (pc' := 6) (tgt := 16) dX10_isDigit_3 (by decide) rfl (fun hc3 => ?_) (fun hc3 => ?_)
  · have H := H.1 hc3
    refine ax_iconst (pc' := 17) (v := (0 : Int32)) dX10_isDigit_16 (by decide) rfl ?_
    exact ax_zret dX10_isDigit_17 rfl rfl rfl rfl ⟨_, _, rfl, rfl, H⟩
  · have H := H.2 hc3
    refine ax_iload_n (pc' := 7) dX10_isDigit_6 rfl rfl ?_
    refine ax_bipush (pc' := 9) (v := (57 : Int32)) dX10_isDigit_7 (by decide) rfl ?_
    refine ax_icmp_gt (pc' := 12) (tgt := 16) dX10_isDigit_9 (by decide) rfl (fun hc9 => ?_) (fun hc9 => ?_)
    · have H := H.1 hc9
      refine ax_iconst (pc' := 17) (v := (0 : Int32)) dX10_isDigit_16 (by decide) rfl ?_
      exact ax_zret dX10_isDigit_17 rfl rfl rfl rfl ⟨_, _, rfl, rfl, H⟩
    · have H := H.2 hc9
      refine ax_iconst (pc' := 13) (v := (1 : Int32)) dX10_isDigit_12 (by decide) rfl ?_
      refine ax_goto (tgt := 17) dX10_isDigit_13 (by decide) ?_
      exact ax_zret dX10_isDigit_17 rfl rfl rfl rfl ⟨_, _, rfl, rfl, H⟩
theorem o_X10_atNumber {g : ac_G} {τ : Nat → Nat → Int64} (d : Nat)  {Q : Int32 → ac_m → Prop} {s : ac_m} (H : w_X10_atNumber  Q s) : ac_M g i_X10_atNumber (d + 1) 0 0 [.ref 1] (false, 586, SH, s, τ) (liI τ Q) := by
  refine ac_ofX (by decide +kernel) rfl rfl rfl ?_
  refine ax_aload_n (pc' := 1) dX10_atNumber_0 rfl rfl ?_
  refine ay_V0 (pc' := 4) (ce' := 0) (sl' := 0) (mc2 := 0) (ms2 := 0) (I2 := i_X10_startToken) dX10_atNumber_1 ml_X10_34 sh_1 (by decide) rfl rfl rfl rfl rfl rfl rfl rfl rfl (ac_M.imp (o_X10_startToken _  H) ?_)
  rintro _ _ ⟨s1, rfl, rfl, H⟩
  refine ax_aload_n (pc' := 5) dX10_atNumber_4 rfl rfl ?_
  refine ax_aload_n (pc' := 6) dX10_atNumber_5 rfl rfl ?_
  refine ax_getI (pc' := 9) dX10_atNumber_6 fl_X10_22 sh_1 rfl rfl rfl ?_
  refine ay_V1 (pc' := 12) (ce' := 0) (sl' := 0) (mc2 := 0) (ms2 := 0) (I2 := i_X10_byteAt) dX10_atNumber_9 ml_X10_37 sh_1 (by decide) rfl rfl rfl rfl rfl rfl rfl rfl rfl (ac_M.imp (o_X10_byteAt _ (s1 1 3) H) ?_)
  rintro _ _ ⟨r9, s9, rfl, rfl, H⟩
  refine ay_S1 (pc' := 15) (ce' := 0) (sl' := 0) (mc2 := 0) (ms2 := 0) (I2 := i_X10_isDigit) dX10_atNumber_12 ml_X10_57 rfl rfl rfl rfl rfl rfl rfl rfl (ac_M.imp (o_X10_isDigit _ r9 H) ?_)
  rintro _ _ ⟨r12, s12, rfl, rfl, H⟩
  obtain ⟨hb, H⟩ := H
  exact ax_zret dX10_atNumber_15 rfl hb rfl rfl ⟨_, _, rfl, rfl, H⟩
theorem ol_X10_number_23 {g : ac_G} {τ : Nat → Nat → Int64} (d : Nat) (p1 : Int32) (p2 : Int32) {Q : Int32 → ac_m → Prop}  (f1 : Int32) (f2 : Int32)  {x3 : Int32} {x4 : Int32} {s : ac_m} (H : l_X10_number_23 p1 p2 Q  f1 f2  x3 x4 s) : ac_X g i_X10_number (d + 2) 0 0 (liI τ Q) 0 0 23 [some (.ref 1), some (.int f1), some (.int f2), some (.int x3), some (.int x4)] [] (false, 586, SH, s, τ) := by
  refine H (fun x3 x4 s => ac_X g i_X10_number (d + 2) 0 0 (liI τ Q) 0 0 23 [some (.ref 1), some (.int f1), some (.int f2), some (.int x3), some (.int x4)] [] (false, 586, SH, s, τ)) ?_
  intro x3 x4 s H
  refine ax_iload (pc' := 25) dX10_number_23 rfl rfl ?_
  refine ax_aload_n (pc' := 26) dX10_number_25 rfl rfl ?_
  refine ax_getI (pc' := 29) dX10_number_26 fl_X10_19 sh_1 rfl rfl rfl ?_
  refine ax_icmp_ge (pc' := 32) (tgt := 78) dX10_number_29 (by decide) rfl (fun hc29 => ?_) (fun hc29 => ?_)
  · have H := H.1 hc29
    refine ax_iload_n (pc' := 79) dX10_number_78 rfl rfl ?_
    refine ax_iload_n (pc' := 80) dX10_number_79 rfl rfl ?_
    refine ax_icmp_lt (pc' := 83) (tgt := 88) dX10_number_80 (by decide) rfl (fun hc80 => ?_) (fun hc80 => ?_)
    · have H := H.1 hc80
      refine ax_aload_n (pc' := 89) dX10_number_88 rfl rfl ?_
      refine ax_iconst (pc' := 90) (v := (2 : Int32)) dX10_number_89 (by decide) rfl ?_
      refine ay_V1 (pc' := 93) (ce' := 0) (sl' := 0) (mc2 := 0) (ms2 := 0) (I2 := i_X10_fail) dX10_number_90 ml_X10_41 sh_1 (by decide) rfl rfl rfl rfl rfl rfl rfl rfl rfl (ac_M.imp (o_X10_fail _ (2 : Int32) H) ?_)
      rintro _ _ ⟨r90, s90, rfl, rfl, H⟩
      refine ax_pop (pc' := 94) dX10_number_93 rfl rfl ?_
      refine ax_iconst (pc' := 95) (v := (-1 : Int32)) dX10_number_94 (by decide) rfl ?_
      exact ax_iret dX10_number_95 rfl rfl rfl ⟨_, _, rfl, rfl, H⟩
    · have H := H.2 hc80
      refine ax_iload_n (pc' := 84) dX10_number_83 rfl rfl ?_
      refine ax_iload_n (pc' := 85) dX10_number_84 rfl rfl ?_
      refine ax_icmp_le (pc' := 88) (tgt := 96) dX10_number_85 (by decide) rfl (fun hc85 => ?_) (fun hc85 => ?_)
      · have H := H.1 hc85
        refine ax_iload_n (pc' := 97) dX10_number_96 rfl rfl ?_
        exact ax_iret dX10_number_97 rfl rfl rfl ⟨_, _, rfl, rfl, H⟩
      · have H := H.2 hc85
        refine ax_aload_n (pc' := 89) dX10_number_88 rfl rfl ?_
        refine ax_iconst (pc' := 90) (v := (2 : Int32)) dX10_number_89 (by decide) rfl ?_
        refine ay_V1 (pc' := 93) (ce' := 0) (sl' := 0) (mc2 := 0) (ms2 := 0) (I2 := i_X10_fail) dX10_number_90 ml_X10_41 sh_1 (by decide) rfl rfl rfl rfl rfl rfl rfl rfl rfl (ac_M.imp (o_X10_fail _ (2 : Int32) H) ?_)
        rintro _ _ ⟨r90, s90, rfl, rfl, H⟩
        refine ax_pop (pc' := 94) dX10_number_93 rfl rfl ?_
        refine ax_iconst (pc' := 95) (v := (-1 : Int32)) dX10_number_94 (by decide) rfl ?_
        exact ax_iret dX10_number_95 rfl rfl rfl ⟨_, _, rfl, rfl, H⟩
  · have H := H.2 hc29
    refine ax_aload_n (pc' := 33) dX10_number_32 rfl rfl ?_
    refine ax_iload (pc' := 35) dX10_number_33 rfl rfl ?_
    refine ay_V1 (pc' := 38) (ce' := 0) (sl' := 0) (mc2 := 0) (ms2 := 0) (I2 := i_X10_byteAt) dX10_number_35 ml_X10_37 sh_1 (by decide) rfl rfl rfl rfl rfl rfl rfl rfl rfl (ac_M.imp (o_X10_byteAt _ x4 H) ?_)
    rintro _ _ ⟨r35, s35, rfl, rfl, H⟩
    refine ay_S1 (pc' := 41) (ce' := 0) (sl' := 0) (mc2 := 0) (ms2 := 0) (I2 := i_X10_isDigit) dX10_number_38 ml_X10_57 rfl rfl rfl rfl rfl rfl rfl rfl (ac_M.imp (o_X10_isDigit _ r35 H) ?_)
    rintro _ _ ⟨r38, s38, rfl, rfl, H⟩
    refine ax_if_eq (pc' := 44) (tgt := 78) dX10_number_41 (by decide) rfl (fun hc41 => ?_) (fun hc41 => ?_)
    · have H := H.1 hc41
      refine ax_iload_n (pc' := 79) dX10_number_78 rfl rfl ?_
      refine ax_iload_n (pc' := 80) dX10_number_79 rfl rfl ?_
      refine ax_icmp_lt (pc' := 83) (tgt := 88) dX10_number_80 (by decide) rfl (fun hc80 => ?_) (fun hc80 => ?_)
      · have H := H.1 hc80
        refine ax_aload_n (pc' := 89) dX10_number_88 rfl rfl ?_
        refine ax_iconst (pc' := 90) (v := (2 : Int32)) dX10_number_89 (by decide) rfl ?_
        refine ay_V1 (pc' := 93) (ce' := 0) (sl' := 0) (mc2 := 0) (ms2 := 0) (I2 := i_X10_fail) dX10_number_90 ml_X10_41 sh_1 (by decide) rfl rfl rfl rfl rfl rfl rfl rfl rfl (ac_M.imp (o_X10_fail _ (2 : Int32) H) ?_)
        rintro _ _ ⟨r90, s90, rfl, rfl, H⟩
        refine ax_pop (pc' := 94) dX10_number_93 rfl rfl ?_
        refine ax_iconst (pc' := 95) (v := (-1 : Int32)) dX10_number_94 (by decide) rfl ?_
        exact ax_iret dX10_number_95 rfl rfl rfl ⟨_, _, rfl, rfl, H⟩
      · have H := H.2 hc80
        refine ax_iload_n (pc' := 84) dX10_number_83 rfl rfl ?_
        refine ax_iload_n (pc' := 85) dX10_number_84 rfl rfl ?_
        refine ax_icmp_le (pc' := 88) (tgt := 96) dX10_number_85 (by decide) rfl (fun hc85 => ?_) (fun hc85 => ?_)
        · have H := H.1 hc85
          refine ax_iload_n (pc' := 97) dX10_number_96 rfl rfl ?_
          exact ax_iret dX10_number_97 rfl rfl rfl ⟨_, _, rfl, rfl, H⟩
        · have H := H.2 hc85
          refine ax_aload_n (pc' := 89) dX10_number_88 rfl rfl ?_
          refine ax_iconst (pc' := 90) (v := (2 : Int32)) dX10_number_89 (by decide) rfl ?_
          refine ay_V1 (pc' := 93) (ce' := 0) (sl' := 0) (mc2 := 0) (ms2 := 0) (I2 := i_X10_fail) dX10_number_90 ml_X10_41 sh_1 (by decide) rfl rfl rfl rfl rfl rfl rfl rfl rfl (ac_M.imp (o_X10_fail _ (2 : Int32) H) ?_)
          rintro _ _ ⟨r90, s90, rfl, rfl, H⟩
          refine ax_pop (pc' := 94) dX10_number_93 rfl rfl ?_
          refine ax_iconst (pc' := 95) (v := (-1 : Int32)) dX10_number_94 (by decide) rfl ?_
          exact ax_iret dX10_number_95 rfl rfl rfl ⟨_, _, rfl, rfl, H⟩
    · have H := H.2 hc41
      refine ax_iload_n (pc' := 45) dX10_number_44 rfl rfl ?_
      refine ax_bipush (pc' := 47) (v := (10 : Int32)) dX10_number_45 (by decide) rfl ?_
      refine ax_imul (pc' := 48) dX10_number_47 rfl ?_
      refine ax_aload_n (pc' := 49) dX10_number_48 rfl rfl ?_
      refine ax_iload (pc' := 51) dX10_number_49 rfl rfl ?_
      refine ay_V1 (pc' := 54) (ce' := 0) (sl' := 0) (mc2 := 0) (ms2 := 0) (I2 := i_X10_byteAt) dX10_number_51 ml_X10_37 sh_1 (by decide) rfl rfl rfl rfl rfl rfl rfl rfl rfl (ac_M.imp (o_X10_byteAt _ x4 H) ?_)
      rintro _ _ ⟨r51, s51, rfl, rfl, H⟩
      refine ax_iadd (pc' := 55) dX10_number_54 rfl ?_
      refine ax_bipush (pc' := 57) (v := (48 : Int32)) dX10_number_55 (by decide) rfl ?_
      refine ax_isub (pc' := 58) dX10_number_57 rfl ?_
      refine ax_ldc (pc' := 60) dX10_number_58 ck_X10_64 rfl ?_
      refine ax_min (pc' := 63) dX10_number_60 mj_X10_65 mk_min.1 mk_min.2.1 mk_min.2.2 rfl rfl rfl rfl ?_
      refine ax_topi (fun y63 hy63 => ?_)
      have H := H y63 hy63
      refine ax_istore_n (pc' := 64) dX10_number_63 rfl rfl rfl ?_
      refine ax_aload_n (pc' := 65) dX10_number_64 rfl rfl ?_
      refine ax_iload (pc' := 67) dX10_number_65 rfl rfl ?_
      refine ax_iconst (pc' := 68) (v := (1 : Int32)) dX10_number_67 (by decide) rfl ?_
      refine ax_iadd (pc' := 69) dX10_number_68 rfl ?_
      refine ax_putI (pc' := 72) dX10_number_69 fp_X10_22 sh_1 rfl rfl rfl ?_
      refine ax_iinc (pc' := 75) (v := (x4 + (1 : Int32))) dX10_number_72 rfl rfl rfl rfl rfl ?_
      refine ax_goto (tgt := 23) dX10_number_75 (by decide) ?_
      exact H
theorem o_X10_number {g : ac_G} {τ : Nat → Nat → Int64} (d : Nat) (p1 : Int32) (p2 : Int32) {Q : Int32 → ac_m → Prop} {s : ac_m} (H : w_X10_number p1 p2 Q s) : ac_M g i_X10_number (d + 2) 0 0 [.ref 1, .int p1, .int p2] (false, 586, SH, s, τ) (liI τ Q) := by
  refine ac_ofX (by decide +kernel) rfl rfl rfl ?_
  refine ax_aload_n (pc' := 1) dX10_number_0 rfl rfl ?_
  refine ay_V0 (pc' := 4) (ce' := 0) (sl' := 0) (mc2 := 0) (ms2 := 0) (I2 := i_X10_atNumber) dX10_number_1 ml_X10_60 sh_1 (by decide) rfl rfl rfl rfl rfl rfl rfl rfl rfl (ac_M.imp (o_X10_atNumber _  H) ?_)
  rintro _ _ ⟨r1, s1, rfl, rfl, H⟩
  refine ax_if_ne (pc' := 7) (tgt := 15) dX10_number_4 (by decide) rfl (fun hc4 => ?_) (fun hc4 => ?_)
  · have H := H.1 hc4
    refine ax_iconst (pc' := 16) (v := (0 : Int32)) dX10_number_15 (by decide) rfl ?_
    refine ax_istore_n (pc' := 17) dX10_number_16 rfl rfl rfl ?_
    refine ax_aload_n (pc' := 18) dX10_number_17 rfl rfl ?_
    refine ax_getI (pc' := 21) dX10_number_18 fl_X10_22 sh_1 rfl rfl rfl ?_
    refine ax_istore (pc' := 23) dX10_number_21 rfl rfl rfl ?_
    refine ol_X10_number_23 d p1 p2  _ _    H
  · have H := H.2 hc4
    refine ax_aload_n (pc' := 8) dX10_number_7 rfl rfl ?_
    refine ax_iconst (pc' := 9) (v := (1 : Int32)) dX10_number_8 (by decide) rfl ?_
    refine ay_V1 (pc' := 12) (ce' := 0) (sl' := 0) (mc2 := 0) (ms2 := 0) (I2 := i_X10_fail) dX10_number_9 ml_X10_41 sh_1 (by decide) rfl rfl rfl rfl rfl rfl rfl rfl rfl (ac_M.imp (o_X10_fail _ (1 : Int32) H) ?_)
    rintro _ _ ⟨r9, s9, rfl, rfl, H⟩
    refine ax_pop (pc' := 13) dX10_number_12 rfl rfl ?_
    refine ax_iconst (pc' := 14) (v := (-1 : Int32)) dX10_number_13 (by decide) rfl ?_
    exact ax_iret dX10_number_14 rfl rfl rfl ⟨_, _, rfl, rfl, H⟩
