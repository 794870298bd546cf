theorem o_X8_has {g : ac_G} {τ : Nat → Nat → Int64} (d : Nat) (p1 : Int32) (p2 : Int32) (p3 : Int32) (p4 : Int32) {Q : Int32 → ac_m → Prop} {s : ac_m} (H : w_X8_has p1 p2 p3 p4 Q s) : ac_M g i_X8_has d 0 0 [.int p1, .int p2, .int p3, .int p4] (false, 586, SH, s, τ) (liI τ Q) := by
  refine ac_ofX (by decide +kernel) rfl rfl rfl ?_
  refine ax_iload_n (pc' := 1) dX8_has_0 rfl rfl ?_
  refine ax_if_eq (pc' := 4) (tgt := 6) dX8_has_1 (by decide) rfl (fun hc1 => ?_) (fun hc1 => ?_)
  · have H := H.1 hc1
    refine ax_iload_n (pc' := 7) dX8_has_6 rfl rfl ?_
    refine ax_if_ne (pc' := 10) (tgt := 16) dX8_has_7 (by decide) rfl (fun hc7 => ?_) (fun hc7 => ?_)
    · have H := H.1 hc7
      refine ax_iload_n (pc' := 17) dX8_has_16 rfl rfl ?_
      refine ax_ineg (pc' := 18) dX8_has_17 rfl ?_
      exact ax_iret dX8_has_18 rfl rfl rfl ⟨_, _, rfl, rfl, H⟩
    · have H := H.2 hc7
      refine ax_iload_n (pc' := 11) dX8_has_10 rfl rfl ?_
      refine ax_iload_n (pc' := 12) dX8_has_11 rfl rfl ?_
      refine ax_isub (pc' := 13) dX8_has_12 rfl ?_
      refine ax_goto (tgt := 18) dX8_has_13 (by decide) ?_
      exact ax_iret dX8_has_18 rfl rfl rfl ⟨_, _, rfl, rfl, H⟩
  · have H := H.2 hc1
    refine ax_iconst (pc' := 5) (v := (0 : Int32)) dX8_has_4 (by decide) rfl ?_
    exact ax_iret dX8_has_5 rfl rfl rfl ⟨_, _, rfl, rfl, H⟩
theorem o_X8_rests {g : ac_G} {τ : Nat → Nat → Int64} (d : Nat) (p1 : Int32) (p2 : Int32) (p3 : Int32) (p4 : Int32) {Q : Int32 → ac_m → Prop} {s : ac_m} (H : w_X8_rests p1 p2 p3 p4 Q s) : ac_M g i_X8_rests (d + 1) 0 0 [.int p1, .int p2, .int p3, .int p4] (false, 586, SH, s, τ) (liI τ Q) := by
  refine ac_ofX (by decide +kernel) rfl rfl rfl ?_
  refine ax_iconst (pc' := 1) (v := (1 : Int32)) dX8_rests_0 (by decide) rfl ?_
  refine ax_iload_n (pc' := 2) dX8_rests_1 rfl rfl ?_
  refine ax_isub (pc' := 3) dX8_rests_2 rfl ?_
  refine ax_iload_n (pc' := 4) dX8_rests_3 rfl rfl ?_
  refine ax_iload_n (pc' := 5) dX8_rests_4 rfl rfl ?_
  refine ax_iload_n (pc' := 6) dX8_rests_5 rfl rfl ?_
  refine ay_S4 (pc' := 9) (ce' := 0) (sl' := 0) (mc2 := 0) (ms2 := 0) (I2 := i_X8_has) dX8_rests_6 ml_X8_9 rfl rfl rfl rfl rfl rfl rfl rfl (ac_M.imp (o_X8_has _ ((1 : Int32) - p1) p2 p3 p4 H) ?_)
  rintro _ _ ⟨r6, s6, rfl, rfl, H⟩
  refine ax_iload_n (pc' := 10) dX8_rests_9 rfl rfl ?_
  refine ax_iload_n (pc' := 11) dX8_rests_10 rfl rfl ?_
  refine ax_iload_n (pc' := 12) dX8_rests_11 rfl rfl ?_
  refine ax_iload_n (pc' := 13) dX8_rests_12 rfl rfl ?_
  refine ay_S4 (pc' := 16) (ce' := 0) (sl' := 0) (mc2 := 0) (ms2 := 0) (I2 := i_X8_has) dX8_rests_13 ml_X8_9 rfl rfl rfl rfl rfl rfl rfl rfl (ac_M.imp (o_X8_has _ p1 p2 p3 p4 H) ?_)
  rintro _ _ ⟨r13, s13, rfl, rfl, H⟩
  refine ax_icmp_gt (pc' := 19) (tgt := 42) dX8_rests_16 (by decide) rfl (fun hc16 => ?_) (fun hc16 => ?_)
  · have H := H.1 hc16
    refine ax_iconst (pc' := 43) (v := (0 : Int32)) dX8_rests_42 (by decide) rfl ?_
    exact ax_zret dX8_rests_43 rfl rfl rfl rfl ⟨_, _, rfl, rfl, H⟩
  · have H := H.2 hc16
    refine ax_iconst (pc' := 20) (v := (1 : Int32)) dX8_rests_19 (by decide) rfl ?_
    refine ax_iload_n (pc' := 21) dX8_rests_20 rfl rfl ?_
    refine ax_isub (pc' := 22) dX8_rests_21 rfl ?_
    refine ax_iload_n (pc' := 23) dX8_rests_22 rfl rfl ?_
    refine ax_iload_n (pc' := 24) dX8_rests_23 rfl rfl ?_
    refine ax_iload_n (pc' := 25) dX8_rests_24 rfl rfl ?_
    refine ay_S4 (pc' := 28) (ce' := 0) (sl' := 0) (mc2 := 0) (ms2 := 0) (I2 := i_X8_has) dX8_rests_25 ml_X8_9 rfl rfl rfl rfl rfl rfl rfl rfl (ac_M.imp (o_X8_has _ ((1 : Int32) - p2) p1 p3 p4 H) ?_)
    rintro _ _ ⟨r25, s25, rfl, rfl, H⟩
    refine ax_iload_n (pc' := 29) dX8_rests_28 rfl rfl ?_
    refine ax_iload_n (pc' := 30) dX8_rests_29 rfl rfl ?_
    refine ax_iload_n (pc' := 31) dX8_rests_30 rfl rfl ?_
    refine ax_iload_n (pc' := 32) dX8_rests_31 rfl rfl ?_
    refine ay_S4 (pc' := 35) (ce' := 0) (sl' := 0) (mc2 := 0) (ms2 := 0) (I2 := i_X8_has) dX8_rests_32 ml_X8_9 rfl rfl rfl rfl rfl rfl rfl rfl (ac_M.imp (o_X8_has _ p2 p1 p3 p4 H) ?_)
    rintro _ _ ⟨r32, s32, rfl, rfl, H⟩
    refine ax_icmp_gt (pc' := 38) (tgt := 42) dX8_rests_35 (by decide) rfl (fun hc35 => ?_) (fun hc35 => ?_)
    · have H := H.1 hc35
      refine ax_iconst (pc' := 43) (v := (0 : Int32)) dX8_rests_42 (by decide) rfl ?_
      exact ax_zret dX8_rests_43 rfl rfl rfl rfl ⟨_, _, rfl, rfl, H⟩
    · have H := H.2 hc35
      refine ax_iconst (pc' := 39) (v := (1 : Int32)) dX8_rests_38 (by decide) rfl ?_
      refine ax_goto (tgt := 43) dX8_rests_39 (by decide) ?_
      exact ax_zret dX8_rests_43 rfl rfl rfl rfl ⟨_, _, rfl, rfl, H⟩
theorem ol_X8_restsMany_4 {g : ac_G} {τ : Nat → Nat → Int64} (d : Nat) (p1 : Int32) (p2 : Int32) {Q : Int32 → ac_m → Prop}  (f0 : Int32) (f1 : Int32)  {x2 : Int32} {x3 : Int32} {s : ac_m} (H : l_X8_restsMany_4 p1 p2 Q  f0 f1  x2 x3 s) : ac_X g i_X8_restsMany (d + 2) 0 0 (liI τ Q) 0 0 4 [some (.int f0), some (.int f1), some (.int x2), some (.int x3)] [] (false, 586, SH, s, τ) := by
  refine H (fun x2 x3 s => ac_X g i_X8_restsMany (d + 2) 0 0 (liI τ Q) 0 0 4 [some (.int f0), some (.int f1), some (.int x2), some (.int x3)] [] (false, 586, SH, s, τ)) ?_
  intro x2 x3 s H
  refine ax_iload_n (pc' := 5) dX8_restsMany_4 rfl rfl ?_
  refine ax_iconst (pc' := 6) (v := (4 : Int32)) dX8_restsMany_5 (by decide) rfl ?_
  refine ax_icmp_ge (pc' := 9) (tgt := 37) dX8_restsMany_6 (by decide) rfl (fun hc6 => ?_) (fun hc6 => ?_)
  · have H := H.1 hc6
    refine ax_iload_n (pc' := 38) dX8_restsMany_37 rfl rfl ?_
    exact ax_iret dX8_restsMany_38 rfl rfl rfl ⟨_, _, rfl, rfl, H⟩
  · have H := H.2 hc6
    refine ax_iload_n (pc' := 10) dX8_restsMany_9 rfl rfl ?_
    refine ax_iload_n (pc' := 11) dX8_restsMany_10 rfl rfl ?_
    refine ax_iconst (pc' := 12) (v := (2 : Int32)) dX8_restsMany_11 (by decide) rfl ?_
    refine ax_idiv (pc' := 13) dX8_restsMany_12 (by decide) rfl ?_
    refine ax_iload_n (pc' := 14) dX8_restsMany_13 rfl rfl ?_
    refine ax_iconst (pc' := 15) (v := (2 : Int32)) dX8_restsMany_14 (by decide) rfl ?_
    refine ax_irem (pc' := 16) dX8_restsMany_15 (by decide) rfl ?_
    refine ax_iload_n (pc' := 17) dX8_restsMany_16 rfl rfl ?_
    refine ax_iload_n (pc' := 18) dX8_restsMany_17 rfl rfl ?_
    refine ay_S4 (pc' := 21) (ce' := 0) (sl' := 0) (mc2 := 0) (ms2 := 0) (I2 := i_X8_rests) dX8_restsMany_18 ml_X8_15 rfl rfl rfl rfl rfl rfl rfl rfl (ac_M.imp (o_X8_rests _ (x3 / (2 : Int32)) (x3 - x3 / (2 : Int32) * (2 : Int32)) f0 f1 H) ?_)
    rintro _ _ ⟨r18, s18, rfl, rfl, H⟩
    refine ax_if_eq (pc' := 24) (tgt := 28) dX8_restsMany_21 (by decide) rfl (fun hc21 => ?_) (fun hc21 => ?_)
    · have H := H.1 hc21
      refine ax_iconst (pc' := 29) (v := (0 : Int32)) dX8_restsMany_28 (by decide) rfl ?_
      refine ax_iadd (pc' := 30) dX8_restsMany_29 rfl ?_
      refine ax_istore_n (pc' := 31) dX8_restsMany_30 rfl rfl rfl ?_
      refine ax_iinc (pc' := 34) (v := (x3 + (1 : Int32))) dX8_restsMany_31 rfl rfl rfl rfl rfl ?_
      refine ax_goto (tgt := 4) dX8_restsMany_34 (by decide) ?_
      exact H
    · have H := H.2 hc21
      refine ax_iconst (pc' := 25) (v := (1 : Int32)) dX8_restsMany_24 (by decide) rfl ?_
      refine ax_goto (tgt := 29) dX8_restsMany_25 (by decide) ?_
      refine ax_iadd (pc' := 30) dX8_restsMany_29 rfl ?_
      refine ax_istore_n (pc' := 31) dX8_restsMany_30 rfl rfl rfl ?_
      refine ax_iinc (pc' := 34) (v := (x3 + (1 : Int32))) dX8_restsMany_31 rfl rfl rfl rfl rfl ?_
      refine ax_goto (tgt := 4) dX8_restsMany_34 (by decide) ?_
      exact H
theorem o_X8_restsMany {g : ac_G} {τ : Nat → Nat → Int64} (d : Nat) (p1 : Int32) (p2 : Int32) {Q : Int32 → ac_m → Prop} {s : ac_m} (H : w_X8_restsMany p1 p2 Q s) : ac_M g i_X8_restsMany (d + 2) 0 0 [.int p1, .int p2] (false, 586, SH, s, τ) (liI τ Q) := by
  refine ac_ofX (by decide +kernel) rfl rfl rfl ?_
  refine ax_iconst (pc' := 1) (v := (0 : Int32)) dX8_restsMany_0 (by decide) rfl ?_
  refine ax_istore_n (pc' := 2) dX8_restsMany_1 rfl rfl rfl ?_
  refine ax_iconst (pc' := 3) (v := (0 : Int32)) dX8_restsMany_2 (by decide) rfl ?_
  refine ax_istore_n (pc' := 4) dX8_restsMany_3 rfl rfl rfl ?_
  refine ol_X8_restsMany_4 d p1 p2  _ _    H
theorem ol_X8_firstRest_2 {g : ac_G} {τ : Nat → Nat → Int64} (d : Nat) (p1 : Int32) (p2 : Int32) {Q : Int32 → ac_m → Prop}  (f0 : Int32) (f1 : Int32)  {x2 : Int32} {s : ac_m} (H : l_X8_firstRest_2 p1 p2 Q  f0 f1  x2 s) : ac_X g i_X8_firstRest (d + 2) 0 0 (liI τ Q) 0 0 2 [some (.int f0), some (.int f1), some (.int x2)] [] (false, 586, SH, s, τ) := by
  refine H (fun x2 s => ac_X g i_X8_firstRest (d + 2) 0 0 (liI τ Q) 0 0 2 [some (.int f0), some (.int f1), some (.int x2)] [] (false, 586, SH, s, τ)) ?_
  intro x2 s H
  refine ax_iload_n (pc' := 3) dX8_firstRest_2 rfl rfl ?_
  refine ax_iconst (pc' := 4) (v := (4 : Int32)) dX8_firstRest_3 (by decide) rfl ?_
  refine ax_icmp_ge (pc' := 7) (tgt := 38) dX8_firstRest_4 (by decide) rfl (fun hc4 => ?_) (fun hc4 => ?_)
  · have H := H.1 hc4
    refine ax_iconst (pc' := 39) (v := (-1 : Int32)) dX8_firstRest_38 (by decide) rfl ?_
    exact ax_iret dX8_firstRest_39 rfl rfl rfl ⟨_, _, rfl, rfl, H⟩
  · have H := H.2 hc4
    refine ax_iload_n (pc' := 8) dX8_firstRest_7 rfl rfl ?_
    refine ax_iconst (pc' := 9) (v := (2 : Int32)) dX8_firstRest_8 (by decide) rfl ?_
    refine ax_idiv (pc' := 10) dX8_firstRest_9 (by decide) rfl ?_
    refine ax_iload_n (pc' := 11) dX8_firstRest_10 rfl rfl ?_
    refine ax_iconst (pc' := 12) (v := (2 : Int32)) dX8_firstRest_11 (by decide) rfl ?_
    refine ax_irem (pc' := 13) dX8_firstRest_12 (by decide) rfl ?_
    refine ax_iload_n (pc' := 14) dX8_firstRest_13 rfl rfl ?_
    refine ax_iload_n (pc' := 15) dX8_firstRest_14 rfl rfl ?_
    refine ay_S4 (pc' := 18) (ce' := 0) (sl' := 0) (mc2 := 0) (ms2 := 0) (I2 := i_X8_rests) dX8_firstRest_15 ml_X8_15 rfl rfl rfl rfl rfl rfl rfl rfl (ac_M.imp (o_X8_rests _ (x2 / (2 : Int32)) (x2 - x2 / (2 : Int32) * (2 : Int32)) f0 f1 H) ?_)
    rintro _ _ ⟨r15, s15, rfl, rfl, H⟩
    refine ax_if_eq (pc' := 21) (tgt := 32) dX8_firstRest_18 (by decide) rfl (fun hc18 => ?_) (fun hc18 => ?_)
    · have H := H.1 hc18
      refine ax_iinc (pc' := 35) (v := (x2 + (1 : Int32))) dX8_firstRest_32 rfl rfl rfl rfl rfl ?_
      refine ax_goto (tgt := 2) dX8_firstRest_35 (by decide) ?_
      exact H
    · have H := H.2 hc18
      refine ax_bipush (pc' := 23) (v := (10 : Int32)) dX8_firstRest_21 (by decide) rfl ?_
      refine ax_iload_n (pc' := 24) dX8_firstRest_23 rfl rfl ?_
      refine ax_iconst (pc' := 25) (v := (2 : Int32)) dX8_firstRest_24 (by decide) rfl ?_
      refine ax_idiv (pc' := 26) dX8_firstRest_25 (by decide) rfl ?_
      refine ax_imul (pc' := 27) dX8_firstRest_26 rfl ?_
      refine ax_iload_n (pc' := 28) dX8_firstRest_27 rfl rfl ?_
      refine ax_iconst (pc' := 29) (v := (2 : Int32)) dX8_firstRest_28 (by decide) rfl ?_
      refine ax_irem (pc' := 30) dX8_firstRest_29 (by decide) rfl ?_
      refine ax_iadd (pc' := 31) dX8_firstRest_30 rfl ?_
      exact ax_iret dX8_firstRest_31 rfl rfl rfl ⟨_, _, rfl, rfl, H⟩
theorem o_X8_firstRest {g : ac_G} {τ : Nat → Nat → Int64} (d : Nat) (p1 : Int32) (p2 : Int32) {Q : Int32 → ac_m → Prop} {s : ac_m} (H : w_X8_firstRest p1 p2 Q s) : ac_M g i_X8_firstRest (d + 2) 0 0 [.int p1, .int p2] (false, 586, SH, s, τ) (liI τ Q) := by
  refine ac_ofX (by decide +kernel) rfl rfl rfl ?_
  refine ax_iconst (pc' := 1) (v := (0 : Int32)) dX8_firstRest_0 (by decide) rfl ?_
  refine ax_istore_n (pc' := 2) dX8_firstRest_1 rfl rfl rfl ?_
  refine ol_X8_firstRest_2 d p1 p2  _ _    H
theorem o_X8_togetherAt {g : ac_G} {τ : Nat → Nat → Int64} (d : Nat) (p1 : Int32) (p2 : Int32) (p3 : Int32) {Q : Int32 → ac_m → Prop} {s : ac_m} (H : w_X8_togetherAt p1 p2 p3 Q s) : ac_M g i_X8_togetherAt (d + 1) 0 0 [.int p1, .int p2, .int p3] (false, 586, SH, s, τ) (liI τ Q) := by
  refine ac_ofX (by decide +kernel) rfl rfl rfl ?_
  refine ax_iload_n (pc' := 1) dX8_togetherAt_0 rfl rfl ?_
  refine ax_iconst (pc' := 2) (v := (-1 : Int32)) dX8_togetherAt_1 (by decide) rfl ?_
  refine ax_icmp_ne (pc' := 5) (tgt := 7) dX8_togetherAt_2 (by decide) rfl (fun hc2 => ?_) (fun hc2 => ?_)
  · have H := H.1 hc2
    refine ax_iload_n (pc' := 8) dX8_togetherAt_7 rfl rfl ?_
    refine ax_bipush (pc' := 10) (v := (10 : Int32)) dX8_togetherAt_8 (by decide) rfl ?_
    refine ax_idiv (pc' := 11) dX8_togetherAt_10 (by decide) rfl ?_
    refine ax_iload_n (pc' := 12) dX8_togetherAt_11 rfl rfl ?_
    refine ax_bipush (pc' := 14) (v := (10 : Int32)) dX8_togetherAt_12 (by decide) rfl ?_
    refine ax_irem (pc' := 15) dX8_togetherAt_14 (by decide) rfl ?_
    refine ax_iload_n (pc' := 16) dX8_togetherAt_15 rfl rfl ?_
    refine ax_iload_n (pc' := 17) dX8_togetherAt_16 rfl rfl ?_
    refine ay_S4 (pc' := 20) (ce' := 0) (sl' := 0) (mc2 := 0) (ms2 := 0) (I2 := i_X8_has) dX8_togetherAt_17 ml_X8_9 rfl rfl rfl rfl rfl rfl rfl rfl (ac_M.imp (o_X8_has _ (p1 / (10 : Int32)) (p1 - p1 / (10 : Int32) * (10 : Int32)) p2 p3 H) ?_)
    rintro _ _ ⟨r17, s17, rfl, rfl, H⟩
    refine ax_iload_n (pc' := 21) dX8_togetherAt_20 rfl rfl ?_
    refine ax_bipush (pc' := 23) (v := (10 : Int32)) dX8_togetherAt_21 (by decide) rfl ?_
    refine ax_irem (pc' := 24) dX8_togetherAt_23 (by decide) rfl ?_
    refine ax_iload_n (pc' := 25) dX8_togetherAt_24 rfl rfl ?_
    refine ax_bipush (pc' := 27) (v := (10 : Int32)) dX8_togetherAt_25 (by decide) rfl ?_
    refine ax_idiv (pc' := 28) dX8_togetherAt_27 (by decide) rfl ?_
    refine ax_iload_n (pc' := 29) dX8_togetherAt_28 rfl rfl ?_
    refine ax_iload_n (pc' := 30) dX8_togetherAt_29 rfl rfl ?_
    refine ay_S4 (pc' := 33) (ce' := 0) (sl' := 0) (mc2 := 0) (ms2 := 0) (I2 := i_X8_has) dX8_togetherAt_30 ml_X8_9 rfl rfl rfl rfl rfl rfl rfl rfl (ac_M.imp (o_X8_has _ (p1 - p1 / (10 : Int32) * (10 : Int32)) (p1 / (10 : Int32)) p2 p3 H) ?_)
    rintro _ _ ⟨r30, s30, rfl, rfl, H⟩
    refine ax_iadd (pc' := 34) dX8_togetherAt_33 rfl ?_
    exact ax_iret dX8_togetherAt_34 rfl rfl rfl ⟨_, _, rfl, rfl, H⟩
  · have H := H.2 hc2
    refine ax_iconst (pc' := 6) (v := (0 : Int32)) dX8_togetherAt_5 (by decide) rfl ?_
    exact ax_iret dX8_togetherAt_6 rfl rfl rfl ⟨_, _, rfl, rfl, H⟩
theorem ol_X8_power_5 {g : ac_G} {τ : Nat → Nat → Int64} (d : Nat) (p1 : Int32) (p2 : Int32) {Q : Int64 → ac_m → Prop}  (f0 : Int32) (f1 : Int32)  {x2 : Int64} {x4 : Int32} {s : ac_m} (H : l_X8_power_5 p1 p2 Q  f0 f1  x2 x4 s) : ac_X g i_X8_power d 0 0 (liL τ Q) 0 0 5 [some (.int f0), some (.int f1), some (.long x2), none, some (.int x4)] [] (false, 586, SH, s, τ) := by
  refine H (fun x2 x4 s => ac_X g i_X8_power d 0 0 (liL τ Q) 0 0 5 [some (.int f0), some (.int f1), some (.long x2), none, some (.int x4)] [] (false, 586, SH, s, τ)) ?_
  intro x2 x4 s H
  refine ax_iload (pc' := 7) dX8_power_5 rfl rfl ?_
  refine ax_iload_n (pc' := 8) dX8_power_7 rfl rfl ?_
  refine ax_icmp_ge (pc' := 11) (tgt := 22) dX8_power_8 (by decide) rfl (fun hc8 => ?_) (fun hc8 => ?_)
  · have H := H.1 hc8
    refine ax_lload_n (pc' := 23) dX8_power_22 rfl rfl ?_
    exact ax_lret dX8_power_23 rfl rfl rfl ⟨_, _, rfl, rfl, H⟩
  · have H := H.2 hc8
    refine ax_lload_n (pc' := 12) dX8_power_11 rfl rfl ?_
    refine ax_iload_n (pc' := 13) dX8_power_12 rfl rfl ?_
    refine ax_i2l (pc' := 14) dX8_power_13 rfl ?_
    refine ax_lmul (pc' := 15) dX8_power_14 rfl ?_
    refine ax_lstore_n (pc' := 16) dX8_power_15 rfl rfl rfl ?_
    refine ax_iinc (pc' := 19) (v := (x4 + (1 : Int32))) dX8_power_16 rfl rfl rfl rfl rfl ?_
    refine ax_goto (tgt := 5) dX8_power_19 (by decide) ?_
    exact H
theorem o_X8_power {g : ac_G} {τ : Nat → Nat → Int64} (d : Nat) (p1 : Int32) (p2 : Int32) {Q : Int64 → ac_m → Prop} {s : ac_m} (H : w_X8_power p1 p2 Q s) : ac_M g i_X8_power d 0 0 [.int p1, .int p2] (false, 586, SH, s, τ) (liL τ Q) := by
  refine ac_ofX (by decide +kernel) rfl rfl rfl ?_
  refine ax_lconst (pc' := 1) (v := 1) dX8_power_0 (by decide) rfl ?_
  refine ax_lstore_n (pc' := 2) dX8_power_1 rfl rfl rfl ?_
  refine ax_iconst (pc' := 3) (v := (0 : Int32)) dX8_power_2 (by decide) rfl ?_
  refine ax_istore (pc' := 5) dX8_power_3 rfl rfl rfl ?_
  refine ol_X8_power_5 d p1 p2  _ _    H
theorem ol_X8_homeFraction_80 {g : ac_G} {τ : Nat → Nat → Int64} (d : Nat) (p1 : Int32) (p2 : Int32) (p3 : Int32) (p4 : Int32) {Q : Int64 → ac_m → Prop}  (f3 : Int32)  {x4 : Int64} {x8 : Int64} {x10 : Int32} {s : ac_m} (H : l_X8_homeFraction_80 p1 p2 p3 p4 Q  f3  x4 x8 x10 s) : ac_X g i_X8_homeFraction (d + 1) 0 0 (liL τ Q) 0 0 80 [none, none, none, some (.int f3), some (.long x4), none, none, none, some (.long x8), none, some (.int x10)] [] (false, 586, SH, s, τ) := by
  refine H (fun x4 x8 x10 s => ac_X g i_X8_homeFraction (d + 1) 0 0 (liL τ Q) 0 0 80 [none, none, none, some (.int f3), some (.long x4), none, none, none, some (.long x8), none, some (.int x10)] [] (false, 586, SH, s, τ)) ?_
  intro x4 x8 x10 s H
  refine ax_iload (pc' := 82) dX8_homeFraction_80 rfl rfl ?_
  refine ax_bipush (pc' := 84) (v := (48 : Int32)) dX8_homeFraction_82 (by decide) rfl ?_
  refine ax_icmp_ge (pc' := 87) (tgt := 131) dX8_homeFraction_84 (by decide) rfl (fun hc84 => ?_) (fun hc84 => ?_)
  · have H := H.1 hc84
    refine ax_iload_n (pc' := 132) dX8_homeFraction_131 rfl rfl ?_
    refine ax_if_ne (pc' := 135) (tgt := 140) dX8_homeFraction_132 (by decide) rfl (fun hc132 => ?_) (fun hc132 => ?_)
    · have H := H.1 hc132
      refine ax_lload (pc' := 142) dX8_homeFraction_140 rfl rfl ?_
      exact ax_lret dX8_homeFraction_142 rfl rfl rfl ⟨_, _, rfl, rfl, H⟩
    · have H := H.2 hc132
      refine ax_lload (pc' := 137) dX8_homeFraction_135 rfl rfl ?_
      refine ax_goto (tgt := 142) dX8_homeFraction_137 (by decide) ?_
      exact ax_lret dX8_homeFraction_142 rfl rfl rfl ⟨_, _, rfl, rfl, H⟩
  · have H := H.2 hc84
    refine ax_lload (pc' := 89) dX8_homeFraction_87 rfl rfl ?_
    refine ax_ldc2 (pc' := 92) dX8_homeFraction_89 ck_X8_23 rfl ?_
    obtain ⟨hz, H⟩ := H
    refine ax_lrem (pc' := 93) dX8_homeFraction_92 hz rfl ?_
    refine ax_lconst (pc' := 94) (v := 0) dX8_homeFraction_93 (by decide) rfl ?_
    refine ax_lcmp (pc' := 95) dX8_homeFraction_94 rfl ?_
    refine ax_if_ne (pc' := 98) (tgt := 131) dX8_homeFraction_95 (by decide) rfl (fun hc95 => ?_) (fun hc95 => ?_)
    · have H := H.1 hc95
      refine ax_iload_n (pc' := 132) dX8_homeFraction_131 rfl rfl ?_
      refine ax_if_ne (pc' := 135) (tgt := 140) dX8_homeFraction_132 (by decide) rfl (fun hc132 => ?_) (fun hc132 => ?_)
      · have H := H.1 hc132
        refine ax_lload (pc' := 142) dX8_homeFraction_140 rfl rfl ?_
        exact ax_lret dX8_homeFraction_142 rfl rfl rfl ⟨_, _, rfl, rfl, H⟩
      · have H := H.2 hc132
        refine ax_lload (pc' := 137) dX8_homeFraction_135 rfl rfl ?_
        refine ax_goto (tgt := 142) dX8_homeFraction_137 (by decide) ?_
        exact ax_lret dX8_homeFraction_142 rfl rfl rfl ⟨_, _, rfl, rfl, H⟩
    · have H := H.2 hc95
      refine ax_lload (pc' := 100) dX8_homeFraction_98 rfl rfl ?_
      refine ax_ldc2 (pc' := 103) dX8_homeFraction_100 ck_X8_23 rfl ?_
      obtain ⟨hz, H⟩ := H
      refine ax_lrem (pc' := 104) dX8_homeFraction_103 hz rfl ?_
      refine ax_lconst (pc' := 105) (v := 0) dX8_homeFraction_104 (by decide) rfl ?_
      refine ax_lcmp (pc' := 106) dX8_homeFraction_105 rfl ?_
      refine ax_if_ne (pc' := 109) (tgt := 131) dX8_homeFraction_106 (by decide) rfl (fun hc106 => ?_) (fun hc106 => ?_)
      · have H := H.1 hc106
        refine ax_iload_n (pc' := 132) dX8_homeFraction_131 rfl rfl ?_
        refine ax_if_ne (pc' := 135) (tgt := 140) dX8_homeFraction_132 (by decide) rfl (fun hc132 => ?_) (fun hc132 => ?_)
        · have H := H.1 hc132
          refine ax_lload (pc' := 142) dX8_homeFraction_140 rfl rfl ?_
          exact ax_lret dX8_homeFraction_142 rfl rfl rfl ⟨_, _, rfl, rfl, H⟩
        · have H := H.2 hc132
          refine ax_lload (pc' := 137) dX8_homeFraction_135 rfl rfl ?_
          refine ax_goto (tgt := 142) dX8_homeFraction_137 (by decide) ?_
          exact ax_lret dX8_homeFraction_142 rfl rfl rfl ⟨_, _, rfl, rfl, H⟩
      · have H := H.2 hc106
        refine ax_lload (pc' := 111) dX8_homeFraction_109 rfl rfl ?_
        refine ax_ldc2 (pc' := 114) dX8_homeFraction_111 ck_X8_23 rfl ?_
        obtain ⟨hz, H⟩ := H
        refine ax_ldiv (pc' := 115) dX8_homeFraction_114 hz rfl ?_
        refine ax_lstore (pc' := 117) dX8_homeFraction_115 rfl rfl rfl ?_
        refine ax_lload (pc' := 119) dX8_homeFraction_117 rfl rfl ?_
        refine ax_ldc2 (pc' := 122) dX8_homeFraction_119 ck_X8_23 rfl ?_
        obtain ⟨hz, H⟩ := H
        refine ax_ldiv (pc' := 123) dX8_homeFraction_122 hz rfl ?_
        refine ax_lstore (pc' := 125) dX8_homeFraction_123 rfl rfl rfl ?_
        refine ax_iinc (pc' := 128) (v := (x10 + (1 : Int32))) dX8_homeFraction_125 rfl rfl rfl rfl rfl ?_
        refine ax_goto (tgt := 80) dX8_homeFraction_128 (by decide) ?_
        exact H
theorem ol_X8_homeFraction_9 {g : ac_G} {τ : Nat → Nat → Int64} (d : Nat) (p1 : Int32) (p2 : Int32) (p3 : Int32) (p4 : Int32) {Q : Int64 → ac_m → Prop}  (f0 : Int32) (f1 : Int32) (f2 : Int32) (f3 : Int32)  {x4 : Int64} {x6 : Int64} {x8 : Int32} {s : ac_m} (H : l_X8_homeFraction_9 p1 p2 p3 p4 Q  f0 f1 f2 f3  x4 x6 x8 s) : ac_X g i_X8_homeFraction (d + 1) 0 0 (liL τ Q) 0 0 9 [some (.int f0), some (.int f1), some (.int f2), some (.int f3), some (.long x4), none, some (.long x6), none, some (.int x8), none, none] [] (false, 586, SH, s, τ) := by
  refine H (fun x4 x6 x8 s => ac_X g i_X8_homeFraction (d + 1) 0 0 (liL τ Q) 0 0 9 [some (.int f0), some (.int f1), some (.int f2), some (.int f3), some (.long x4), none, some (.long x6), none, some (.int x8), none, none] [] (false, 586, SH, s, τ)) ?_
  intro x4 x6 x8 s H
  refine ax_iload (pc' := 11) dX8_homeFraction_9 rfl rfl ?_
  refine ax_iload_n (pc' := 12) dX8_homeFraction_11 rfl rfl ?_
  refine ax_icmp_gt (pc' := 15) (tgt := 69) dX8_homeFraction_12 (by decide) rfl (fun hc12 => ?_) (fun hc12 => ?_)
  · have H := H.1 hc12
    refine ax_bipush (pc' := 71) (v := (16 : Int32)) dX8_homeFraction_69 (by decide) rfl ?_
    refine ax_iload_n (pc' := 72) dX8_homeFraction_71 rfl rfl ?_
    refine ay_S2 (pc' := 75) (ce' := 0) (sl' := 0) (mc2 := 0) (ms2 := 0) (I2 := i_X8_power) dX8_homeFraction_72 ml_X8_19 rfl rfl rfl rfl rfl rfl rfl rfl (ac_M.imp (o_X8_power _ (16 : Int32) f0 H) ?_)
    rintro _ _ ⟨r72, s72, rfl, rfl, H⟩
    refine ax_lstore (pc' := 77) dX8_homeFraction_75 rfl rfl rfl ?_
    refine ax_iconst (pc' := 78) (v := (0 : Int32)) dX8_homeFraction_77 (by decide) rfl ?_
    refine ax_istore (pc' := 80) dX8_homeFraction_78 rfl rfl rfl ?_
    refine ax_drop 0 rfl ?_
    refine ax_drop 1 rfl ?_
    refine ax_drop 2 rfl ?_
    refine ax_drop 6 rfl ?_
    refine ol_X8_homeFraction_80 d p1 p2 p3 p4  _    H
  · have H := H.2 hc12
    refine ax_iload (pc' := 17) dX8_homeFraction_15 rfl rfl ?_
    refine ax_iload_n (pc' := 18) dX8_homeFraction_17 rfl rfl ?_
    refine ax_icmp_gt (pc' := 21) (tgt := 69) dX8_homeFraction_18 (by decide) rfl (fun hc18 => ?_) (fun hc18 => ?_)
    · have H := H.1 hc18
      refine ax_bipush (pc' := 71) (v := (16 : Int32)) dX8_homeFraction_69 (by decide) rfl ?_
      refine ax_iload_n (pc' := 72) dX8_homeFraction_71 rfl rfl ?_
      refine ay_S2 (pc' := 75) (ce' := 0) (sl' := 0) (mc2 := 0) (ms2 := 0) (I2 := i_X8_power) dX8_homeFraction_72 ml_X8_19 rfl rfl rfl rfl rfl rfl rfl rfl (ac_M.imp (o_X8_power _ (16 : Int32) f0 H) ?_)
      rintro _ _ ⟨r72, s72, rfl, rfl, H⟩
      refine ax_lstore (pc' := 77) dX8_homeFraction_75 rfl rfl rfl ?_
      refine ax_iconst (pc' := 78) (v := (0 : Int32)) dX8_homeFraction_77 (by decide) rfl ?_
      refine ax_istore (pc' := 80) dX8_homeFraction_78 rfl rfl rfl ?_
      refine ax_drop 0 rfl ?_
      refine ax_drop 1 rfl ?_
      refine ax_drop 2 rfl ?_
      refine ax_drop 6 rfl ?_
      refine ol_X8_homeFraction_80 d p1 p2 p3 p4  _    H
    · have H := H.2 hc18
      refine ax_lload (pc' := 23) dX8_homeFraction_21 rfl rfl ?_
      refine ax_lload (pc' := 25) dX8_homeFraction_23 rfl rfl ?_
      refine ax_bipush (pc' := 27) (v := (16 : Int32)) dX8_homeFraction_25 (by decide) rfl ?_
      refine ax_iload_n (pc' := 28) dX8_homeFraction_27 rfl rfl ?_
      refine ax_isub (pc' := 29) dX8_homeFraction_28 rfl ?_
      refine ax_iload (pc' := 31) dX8_homeFraction_29 rfl rfl ?_
      refine ay_S2 (pc' := 34) (ce' := 0) (sl' := 0) (mc2 := 0) (ms2 := 0) (I2 := i_X8_power) dX8_homeFraction_31 ml_X8_19 rfl rfl rfl rfl rfl rfl rfl rfl (ac_M.imp (o_X8_power _ ((16 : Int32) - f2) x8 H) ?_)
      rintro _ _ ⟨r31, s31, rfl, rfl, H⟩
      refine ax_lmul (pc' := 35) dX8_homeFraction_34 rfl ?_
      refine ax_iload_n (pc' := 36) dX8_homeFraction_35 rfl rfl ?_
      refine ax_iload_n (pc' := 37) dX8_homeFraction_36 rfl rfl ?_
      refine ax_iload (pc' := 39) dX8_homeFraction_37 rfl rfl ?_
      refine ax_isub (pc' := 40) dX8_homeFraction_39 rfl ?_
      refine ay_S2 (pc' := 43) (ce' := 0) (sl' := 0) (mc2 := 0) (ms2 := 0) (I2 := i_X8_power) dX8_homeFraction_40 ml_X8_19 rfl rfl rfl rfl rfl rfl rfl rfl (ac_M.imp (o_X8_power _ f2 (f0 - x8) H) ?_)
      rintro _ _ ⟨r40, s40, rfl, rfl, H⟩
      refine ax_lmul (pc' := 44) dX8_homeFraction_43 rfl ?_
      refine ax_ladd (pc' := 45) dX8_homeFraction_44 rfl ?_
      refine ax_lstore (pc' := 47) dX8_homeFraction_45 rfl rfl rfl ?_
      refine ax_lload (pc' := 49) dX8_homeFraction_47 rfl rfl ?_
      refine ax_iload_n (pc' := 50) dX8_homeFraction_49 rfl rfl ?_
      refine ax_iload (pc' := 52) dX8_homeFraction_50 rfl rfl ?_
      refine ax_isub (pc' := 53) dX8_homeFraction_52 rfl ?_
      refine ax_i2l (pc' := 54) dX8_homeFraction_53 rfl ?_
      refine ax_lmul (pc' := 55) dX8_homeFraction_54 rfl ?_
      refine ax_iload (pc' := 57) dX8_homeFraction_55 rfl rfl ?_
      refine ax_iconst (pc' := 58) (v := (1 : Int32)) dX8_homeFraction_57 (by decide) rfl ?_
      refine ax_iadd (pc' := 59) dX8_homeFraction_58 rfl ?_
      refine ax_i2l (pc' := 60) dX8_homeFraction_59 rfl ?_
      obtain ⟨hz, H⟩ := H
      refine ax_ldiv (pc' := 61) dX8_homeFraction_60 hz rfl ?_
      refine ax_lstore (pc' := 63) dX8_homeFraction_61 rfl rfl rfl ?_
      refine ax_iinc (pc' := 66) (v := (x8 + (1 : Int32))) dX8_homeFraction_63 rfl rfl rfl rfl rfl ?_
      refine ax_goto (tgt := 9) dX8_homeFraction_66 (by decide) ?_
      exact H
theorem o_X8_homeFraction {g : ac_G} {τ : Nat → Nat → Int64} (d : Nat) (p1 : Int32) (p2 : Int32) (p3 : Int32) (p4 : Int32) {Q : Int64 → ac_m → Prop} {s : ac_m} (H : w_X8_homeFraction p1 p2 p3 p4 Q s) : ac_M g i_X8_homeFraction (d + 1) 0 0 [.int p1, .int p2, .int p3, .int p4] (false, 586, SH, s, τ) (liL τ Q) := by
  refine ac_ofX (by decide +kernel) rfl rfl rfl ?_
  refine ax_lconst (pc' := 1) (v := 0) dX8_homeFraction_0 (by decide) rfl ?_
  refine ax_lstore (pc' := 3) dX8_homeFraction_1 rfl rfl rfl ?_
  refine ax_lconst (pc' := 4) (v := 1) dX8_homeFraction_3 (by decide) rfl ?_
  refine ax_lstore (pc' := 6) dX8_homeFraction_4 rfl rfl rfl ?_
  refine ax_iconst (pc' := 7) (v := (0 : Int32)) dX8_homeFraction_6 (by decide) rfl ?_
  refine ax_istore (pc' := 9) dX8_homeFraction_7 rfl rfl rfl ?_
  refine ol_X8_homeFraction_9 d p1 p2 p3 p4  _ _ _ _    H
