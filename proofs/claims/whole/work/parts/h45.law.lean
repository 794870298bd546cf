theorem o_X4_put {g : ac_G} {τ : Nat → Nat → Int64} (d : Nat) (a : Nat) (p1 : Int32) (hm : is_Lw a) {Q : Int32 → ac_m → Prop} {s : ac_m} (H : w_X4_put a p1 Q s) : ac_M g i_X4_put d 0 0 [.ref a, .int p1] (false, 586, SH, s, τ) (liI τ Q) := by
  refine ac_ofX (by decide +kernel) rfl rfl rfl ?_
  refine ax_aload_n (pc' := 1) dX4_put_0 rfl rfl ?_
  refine ax_getI (pc' := 4) dX4_put_1 fl_X4_21 (lx_0 hm) rfl (lx_4 hm) rfl ?_
  refine ax_if_lt (pc' := 7) (tgt := 37) dX4_put_4 (by decide) rfl (fun hc4 => ?_) (fun hc4 => ?_)
  · have H := H.1 hc4
    refine ax_iconst (pc' := 38) (v := (1 : Int32)) dX4_put_37 (by decide) rfl ?_
    exact ax_zret dX4_put_38 rfl rfl rfl rfl ⟨_, _, rfl, rfl, H⟩
  · have H := H.2 hc4
    refine ax_aload_n (pc' := 8) dX4_put_7 rfl rfl ?_
    refine ax_getI (pc' := 11) dX4_put_8 fl_X4_21 (lx_0 hm) rfl (lx_4 hm) rfl ?_
    refine ax_sipush (pc' := 14) (v := (150 : Int32)) dX4_put_11 (by decide) rfl ?_
    refine ax_icmp_ge (pc' := 17) (tgt := 37) dX4_put_14 (by decide) rfl (fun hc14 => ?_) (fun hc14 => ?_)
    · have H := H.1 hc14
      refine ax_iconst (pc' := 38) (v := (1 : Int32)) dX4_put_37 (by decide) rfl ?_
      exact ax_zret dX4_put_38 rfl rfl rfl rfl ⟨_, _, rfl, rfl, H⟩
    · have H := H.2 hc14
      refine ax_aload_n (pc' := 18) dX4_put_17 rfl rfl ?_
      refine ax_getR (pc' := 21) dX4_put_18 fl_X4_9 (lx_0 hm) rfl (lx_4 hm) rfl ?_
      refine ax_aload_n (pc' := 22) dX4_put_21 rfl rfl ?_
      refine ax_getI (pc' := 25) dX4_put_22 fl_X4_21 (lx_0 hm) rfl (lx_4 hm) rfl ?_
      refine ax_iload_n (pc' := 26) dX4_put_25 rfl rfl ?_
      obtain ⟨hj26, H⟩ := H
      refine ax_iast (pc' := 27) dX4_put_26 (lx_1 hm) hj26 (lx_5 hm) rfl ?_
      refine ax_aload_n (pc' := 28) dX4_put_27 rfl rfl ?_
      refine ax_dup (pc' := 29) dX4_put_28 rfl rfl ?_
      refine ax_getI (pc' := 32) dX4_put_29 fl_X4_21 (lx_0 hm) rfl (lx_4 hm) rfl ?_
      refine ax_iconst (pc' := 33) (v := (1 : Int32)) dX4_put_32 (by decide) rfl ?_
      refine ax_iadd (pc' := 34) dX4_put_33 rfl ?_
      refine ax_putI (pc' := 37) dX4_put_34 fp_X4_21 (lx_0 hm) rfl (lx_4 hm) rfl ?_
      refine ax_iconst (pc' := 38) (v := (1 : Int32)) dX4_put_37 (by decide) rfl ?_
      exact ax_zret dX4_put_38 rfl rfl rfl rfl ⟨_, _, rfl, rfl, H⟩
theorem o_X4_setPlain {g : ac_G} {τ : Nat → Nat → Int64} (d : Nat) (a : Nat) (hm : is_Lw a) {Q : ac_m → Prop} {s : ac_m} (H : w_X4_setPlain a Q s) : ac_M g i_X4_setPlain (d + 1) 0 0 [.ref a] (false, 586, SH, s, τ) (liV τ Q) := by
  refine ac_ofX (by decide +kernel) rfl rfl rfl ?_
  refine ax_aload_n (pc' := 1) dX4_setPlain_0 rfl rfl ?_
  refine ax_iconst (pc' := 2) (v := (0 : Int32)) dX4_setPlain_1 (by decide) rfl ?_
  refine ax_putI (pc' := 5) dX4_setPlain_2 fp_X4_21 (lx_0 hm) rfl (lx_4 hm) rfl ?_
  refine ax_aload_n (pc' := 6) dX4_setPlain_5 rfl rfl ?_
  refine ax_iconst (pc' := 7) (v := (1 : Int32)) dX4_setPlain_6 (by decide) rfl ?_
  refine ay_V1 (pc' := 10) (ce' := 0) (sl' := 0) (mc2 := 0) (ms2 := 0) (I2 := i_X4_put) dX4_setPlain_7 ml_X4_28 (lx_0 hm) (by decide) (lx_4 hm) rfl rfl rfl rfl rfl rfl rfl rfl (ac_M.imp (o_X4_put _ a (1 : Int32) hm H) ?_)
  rintro _ _ ⟨r7, s7, rfl, rfl, H⟩
  refine ax_pop (pc' := 11) dX4_setPlain_10 rfl rfl ?_
  refine ax_aload_n (pc' := 12) dX4_setPlain_11 rfl rfl ?_
  refine ax_iconst (pc' := 13) (v := (-1 : Int32)) dX4_setPlain_12 (by decide) rfl ?_
  refine ay_V1 (pc' := 16) (ce' := 0) (sl' := 0) (mc2 := 0) (ms2 := 0) (I2 := i_X4_put) dX4_setPlain_13 ml_X4_28 (lx_0 hm) (by decide) (lx_4 hm) rfl rfl rfl rfl rfl rfl rfl rfl (ac_M.imp (o_X4_put _ a (-1 : Int32) hm H) ?_)
  rintro _ _ ⟨r13, s13, rfl, rfl, H⟩
  refine ax_pop (pc' := 17) dX4_setPlain_16 rfl rfl ?_
  refine ax_aload_n (pc' := 18) dX4_setPlain_17 rfl rfl ?_
  refine ax_bipush (pc' := 20) (v := (10 : Int32)) dX4_setPlain_18 (by decide) rfl ?_
  refine ay_V1 (pc' := 23) (ce' := 0) (sl' := 0) (mc2 := 0) (ms2 := 0) (I2 := i_X4_put) dX4_setPlain_20 ml_X4_28 (lx_0 hm) (by decide) (lx_4 hm) rfl rfl rfl rfl rfl rfl rfl rfl (ac_M.imp (o_X4_put _ a (10 : Int32) hm H) ?_)
  rintro _ _ ⟨r20, s20, rfl, rfl, H⟩
  refine ax_pop (pc' := 24) dX4_setPlain_23 rfl rfl ?_
  refine ax_aload_n (pc' := 25) dX4_setPlain_24 rfl rfl ?_
  refine ax_bipush (pc' := 27) (v := (-12 : Int32)) dX4_setPlain_25 (by decide) rfl ?_
  refine ay_V1 (pc' := 30) (ce' := 0) (sl' := 0) (mc2 := 0) (ms2 := 0) (I2 := i_X4_put) dX4_setPlain_27 ml_X4_28 (lx_0 hm) (by decide) (lx_4 hm) rfl rfl rfl rfl rfl rfl rfl rfl (ac_M.imp (o_X4_put _ a (-12 : Int32) hm H) ?_)
  rintro _ _ ⟨r27, s27, rfl, rfl, H⟩
  refine ax_pop (pc' := 31) dX4_setPlain_30 rfl rfl ?_
  refine ax_aload_n (pc' := 32) dX4_setPlain_31 rfl rfl ?_
  refine ax_bipush (pc' := 34) (v := (-9 : Int32)) dX4_setPlain_32 (by decide) rfl ?_
  refine ay_V1 (pc' := 37) (ce' := 0) (sl' := 0) (mc2 := 0) (ms2 := 0) (I2 := i_X4_put) dX4_setPlain_34 ml_X4_28 (lx_0 hm) (by decide) (lx_4 hm) rfl rfl rfl rfl rfl rfl rfl rfl (ac_M.imp (o_X4_put _ a (-9 : Int32) hm H) ?_)
  rintro _ _ ⟨r34, s34, rfl, rfl, H⟩
  refine ax_pop (pc' := 38) dX4_setPlain_37 rfl rfl ?_
  exact ax_vret dX4_setPlain_38 rfl rfl rfl ⟨_, rfl, rfl, H⟩
theorem o_X4_take {g : ac_G} {τ : Nat → Nat → Int64} (d : Nat)  {Q : ac_m → Prop} {s : ac_m} (H : w_X4_take  Q s) : ac_M g i_X4_take d 0 0 [.ref 25, .ref 29] (false, 586, SH, s, τ) (liV τ Q) := by
  refine ac_ofX (by decide +kernel) rfl rfl rfl ?_
  refine ax_aload_n (pc' := 1) dX4_take_0 rfl rfl ?_
  refine ax_getR (pc' := 4) dX4_take_1 fl_X4_9 sh_29 rfl rfl rfl ?_
  refine ax_iconst (pc' := 5) (v := (0 : Int32)) dX4_take_4 (by decide) rfl ?_
  refine ax_aload_n (pc' := 6) dX4_take_5 rfl rfl ?_
  refine ax_getR (pc' := 9) dX4_take_6 fl_X4_9 sh_25 rfl rfl rfl ?_
  refine ax_iconst (pc' := 10) (v := (0 : Int32)) dX4_take_9 (by decide) rfl ?_
  refine ax_sipush (pc' := 13) (v := (150 : Int32)) dX4_take_10 (by decide) rfl ?_
  refine ax_copy (pc' := 16) dX4_take_13 mj_X4_32 mk_copy.1 mk_copy.2.1 mk_copy.2.2 sh_30 sh_26 rfl rfl (by decide) (by decide) (by decide) (by decide) (by decide) rfl rfl ?_
  refine ax_aload_n (pc' := 17) dX4_take_16 rfl rfl ?_
  refine ax_aload_n (pc' := 18) dX4_take_17 rfl rfl ?_
  refine ax_getI (pc' := 21) dX4_take_18 fl_X4_21 sh_29 rfl rfl rfl ?_
  refine ax_putI (pc' := 24) dX4_take_21 fp_X4_21 sh_25 rfl rfl rfl ?_
  exact ax_vret dX4_take_24 rfl rfl rfl ⟨_, rfl, rfl, H⟩
theorem o_X4_readPair {g : ac_G} {τ : Nat → Nat → Int64} (d : Nat) (p2 : Int32) (p3 : Int32) {Rs : Int32 → (Int32 → ac_m → Prop) → ac_m → Prop} (hRs : ∀ (e : Nat) (p1 : Int32) (Q : Int32 → ac_m → Prop) (s : ac_m), Rs p1 Q s → ac_M g i_X4_readSum (d + e) 0 0 [.ref 29, .ref 1, .int p1] (false, 586, SH, s, τ) (liI τ Q)) {Q : Int32 → ac_m → Prop} {s : ac_m} (H : w_X4_readPair p2 p3 Q Rs s) : ac_M g i_X4_readPair (d + 2) 0 0 [.ref 29, .ref 1, .int p2, .int p3] (false, 586, SH, s, τ) (liI τ Q) := by
  refine ac_ofX (by decide +kernel) rfl rfl rfl ?_
  refine ax_iload_n (pc' := 1) dX4_readPair_0 rfl rfl ?_
  refine ax_bipush (pc' := 3) (v := (6 : Int32)) dX4_readPair_1 (by decide) rfl ?_
  refine ax_icmp_lt (pc' := 6) (tgt := 12) dX4_readPair_3 (by decide) rfl (fun hc3 => ?_) (fun hc3 => ?_)
  · have H := H.1 hc3
    refine ax_aload_n (pc' := 13) dX4_readPair_12 rfl rfl ?_
    refine ax_bipush (pc' := 15) (v := (91 : Int32)) dX4_readPair_13 (by decide) rfl ?_
    refine ay_V1 (pc' := 18) (ce' := 0) (sl' := 0) (mc2 := 0) (ms2 := 0) (I2 := i_X10_expects) dX4_readPair_15 ml_X4_71 sh_1 (by decide) rfl rfl rfl rfl rfl rfl rfl rfl rfl (ac_M.imp (o_X10_expects _ (91 : Int32) H) ?_)
    rintro _ _ ⟨r15, s15, rfl, rfl, H⟩
    refine ax_if_eq (pc' := 21) (tgt := 73) dX4_readPair_18 (by decide) rfl (fun hc18 => ?_) (fun hc18 => ?_)
    · have H := H.1 hc18
      refine ax_iconst (pc' := 74) (v := (0 : Int32)) dX4_readPair_73 (by decide) rfl ?_
      exact ax_zret dX4_readPair_74 rfl rfl rfl rfl ⟨_, _, rfl, rfl, H⟩
    · have H := H.2 hc18
      refine ax_aload_n (pc' := 22) dX4_readPair_21 rfl rfl ?_
      refine ax_aload_n (pc' := 23) dX4_readPair_22 rfl rfl ?_
      refine ax_iload_n (pc' := 24) dX4_readPair_23 rfl rfl ?_
      refine ax_iconst (pc' := 25) (v := (1 : Int32)) dX4_readPair_24 (by decide) rfl ?_
      refine ax_iadd (pc' := 26) dX4_readPair_25 rfl ?_
      refine ay_V2 (pc' := 29) (ce' := 0) (sl' := 0) (mc2 := 0) (ms2 := 0) (I2 := i_X4_readSum) dX4_readPair_26 ml_X4_38 sh_29 (by decide) rfl rfl rfl rfl rfl rfl rfl rfl rfl (ac_M.imp (hRs _ (p2 + (1 : Int32)) _ _ H) ?_)
      rintro _ _ ⟨r26, s26, rfl, rfl, H⟩
      refine ax_if_eq (pc' := 32) (tgt := 73) dX4_readPair_29 (by decide) rfl (fun hc29 => ?_) (fun hc29 => ?_)
      · have H := H.1 hc29
        refine ax_iconst (pc' := 74) (v := (0 : Int32)) dX4_readPair_73 (by decide) rfl ?_
        exact ax_zret dX4_readPair_74 rfl rfl rfl rfl ⟨_, _, rfl, rfl, H⟩
      · have H := H.2 hc29
        refine ax_aload_n (pc' := 33) dX4_readPair_32 rfl rfl ?_
        refine ax_bipush (pc' := 35) (v := (44 : Int32)) dX4_readPair_33 (by decide) rfl ?_
        refine ay_V1 (pc' := 38) (ce' := 0) (sl' := 0) (mc2 := 0) (ms2 := 0) (I2 := i_X10_expects) dX4_readPair_35 ml_X4_71 sh_1 (by decide) rfl rfl rfl rfl rfl rfl rfl rfl rfl (ac_M.imp (o_X10_expects _ (44 : Int32) H) ?_)
        rintro _ _ ⟨r35, s35, rfl, rfl, H⟩
        refine ax_if_eq (pc' := 41) (tgt := 73) dX4_readPair_38 (by decide) rfl (fun hc38 => ?_) (fun hc38 => ?_)
        · have H := H.1 hc38
          refine ax_iconst (pc' := 74) (v := (0 : Int32)) dX4_readPair_73 (by decide) rfl ?_
          exact ax_zret dX4_readPair_74 rfl rfl rfl rfl ⟨_, _, rfl, rfl, H⟩
        · have H := H.2 hc38
          refine ax_aload_n (pc' := 42) dX4_readPair_41 rfl rfl ?_
          refine ax_aload_n (pc' := 43) dX4_readPair_42 rfl rfl ?_
          refine ax_iload_n (pc' := 44) dX4_readPair_43 rfl rfl ?_
          refine ax_iconst (pc' := 45) (v := (1 : Int32)) dX4_readPair_44 (by decide) rfl ?_
          refine ax_iadd (pc' := 46) dX4_readPair_45 rfl ?_
          refine ay_V2 (pc' := 49) (ce' := 0) (sl' := 0) (mc2 := 0) (ms2 := 0) (I2 := i_X4_readSum) dX4_readPair_46 ml_X4_38 sh_29 (by decide) rfl rfl rfl rfl rfl rfl rfl rfl rfl (ac_M.imp (hRs _ (p2 + (1 : Int32)) _ _ H) ?_)
          rintro _ _ ⟨r46, s46, rfl, rfl, H⟩
          refine ax_if_eq (pc' := 52) (tgt := 73) dX4_readPair_49 (by decide) rfl (fun hc49 => ?_) (fun hc49 => ?_)
          · have H := H.1 hc49
            refine ax_iconst (pc' := 74) (v := (0 : Int32)) dX4_readPair_73 (by decide) rfl ?_
            exact ax_zret dX4_readPair_74 rfl rfl rfl rfl ⟨_, _, rfl, rfl, H⟩
          · have H := H.2 hc49
            refine ax_aload_n (pc' := 53) dX4_readPair_52 rfl rfl ?_
            refine ax_bipush (pc' := 55) (v := (93 : Int32)) dX4_readPair_53 (by decide) rfl ?_
            refine ay_V1 (pc' := 58) (ce' := 0) (sl' := 0) (mc2 := 0) (ms2 := 0) (I2 := i_X10_expects) dX4_readPair_55 ml_X4_71 sh_1 (by decide) rfl rfl rfl rfl rfl rfl rfl rfl rfl (ac_M.imp (o_X10_expects _ (93 : Int32) H) ?_)
            rintro _ _ ⟨r55, s55, rfl, rfl, H⟩
            refine ax_if_eq (pc' := 61) (tgt := 73) dX4_readPair_58 (by decide) rfl (fun hc58 => ?_) (fun hc58 => ?_)
            · have H := H.1 hc58
              refine ax_iconst (pc' := 74) (v := (0 : Int32)) dX4_readPair_73 (by decide) rfl ?_
              exact ax_zret dX4_readPair_74 rfl rfl rfl rfl ⟨_, _, rfl, rfl, H⟩
            · have H := H.2 hc58
              refine ax_aload_n (pc' := 62) dX4_readPair_61 rfl rfl ?_
              refine ax_iload_n (pc' := 63) dX4_readPair_62 rfl rfl ?_
              refine ay_V1 (pc' := 66) (ce' := 0) (sl' := 0) (mc2 := 0) (ms2 := 0) (I2 := i_X4_put) dX4_readPair_63 ml_X4_28 sh_29 (by decide) rfl rfl rfl rfl rfl rfl rfl rfl rfl (ac_M.imp (o_X4_put _ 29 p3 is_Lw29 H) ?_)
              rintro _ _ ⟨r63, s63, rfl, rfl, H⟩
              refine ax_if_eq (pc' := 69) (tgt := 73) dX4_readPair_66 (by decide) rfl (fun hc66 => ?_) (fun hc66 => ?_)
              · have H := H.1 hc66
                refine ax_iconst (pc' := 74) (v := (0 : Int32)) dX4_readPair_73 (by decide) rfl ?_
                exact ax_zret dX4_readPair_74 rfl rfl rfl rfl ⟨_, _, rfl, rfl, H⟩
              · have H := H.2 hc66
                refine ax_iconst (pc' := 70) (v := (1 : Int32)) dX4_readPair_69 (by decide) rfl ?_
                refine ax_goto (tgt := 74) dX4_readPair_70 (by decide) ?_
                exact ax_zret dX4_readPair_74 rfl rfl rfl rfl ⟨_, _, rfl, rfl, H⟩
  · have H := H.2 hc3
    refine ax_aload_n (pc' := 7) dX4_readPair_6 rfl rfl ?_
    refine ax_iconst (pc' := 8) (v := (3 : Int32)) dX4_readPair_7 (by decide) rfl ?_
    refine ay_V1 (pc' := 11) (ce' := 0) (sl' := 0) (mc2 := 0) (ms2 := 0) (I2 := i_X10_fail) dX4_readPair_8 ml_X4_48 sh_1 (by decide) rfl rfl rfl rfl rfl rfl rfl rfl rfl (ac_M.imp (o_X10_fail _ (3 : Int32) H) ?_)
    rintro _ _ ⟨r8, s8, rfl, rfl, H⟩
    obtain ⟨hb, H⟩ := H
    exact ax_zret dX4_readPair_11 rfl hb rfl rfl ⟨_, _, rfl, rfl, H⟩
theorem o_X4_readFact {g : ac_G} {τ : Nat → Nat → Int64} (d : Nat)  {Q : Int32 → ac_m → Prop} {s : ac_m} (H : w_X4_readFact  Q s) : ac_M g i_X4_readFact (d + 5) 0 0 [.ref 1] (false, 586, SH, s, τ) (liI τ Q) := by
  refine ac_ofX (by decide +kernel) rfl rfl rfl ?_
  refine ax_aload_n (pc' := 1) dX4_readFact_0 rfl rfl ?_
  refine ax_ldcT (pc' := 3) (i := 6) dX4_readFact_1 rfl rfl ?_
  refine ay_V1 (pc' := 6) (ce' := 0) (sl' := 0) (mc2 := 0) (ms2 := 0) (I2 := i_X10_passesWord) dX4_readFact_3 ml_X4_76 sh_1 (by decide) rfl rfl rfl rfl rfl rfl rfl rfl rfl (ac_M.imp (o_X10_passesWord _ 6 (by decide) H) ?_)
  rintro _ _ ⟨r3, s3, rfl, rfl, H⟩
  refine ax_if_eq (pc' := 9) (tgt := 11) dX4_readFact_6 (by decide) rfl (fun hc6 => ?_) (fun hc6 => ?_)
  · have H := H.1 hc6
    refine ax_aload_n (pc' := 12) dX4_readFact_11 rfl rfl ?_
    refine ax_ldcT (pc' := 14) (i := 7) dX4_readFact_12 rfl rfl ?_
    refine ay_V1 (pc' := 17) (ce' := 0) (sl' := 0) (mc2 := 0) (ms2 := 0) (I2 := i_X10_passesWord) dX4_readFact_14 ml_X4_76 sh_1 (by decide) rfl rfl rfl rfl rfl rfl rfl rfl rfl (ac_M.imp (o_X10_passesWord _ 7 (by decide) H) ?_)
    rintro _ _ ⟨r14, s14, rfl, rfl, H⟩
    refine ax_if_eq (pc' := 20) (tgt := 23) dX4_readFact_17 (by decide) rfl (fun hc17 => ?_) (fun hc17 => ?_)
    · have H := H.1 hc17
      refine ax_aload_n (pc' := 24) dX4_readFact_23 rfl rfl ?_
      refine ax_ldcT (pc' := 26) (i := 8) dX4_readFact_24 rfl rfl ?_
      refine ay_V1 (pc' := 29) (ce' := 0) (sl' := 0) (mc2 := 0) (ms2 := 0) (I2 := i_X10_passesWord) dX4_readFact_26 ml_X4_76 sh_1 (by decide) rfl rfl rfl rfl rfl rfl rfl rfl rfl (ac_M.imp (o_X10_passesWord _ 8 (by decide) H) ?_)
      rintro _ _ ⟨r26, s26, rfl, rfl, H⟩
      refine ax_if_eq (pc' := 32) (tgt := 35) dX4_readFact_29 (by decide) rfl (fun hc29 => ?_) (fun hc29 => ?_)
      · have H := H.1 hc29
        refine ax_aload_n (pc' := 36) dX4_readFact_35 rfl rfl ?_
        refine ax_ldcT (pc' := 38) (i := 9) dX4_readFact_36 rfl rfl ?_
        refine ay_V1 (pc' := 41) (ce' := 0) (sl' := 0) (mc2 := 0) (ms2 := 0) (I2 := i_X10_passesWord) dX4_readFact_38 ml_X4_76 sh_1 (by decide) rfl rfl rfl rfl rfl rfl rfl rfl rfl (ac_M.imp (o_X10_passesWord _ 9 (by decide) H) ?_)
        rintro _ _ ⟨r38, s38, rfl, rfl, H⟩
        refine ax_if_eq (pc' := 44) (tgt := 47) dX4_readFact_41 (by decide) rfl (fun hc41 => ?_) (fun hc41 => ?_)
        · have H := H.1 hc41
          refine ax_aload_n (pc' := 48) dX4_readFact_47 rfl rfl ?_
          refine ax_ldcT (pc' := 50) (i := 10) dX4_readFact_48 rfl rfl ?_
          refine ay_V1 (pc' := 53) (ce' := 0) (sl' := 0) (mc2 := 0) (ms2 := 0) (I2 := i_X10_passesWord) dX4_readFact_50 ml_X4_76 sh_1 (by decide) rfl rfl rfl rfl rfl rfl rfl rfl rfl (ac_M.imp (o_X10_passesWord _ 10 (by decide) H) ?_)
          rintro _ _ ⟨r50, s50, rfl, rfl, H⟩
          refine ax_if_eq (pc' := 56) (tgt := 59) dX4_readFact_53 (by decide) rfl (fun hc53 => ?_) (fun hc53 => ?_)
          · have H := H.1 hc53
            refine ax_aload_n (pc' := 60) dX4_readFact_59 rfl rfl ?_
            refine ax_ldcT (pc' := 62) (i := 11) dX4_readFact_60 rfl rfl ?_
            refine ay_V1 (pc' := 65) (ce' := 0) (sl' := 0) (mc2 := 0) (ms2 := 0) (I2 := i_X10_passesWord) dX4_readFact_62 ml_X4_76 sh_1 (by decide) rfl rfl rfl rfl rfl rfl rfl rfl rfl (ac_M.imp (o_X10_passesWord _ 11 (by decide) H) ?_)
            rintro _ _ ⟨r62, s62, rfl, rfl, H⟩
            refine ax_if_eq (pc' := 68) (tgt := 71) dX4_readFact_65 (by decide) rfl (fun hc65 => ?_) (fun hc65 => ?_)
            · have H := H.1 hc65
              refine ax_aload_n (pc' := 72) dX4_readFact_71 rfl rfl ?_
              refine ax_ldcT (pc' := 74) (i := 12) dX4_readFact_72 rfl rfl ?_
              refine ay_V1 (pc' := 77) (ce' := 0) (sl' := 0) (mc2 := 0) (ms2 := 0) (I2 := i_X10_passesWord) dX4_readFact_74 ml_X4_76 sh_1 (by decide) rfl rfl rfl rfl rfl rfl rfl rfl rfl (ac_M.imp (o_X10_passesWord _ 12 (by decide) H) ?_)
              rintro _ _ ⟨r74, s74, rfl, rfl, H⟩
              refine ax_if_eq (pc' := 80) (tgt := 83) dX4_readFact_77 (by decide) rfl (fun hc77 => ?_) (fun hc77 => ?_)
              · have H := H.1 hc77
                refine ax_aload_n (pc' := 84) dX4_readFact_83 rfl rfl ?_
                refine ax_ldcT (pc' := 86) (i := 13) dX4_readFact_84 rfl rfl ?_
                refine ay_V1 (pc' := 89) (ce' := 0) (sl' := 0) (mc2 := 0) (ms2 := 0) (I2 := i_X10_passesWord) dX4_readFact_86 ml_X4_76 sh_1 (by decide) rfl rfl rfl rfl rfl rfl rfl rfl rfl (ac_M.imp (o_X10_passesWord _ 13 (by decide) H) ?_)
                rintro _ _ ⟨r86, s86, rfl, rfl, H⟩
                refine ax_if_eq (pc' := 92) (tgt := 97) dX4_readFact_89 (by decide) rfl (fun hc89 => ?_) (fun hc89 => ?_)
                · have H := H.1 hc89
                  refine ax_iconst (pc' := 98) (v := (0 : Int32)) dX4_readFact_97 (by decide) rfl ?_
                  exact ax_iret dX4_readFact_98 rfl rfl rfl ⟨_, _, rfl, rfl, H⟩
                · have H := H.2 hc89
                  refine ax_bipush (pc' := 94) (v := (-8 : Int32)) dX4_readFact_92 (by decide) rfl ?_
                  refine ax_goto (tgt := 98) dX4_readFact_94 (by decide) ?_
                  exact ax_iret dX4_readFact_98 rfl rfl rfl ⟨_, _, rfl, rfl, H⟩
              · have H := H.2 hc77
                refine ax_bipush (pc' := 82) (v := (-7 : Int32)) dX4_readFact_80 (by decide) rfl ?_
                exact ax_iret dX4_readFact_82 rfl rfl rfl ⟨_, _, rfl, rfl, H⟩
            · have H := H.2 hc65
              refine ax_bipush (pc' := 70) (v := (-6 : Int32)) dX4_readFact_68 (by decide) rfl ?_
              exact ax_iret dX4_readFact_70 rfl rfl rfl ⟨_, _, rfl, rfl, H⟩
          · have H := H.2 hc53
            refine ax_bipush (pc' := 58) (v := (-5 : Int32)) dX4_readFact_56 (by decide) rfl ?_
            exact ax_iret dX4_readFact_58 rfl rfl rfl ⟨_, _, rfl, rfl, H⟩
        · have H := H.2 hc41
          refine ax_bipush (pc' := 46) (v := (-4 : Int32)) dX4_readFact_44 (by decide) rfl ?_
          exact ax_iret dX4_readFact_46 rfl rfl rfl ⟨_, _, rfl, rfl, H⟩
      · have H := H.2 hc29
        refine ax_bipush (pc' := 34) (v := (-3 : Int32)) dX4_readFact_32 (by decide) rfl ?_
        exact ax_iret dX4_readFact_34 rfl rfl rfl ⟨_, _, rfl, rfl, H⟩
    · have H := H.2 hc17
      refine ax_bipush (pc' := 22) (v := (-2 : Int32)) dX4_readFact_20 (by decide) rfl ?_
      exact ax_iret dX4_readFact_22 rfl rfl rfl ⟨_, _, rfl, rfl, H⟩
  · have H := H.2 hc6
    refine ax_iconst (pc' := 10) (v := (-1 : Int32)) dX4_readFact_9 (by decide) rfl ?_
    exact ax_iret dX4_readFact_10 rfl rfl rfl ⟨_, _, rfl, rfl, H⟩
theorem o_X4_readUnit {g : ac_G} {τ : Nat → Nat → Int64} (d : Nat) (p2 : Int32) {Rs : Int32 → (Int32 → ac_m → Prop) → ac_m → Prop} (hRs : ∀ (e : Nat) (p1 : Int32) (Q : Int32 → ac_m → Prop) (s : ac_m), Rs p1 Q s → ac_M g i_X4_readSum (d + e) 0 0 [.ref 29, .ref 1, .int p1] (false, 586, SH, s, τ) (liI τ Q)) {Q : Int32 → ac_m → Prop} {s : ac_m} (H : w_X4_readUnit p2 Q Rs s) : ac_M g i_X4_readUnit (d + 6) 0 0 [.ref 29, .ref 1, .int p2] (false, 586, SH, s, τ) (liI τ Q) := by
  refine ac_ofX (by decide +kernel) rfl rfl rfl ?_
  refine ax_aload_n (pc' := 1) dX4_readUnit_0 rfl rfl ?_
  refine ay_V0 (pc' := 4) (ce' := 0) (sl' := 0) (mc2 := 0) (ms2 := 0) (I2 := i_X10_atNumber) dX4_readUnit_1 ml_X4_64 sh_1 (by decide) rfl rfl rfl rfl rfl rfl rfl rfl rfl (ac_M.imp (o_X10_atNumber _  H) ?_)
  rintro _ _ ⟨r1, s1, rfl, rfl, H⟩
  refine ax_if_eq (pc' := 7) (tgt := 35) dX4_readUnit_4 (by decide) rfl (fun hc4 => ?_) (fun hc4 => ?_)
  · have H := H.1 hc4
    refine ax_aload_n (pc' := 36) dX4_readUnit_35 rfl rfl ?_
    refine ax_bipush (pc' := 38) (v := (40 : Int32)) dX4_readUnit_36 (by decide) rfl ?_
    refine ay_V1 (pc' := 41) (ce' := 0) (sl' := 0) (mc2 := 0) (ms2 := 0) (I2 := i_X10_passes) dX4_readUnit_38 ml_X4_57 sh_1 (by decide) rfl rfl rfl rfl rfl rfl rfl rfl rfl (ac_M.imp (o_X10_passes _ (40 : Int32) H) ?_)
    rintro _ _ ⟨r38, s38, rfl, rfl, H⟩
    refine ax_if_eq (pc' := 44) (tgt := 82) dX4_readUnit_41 (by decide) rfl (fun hc41 => ?_) (fun hc41 => ?_)
    · have H := H.1 hc41
      refine ax_aload_n (pc' := 83) dX4_readUnit_82 rfl rfl ?_
      refine ax_ldcT (pc' := 85) (i := 4) dX4_readUnit_83 rfl rfl ?_
      refine ay_V1 (pc' := 88) (ce' := 0) (sl' := 0) (mc2 := 0) (ms2 := 0) (I2 := i_X10_passesWord) dX4_readUnit_85 ml_X4_76 sh_1 (by decide) rfl rfl rfl rfl rfl rfl rfl rfl rfl (ac_M.imp (o_X10_passesWord _ 4 (by decide) H) ?_)
      rintro _ _ ⟨r85, s85, rfl, rfl, H⟩
      refine ax_if_eq (pc' := 91) (tgt := 100) dX4_readUnit_88 (by decide) rfl (fun hc88 => ?_) (fun hc88 => ?_)
      · have H := H.1 hc88
        refine ax_aload_n (pc' := 101) dX4_readUnit_100 rfl rfl ?_
        refine ax_ldcT (pc' := 103) (i := 5) dX4_readUnit_101 rfl rfl ?_
        refine ay_V1 (pc' := 106) (ce' := 0) (sl' := 0) (mc2 := 0) (ms2 := 0) (I2 := i_X10_passesWord) dX4_readUnit_103 ml_X4_76 sh_1 (by decide) rfl rfl rfl rfl rfl rfl rfl rfl rfl (ac_M.imp (o_X10_passesWord _ 5 (by decide) H) ?_)
        rintro _ _ ⟨r103, s103, rfl, rfl, H⟩
        refine ax_if_eq (pc' := 109) (tgt := 118) dX4_readUnit_106 (by decide) rfl (fun hc106 => ?_) (fun hc106 => ?_)
        · have H := H.1 hc106
          refine ax_aload_n (pc' := 119) dX4_readUnit_118 rfl rfl ?_
          refine ay_S1 (pc' := 122) (ce' := 0) (sl' := 0) (mc2 := 0) (ms2 := 0) (I2 := i_X4_readFact) dX4_readUnit_119 ml_X4_86 rfl rfl rfl rfl rfl rfl rfl rfl (ac_M.imp (o_X4_readFact _  H) ?_)
          rintro _ _ ⟨r119, s119, rfl, rfl, H⟩
          refine ax_istore_n (pc' := 123) dX4_readUnit_122 rfl rfl rfl ?_
          refine ax_iload_n (pc' := 124) dX4_readUnit_123 rfl rfl ?_
          refine ax_if_ne (pc' := 127) (tgt := 135) dX4_readUnit_124 (by decide) rfl (fun hc124 => ?_) (fun hc124 => ?_)
          · have H := H.1 hc124
            refine ax_aload_n (pc' := 136) dX4_readUnit_135 rfl rfl ?_
            refine ax_iload_n (pc' := 137) dX4_readUnit_136 rfl rfl ?_
            refine ay_V1 (pc' := 140) (ce' := 0) (sl' := 0) (mc2 := 0) (ms2 := 0) (I2 := i_X4_put) dX4_readUnit_137 ml_X4_28 sh_29 (by decide) rfl rfl rfl rfl rfl rfl rfl rfl rfl (ac_M.imp (o_X4_put _ 29 r119 is_Lw29 H) ?_)
            rintro _ _ ⟨r137, s137, rfl, rfl, H⟩
            obtain ⟨hb, H⟩ := H
            exact ax_zret dX4_readUnit_140 rfl hb rfl rfl ⟨_, _, rfl, rfl, H⟩
          · have H := H.2 hc124
            refine ax_aload_n (pc' := 128) dX4_readUnit_127 rfl rfl ?_
            refine ax_iconst (pc' := 129) (v := (1 : Int32)) dX4_readUnit_128 (by decide) rfl ?_
            refine ay_V1 (pc' := 132) (ce' := 0) (sl' := 0) (mc2 := 0) (ms2 := 0) (I2 := i_X10_fail) dX4_readUnit_129 ml_X4_48 sh_1 (by decide) rfl rfl rfl rfl rfl rfl rfl rfl rfl (ac_M.imp (o_X10_fail _ (1 : Int32) H) ?_)
            rintro _ _ ⟨r129, s129, rfl, rfl, H⟩
            refine ax_goto (tgt := 140) dX4_readUnit_132 (by decide) ?_
            obtain ⟨hb, H⟩ := H
            exact ax_zret dX4_readUnit_140 rfl hb rfl rfl ⟨_, _, rfl, rfl, H⟩
        · have H := H.2 hc106
          refine ax_aload_n (pc' := 110) dX4_readUnit_109 rfl rfl ?_
          refine ax_aload_n (pc' := 111) dX4_readUnit_110 rfl rfl ?_
          refine ax_iload_n (pc' := 112) dX4_readUnit_111 rfl rfl ?_
          refine ax_bipush (pc' := 114) (v := (-15 : Int32)) dX4_readUnit_112 (by decide) rfl ?_
          refine ay_V3 (pc' := 117) (ce' := 0) (sl' := 0) (mc2 := 0) (ms2 := 0) (I2 := i_X4_readPair) dX4_readUnit_114 ml_X4_80 sh_29 (by decide) rfl rfl rfl rfl rfl rfl rfl rfl rfl (ac_M.imp (o_X4_readPair (d + 3) p2 (-15 : Int32) (fun e p91 Q s h => by rw [Nat.add_assoc]; exact hRs _ p91 _ _ h) H) ?_)
          rintro _ _ ⟨r114, s114, rfl, rfl, H⟩
          obtain ⟨hb, H⟩ := H
          exact ax_zret dX4_readUnit_117 rfl hb rfl rfl ⟨_, _, rfl, rfl, H⟩
      · have H := H.2 hc88
        refine ax_aload_n (pc' := 92) dX4_readUnit_91 rfl rfl ?_
        refine ax_aload_n (pc' := 93) dX4_readUnit_92 rfl rfl ?_
        refine ax_iload_n (pc' := 94) dX4_readUnit_93 rfl rfl ?_
        refine ax_bipush (pc' := 96) (v := (-14 : Int32)) dX4_readUnit_94 (by decide) rfl ?_
        refine ay_V3 (pc' := 99) (ce' := 0) (sl' := 0) (mc2 := 0) (ms2 := 0) (I2 := i_X4_readPair) dX4_readUnit_96 ml_X4_80 sh_29 (by decide) rfl rfl rfl rfl rfl rfl rfl rfl rfl (ac_M.imp (o_X4_readPair (d + 3) p2 (-14 : Int32) (fun e p91 Q s h => by rw [Nat.add_assoc]; exact hRs _ p91 _ _ h) H) ?_)
        rintro _ _ ⟨r96, s96, rfl, rfl, H⟩
        obtain ⟨hb, H⟩ := H
        exact ax_zret dX4_readUnit_99 rfl hb rfl rfl ⟨_, _, rfl, rfl, H⟩
    · have H := H.2 hc41
      refine ax_iload_n (pc' := 45) dX4_readUnit_44 rfl rfl ?_
      refine ax_bipush (pc' := 47) (v := (6 : Int32)) dX4_readUnit_45 (by decide) rfl ?_
      refine ax_icmp_lt (pc' := 50) (tgt := 56) dX4_readUnit_47 (by decide) rfl (fun hc47 => ?_) (fun hc47 => ?_)
      · have H := H.1 hc47
        refine ax_aload_n (pc' := 57) dX4_readUnit_56 rfl rfl ?_
        refine ax_aload_n (pc' := 58) dX4_readUnit_57 rfl rfl ?_
        refine ax_iload_n (pc' := 59) dX4_readUnit_58 rfl rfl ?_
        refine ax_iconst (pc' := 60) (v := (1 : Int32)) dX4_readUnit_59 (by decide) rfl ?_
        refine ax_iadd (pc' := 61) dX4_readUnit_60 rfl ?_
        refine ay_V2 (pc' := 64) (ce' := 0) (sl' := 0) (mc2 := 0) (ms2 := 0) (I2 := i_X4_readSum) dX4_readUnit_61 ml_X4_38 sh_29 (by decide) rfl rfl rfl rfl rfl rfl rfl rfl rfl (ac_M.imp (hRs _ (p2 + (1 : Int32)) _ _ H) ?_)
        rintro _ _ ⟨r61, s61, rfl, rfl, H⟩
        refine ax_if_eq (pc' := 67) (tgt := 80) dX4_readUnit_64 (by decide) rfl (fun hc64 => ?_) (fun hc64 => ?_)
        · have H := H.1 hc64
          refine ax_iconst (pc' := 81) (v := (0 : Int32)) dX4_readUnit_80 (by decide) rfl ?_
          exact ax_zret dX4_readUnit_81 rfl rfl rfl rfl ⟨_, _, rfl, rfl, H⟩
        · have H := H.2 hc64
          refine ax_aload_n (pc' := 68) dX4_readUnit_67 rfl rfl ?_
          refine ax_bipush (pc' := 70) (v := (41 : Int32)) dX4_readUnit_68 (by decide) rfl ?_
          refine ay_V1 (pc' := 73) (ce' := 0) (sl' := 0) (mc2 := 0) (ms2 := 0) (I2 := i_X10_expects) dX4_readUnit_70 ml_X4_71 sh_1 (by decide) rfl rfl rfl rfl rfl rfl rfl rfl rfl (ac_M.imp (o_X10_expects _ (41 : Int32) H) ?_)
          rintro _ _ ⟨r70, s70, rfl, rfl, H⟩
          refine ax_if_eq (pc' := 76) (tgt := 80) dX4_readUnit_73 (by decide) rfl (fun hc73 => ?_) (fun hc73 => ?_)
          · have H := H.1 hc73
            refine ax_iconst (pc' := 81) (v := (0 : Int32)) dX4_readUnit_80 (by decide) rfl ?_
            exact ax_zret dX4_readUnit_81 rfl rfl rfl rfl ⟨_, _, rfl, rfl, H⟩
          · have H := H.2 hc73
            refine ax_iconst (pc' := 77) (v := (1 : Int32)) dX4_readUnit_76 (by decide) rfl ?_
            refine ax_goto (tgt := 81) dX4_readUnit_77 (by decide) ?_
            exact ax_zret dX4_readUnit_81 rfl rfl rfl rfl ⟨_, _, rfl, rfl, H⟩
      · have H := H.2 hc47
        refine ax_aload_n (pc' := 51) dX4_readUnit_50 rfl rfl ?_
        refine ax_iconst (pc' := 52) (v := (3 : Int32)) dX4_readUnit_51 (by decide) rfl ?_
        refine ay_V1 (pc' := 55) (ce' := 0) (sl' := 0) (mc2 := 0) (ms2 := 0) (I2 := i_X10_fail) dX4_readUnit_52 ml_X4_48 sh_1 (by decide) rfl rfl rfl rfl rfl rfl rfl rfl rfl (ac_M.imp (o_X10_fail _ (3 : Int32) H) ?_)
        rintro _ _ ⟨r52, s52, rfl, rfl, H⟩
        obtain ⟨hb, H⟩ := H
        exact ax_zret dX4_readUnit_55 rfl hb rfl rfl ⟨_, _, rfl, rfl, H⟩
  · have H := H.2 hc4
    refine ax_aload_n (pc' := 8) dX4_readUnit_7 rfl rfl ?_
    refine ax_iconst (pc' := 9) (v := (0 : Int32)) dX4_readUnit_8 (by decide) rfl ?_
    refine ax_sipush (pc' := 12) (v := (999 : Int32)) dX4_readUnit_9 (by decide) rfl ?_
    refine ay_V2 (pc' := 15) (ce' := 0) (sl' := 0) (mc2 := 0) (ms2 := 0) (I2 := i_X10_number) dX4_readUnit_12 ml_X4_67 sh_1 (by decide) rfl rfl rfl rfl rfl rfl rfl rfl rfl (ac_M.imp (o_X10_number _ (0 : Int32) (999 : Int32) H) ?_)
    rintro _ _ ⟨r12, s12, rfl, rfl, H⟩
    refine ax_istore_n (pc' := 16) dX4_readUnit_15 rfl rfl rfl ?_
    refine ax_iload_n (pc' := 17) dX4_readUnit_16 rfl rfl ?_
    refine ax_iconst (pc' := 18) (v := (-1 : Int32)) dX4_readUnit_17 (by decide) rfl ?_
    refine ax_icmp_eq (pc' := 21) (tgt := 33) dX4_readUnit_18 (by decide) rfl (fun hc18 => ?_) (fun hc18 => ?_)
    · have H := H.1 hc18
      refine ax_iconst (pc' := 34) (v := (0 : Int32)) dX4_readUnit_33 (by decide) rfl ?_
      exact ax_zret dX4_readUnit_34 rfl rfl rfl rfl ⟨_, _, rfl, rfl, H⟩
    · have H := H.2 hc18
      refine ax_aload_n (pc' := 22) dX4_readUnit_21 rfl rfl ?_
      refine ax_iload_n (pc' := 23) dX4_readUnit_22 rfl rfl ?_
      refine ay_V1 (pc' := 26) (ce' := 0) (sl' := 0) (mc2 := 0) (ms2 := 0) (I2 := i_X4_put) dX4_readUnit_23 ml_X4_28 sh_29 (by decide) rfl rfl rfl rfl rfl rfl rfl rfl rfl (ac_M.imp (o_X4_put _ 29 r12 is_Lw29 H) ?_)
      rintro _ _ ⟨r23, s23, rfl, rfl, H⟩
      refine ax_if_eq (pc' := 29) (tgt := 33) dX4_readUnit_26 (by decide) rfl (fun hc26 => ?_) (fun hc26 => ?_)
      · have H := H.1 hc26
        refine ax_iconst (pc' := 34) (v := (0 : Int32)) dX4_readUnit_33 (by decide) rfl ?_
        exact ax_zret dX4_readUnit_34 rfl rfl rfl rfl ⟨_, _, rfl, rfl, H⟩
      · have H := H.2 hc26
        refine ax_iconst (pc' := 30) (v := (1 : Int32)) dX4_readUnit_29 (by decide) rfl ?_
        refine ax_goto (tgt := 34) dX4_readUnit_30 (by decide) ?_
        exact ax_zret dX4_readUnit_34 rfl rfl rfl rfl ⟨_, _, rfl, rfl, H⟩
theorem ol_X4_readProduct_13 {g : ac_G} {τ : Nat → Nat → Int64} (d : Nat) (p2 : Int32) {Rs : Int32 → (Int32 → ac_m → Prop) → ac_m → Prop} (hRs : ∀ (e : Nat) (p1 : Int32) (Q : Int32 → ac_m → Prop) (s : ac_m), Rs p1 Q s → ac_M g i_X4_readSum (d + e) 0 0 [.ref 29, .ref 1, .int p1] (false, 586, SH, s, τ) (liI τ Q)) {Q : Int32 → ac_m → Prop}  (f2 : Int32)  {x3 : Int32} {s : ac_m} (H : l_X4_readProduct_13 p2 Q Rs  f2  x3 s) : ac_X g i_X4_readProduct (d + 7) 0 0 (liI τ Q) 0 0 13 [some (.ref 29), some (.ref 1), some (.int f2), some (.int x3), none] [] (false, 586, SH, s, τ) := by
  refine H (fun x3 s => ac_X g i_X4_readProduct (d + 7) 0 0 (liI τ Q) 0 0 13 [some (.ref 29), some (.ref 1), some (.int f2), some (.int x3), none] [] (false, 586, SH, s, τ)) ?_
  intro x3 s H
  refine ax_iload_n (pc' := 14) dX4_readProduct_13 rfl rfl ?_
  refine ax_aload_n (pc' := 15) dX4_readProduct_14 rfl rfl ?_
  refine ax_getI (pc' := 18) dX4_readProduct_15 fl_X4_54 sh_1 rfl rfl rfl ?_
  refine ax_icmp_gt (pc' := 21) (tgt := 97) dX4_readProduct_18 (by decide) rfl (fun hc18 => ?_) (fun hc18 => ?_)
  · have H := H.1 hc18
    refine ax_iconst (pc' := 98) (v := (1 : Int32)) dX4_readProduct_97 (by decide) rfl ?_
    exact ax_zret dX4_readProduct_98 rfl rfl rfl rfl ⟨_, _, rfl, rfl, H⟩
  · have H := H.2 hc18
    refine ax_aload_n (pc' := 22) dX4_readProduct_21 rfl rfl ?_
    refine ax_bipush (pc' := 24) (v := (42 : Int32)) dX4_readProduct_22 (by decide) rfl ?_
    refine ay_V1 (pc' := 27) (ce' := 0) (sl' := 0) (mc2 := 0) (ms2 := 0) (I2 := i_X10_passes) dX4_readProduct_24 ml_X4_57 sh_1 (by decide) rfl rfl rfl rfl rfl rfl rfl rfl rfl (ac_M.imp (o_X10_passes _ (42 : Int32) H) ?_)
    rintro _ _ ⟨r24, s24, rfl, rfl, H⟩
    refine ax_if_eq (pc' := 30) (tgt := 35) dX4_readProduct_27 (by decide) rfl (fun hc27 => ?_) (fun hc27 => ?_)
    · have H := H.1 hc27
      refine ax_aload_n (pc' := 36) dX4_readProduct_35 rfl rfl ?_
      refine ax_bipush (pc' := 38) (v := (47 : Int32)) dX4_readProduct_36 (by decide) rfl ?_
      refine ay_V1 (pc' := 41) (ce' := 0) (sl' := 0) (mc2 := 0) (ms2 := 0) (I2 := i_X10_passes) dX4_readProduct_38 ml_X4_57 sh_1 (by decide) rfl rfl rfl rfl rfl rfl rfl rfl rfl (ac_M.imp (o_X10_passes _ (47 : Int32) H) ?_)
      rintro _ _ ⟨r38, s38, rfl, rfl, H⟩
      refine ax_if_eq (pc' := 44) (tgt := 49) dX4_readProduct_41 (by decide) rfl (fun hc41 => ?_) (fun hc41 => ?_)
      · have H := H.1 hc41
        refine ax_aload_n (pc' := 50) dX4_readProduct_49 rfl rfl ?_
        refine ax_bipush (pc' := 52) (v := (37 : Int32)) dX4_readProduct_50 (by decide) rfl ?_
        refine ay_V1 (pc' := 55) (ce' := 0) (sl' := 0) (mc2 := 0) (ms2 := 0) (I2 := i_X10_passes) dX4_readProduct_52 ml_X4_57 sh_1 (by decide) rfl rfl rfl rfl rfl rfl rfl rfl rfl (ac_M.imp (o_X10_passes _ (37 : Int32) H) ?_)
        rintro _ _ ⟨r52, s52, rfl, rfl, H⟩
        refine ax_if_eq (pc' := 58) (tgt := 63) dX4_readProduct_55 (by decide) rfl (fun hc55 => ?_) (fun hc55 => ?_)
        · have H := H.1 hc55
          refine ax_iconst (pc' := 64) (v := (0 : Int32)) dX4_readProduct_63 (by decide) rfl ?_
          refine ax_istore (pc' := 66) dX4_readProduct_64 rfl rfl rfl ?_
          refine ax_iload (pc' := 68) dX4_readProduct_66 rfl rfl ?_
          refine ax_if_ne (pc' := 71) (tgt := 73) dX4_readProduct_68 (by decide) rfl (fun hc68 => ?_) (fun hc68 => ?_)
          · have H := H.1 hc68
            refine ax_aload_n (pc' := 74) dX4_readProduct_73 rfl rfl ?_
            refine ax_aload_n (pc' := 75) dX4_readProduct_74 rfl rfl ?_
            refine ax_iload_n (pc' := 76) dX4_readProduct_75 rfl rfl ?_
            refine ay_V2 (pc' := 79) (ce' := 0) (sl' := 0) (mc2 := 0) (ms2 := 0) (I2 := i_X4_readUnit) dX4_readProduct_76 ml_X4_61 sh_29 (by decide) rfl rfl rfl rfl rfl rfl rfl rfl rfl (ac_M.imp (o_X4_readUnit d f2 hRs H) ?_)
            rintro _ _ ⟨r76, s76, rfl, rfl, H⟩
            refine ax_if_ne (pc' := 82) (tgt := 84) dX4_readProduct_79 (by decide) rfl (fun hc79 => ?_) (fun hc79 => ?_)
            · have H := H.1 hc79
              refine ax_aload_n (pc' := 85) dX4_readProduct_84 rfl rfl ?_
              refine ax_iload (pc' := 87) dX4_readProduct_85 rfl rfl ?_
              refine ay_V1 (pc' := 90) (ce' := 0) (sl' := 0) (mc2 := 0) (ms2 := 0) (I2 := i_X4_put) dX4_readProduct_87 ml_X4_28 sh_29 (by decide) rfl rfl rfl rfl rfl rfl rfl rfl rfl (ac_M.imp (o_X4_put _ 29 (0 : Int32) is_Lw29 H) ?_)
              rintro _ _ ⟨r87, s87, rfl, rfl, H⟩
              refine ax_pop (pc' := 91) dX4_readProduct_90 rfl rfl ?_
              refine ax_iinc (pc' := 94) (v := (x3 + (1 : Int32))) dX4_readProduct_91 rfl rfl rfl rfl rfl ?_
              refine ax_goto (tgt := 13) dX4_readProduct_94 (by decide) ?_
              refine ax_drop 4 rfl ?_
              exact H
            · have H := H.2 hc79
              refine ax_iconst (pc' := 83) (v := (0 : Int32)) dX4_readProduct_82 (by decide) rfl ?_
              exact ax_zret dX4_readProduct_83 rfl rfl rfl rfl ⟨_, _, rfl, rfl, H⟩
          · have H := H.2 hc68
            refine ax_iconst (pc' := 72) (v := (1 : Int32)) dX4_readProduct_71 (by decide) rfl ?_
            exact ax_zret dX4_readProduct_72 rfl rfl rfl rfl ⟨_, _, rfl, rfl, H⟩
        · have H := H.2 hc55
          refine ax_bipush (pc' := 60) (v := (-13 : Int32)) dX4_readProduct_58 (by decide) rfl ?_
          refine ax_goto (tgt := 64) dX4_readProduct_60 (by decide) ?_
          refine ax_istore (pc' := 66) dX4_readProduct_64 rfl rfl rfl ?_
          refine ax_iload (pc' := 68) dX4_readProduct_66 rfl rfl ?_
          refine ax_if_ne (pc' := 71) (tgt := 73) dX4_readProduct_68 (by decide) rfl (fun hc68 => ?_) (fun hc68 => ?_)
          · have H := H.1 hc68
            refine ax_aload_n (pc' := 74) dX4_readProduct_73 rfl rfl ?_
            refine ax_aload_n (pc' := 75) dX4_readProduct_74 rfl rfl ?_
            refine ax_iload_n (pc' := 76) dX4_readProduct_75 rfl rfl ?_
            refine ay_V2 (pc' := 79) (ce' := 0) (sl' := 0) (mc2 := 0) (ms2 := 0) (I2 := i_X4_readUnit) dX4_readProduct_76 ml_X4_61 sh_29 (by decide) rfl rfl rfl rfl rfl rfl rfl rfl rfl (ac_M.imp (o_X4_readUnit d f2 hRs H) ?_)
            rintro _ _ ⟨r76, s76, rfl, rfl, H⟩
            refine ax_if_ne (pc' := 82) (tgt := 84) dX4_readProduct_79 (by decide) rfl (fun hc79 => ?_) (fun hc79 => ?_)
            · have H := H.1 hc79
              refine ax_aload_n (pc' := 85) dX4_readProduct_84 rfl rfl ?_
              refine ax_iload (pc' := 87) dX4_readProduct_85 rfl rfl ?_
              refine ay_V1 (pc' := 90) (ce' := 0) (sl' := 0) (mc2 := 0) (ms2 := 0) (I2 := i_X4_put) dX4_readProduct_87 ml_X4_28 sh_29 (by decide) rfl rfl rfl rfl rfl rfl rfl rfl rfl (ac_M.imp (o_X4_put _ 29 (-13 : Int32) is_Lw29 H) ?_)
              rintro _ _ ⟨r87, s87, rfl, rfl, H⟩
              refine ax_pop (pc' := 91) dX4_readProduct_90 rfl rfl ?_
              refine ax_iinc (pc' := 94) (v := (x3 + (1 : Int32))) dX4_readProduct_91 rfl rfl rfl rfl rfl ?_
              refine ax_goto (tgt := 13) dX4_readProduct_94 (by decide) ?_
              refine ax_drop 4 rfl ?_
              exact H
            · have H := H.2 hc79
              refine ax_iconst (pc' := 83) (v := (0 : Int32)) dX4_readProduct_82 (by decide) rfl ?_
              exact ax_zret dX4_readProduct_83 rfl rfl rfl rfl ⟨_, _, rfl, rfl, H⟩
          · have H := H.2 hc68
            refine ax_iconst (pc' := 72) (v := (1 : Int32)) dX4_readProduct_71 (by decide) rfl ?_
            exact ax_zret dX4_readProduct_72 rfl rfl rfl rfl ⟨_, _, rfl, rfl, H⟩
      · have H := H.2 hc41
        refine ax_bipush (pc' := 46) (v := (-12 : Int32)) dX4_readProduct_44 (by decide) rfl ?_
        refine ax_goto (tgt := 64) dX4_readProduct_46 (by decide) ?_
        refine ax_istore (pc' := 66) dX4_readProduct_64 rfl rfl rfl ?_
        refine ax_iload (pc' := 68) dX4_readProduct_66 rfl rfl ?_
        refine ax_if_ne (pc' := 71) (tgt := 73) dX4_readProduct_68 (by decide) rfl (fun hc68 => ?_) (fun hc68 => ?_)
        · have H := H.1 hc68
          refine ax_aload_n (pc' := 74) dX4_readProduct_73 rfl rfl ?_
          refine ax_aload_n (pc' := 75) dX4_readProduct_74 rfl rfl ?_
          refine ax_iload_n (pc' := 76) dX4_readProduct_75 rfl rfl ?_
          refine ay_V2 (pc' := 79) (ce' := 0) (sl' := 0) (mc2 := 0) (ms2 := 0) (I2 := i_X4_readUnit) dX4_readProduct_76 ml_X4_61 sh_29 (by decide) rfl rfl rfl rfl rfl rfl rfl rfl rfl (ac_M.imp (o_X4_readUnit d f2 hRs H) ?_)
          rintro _ _ ⟨r76, s76, rfl, rfl, H⟩
          refine ax_if_ne (pc' := 82) (tgt := 84) dX4_readProduct_79 (by decide) rfl (fun hc79 => ?_) (fun hc79 => ?_)
          · have H := H.1 hc79
            refine ax_aload_n (pc' := 85) dX4_readProduct_84 rfl rfl ?_
            refine ax_iload (pc' := 87) dX4_readProduct_85 rfl rfl ?_
            refine ay_V1 (pc' := 90) (ce' := 0) (sl' := 0) (mc2 := 0) (ms2 := 0) (I2 := i_X4_put) dX4_readProduct_87 ml_X4_28 sh_29 (by decide) rfl rfl rfl rfl rfl rfl rfl rfl rfl (ac_M.imp (o_X4_put _ 29 (-12 : Int32) is_Lw29 H) ?_)
            rintro _ _ ⟨r87, s87, rfl, rfl, H⟩
            refine ax_pop (pc' := 91) dX4_readProduct_90 rfl rfl ?_
            refine ax_iinc (pc' := 94) (v := (x3 + (1 : Int32))) dX4_readProduct_91 rfl rfl rfl rfl rfl ?_
            refine ax_goto (tgt := 13) dX4_readProduct_94 (by decide) ?_
            refine ax_drop 4 rfl ?_
            exact H
          · have H := H.2 hc79
            refine ax_iconst (pc' := 83) (v := (0 : Int32)) dX4_readProduct_82 (by decide) rfl ?_
            exact ax_zret dX4_readProduct_83 rfl rfl rfl rfl ⟨_, _, rfl, rfl, H⟩
        · have H := H.2 hc68
          refine ax_iconst (pc' := 72) (v := (1 : Int32)) dX4_readProduct_71 (by decide) rfl ?_
          exact ax_zret dX4_readProduct_72 rfl rfl rfl rfl ⟨_, _, rfl, rfl, H⟩
    · have H := H.2 hc27
      refine ax_bipush (pc' := 32) (v := (-11 : Int32)) dX4_readProduct_30 (by decide) rfl ?_
      refine ax_goto (tgt := 64) dX4_readProduct_32 (by decide) ?_
      refine ax_istore (pc' := 66) dX4_readProduct_64 rfl rfl rfl ?_
      refine ax_iload (pc' := 68) dX4_readProduct_66 rfl rfl ?_
      refine ax_if_ne (pc' := 71) (tgt := 73) dX4_readProduct_68 (by decide) rfl (fun hc68 => ?_) (fun hc68 => ?_)
      · have H := H.1 hc68
        refine ax_aload_n (pc' := 74) dX4_readProduct_73 rfl rfl ?_
        refine ax_aload_n (pc' := 75) dX4_readProduct_74 rfl rfl ?_
        refine ax_iload_n (pc' := 76) dX4_readProduct_75 rfl rfl ?_
        refine ay_V2 (pc' := 79) (ce' := 0) (sl' := 0) (mc2 := 0) (ms2 := 0) (I2 := i_X4_readUnit) dX4_readProduct_76 ml_X4_61 sh_29 (by decide) rfl rfl rfl rfl rfl rfl rfl rfl rfl (ac_M.imp (o_X4_readUnit d f2 hRs H) ?_)
        rintro _ _ ⟨r76, s76, rfl, rfl, H⟩
        refine ax_if_ne (pc' := 82) (tgt := 84) dX4_readProduct_79 (by decide) rfl (fun hc79 => ?_) (fun hc79 => ?_)
        · have H := H.1 hc79
          refine ax_aload_n (pc' := 85) dX4_readProduct_84 rfl rfl ?_
          refine ax_iload (pc' := 87) dX4_readProduct_85 rfl rfl ?_
          refine ay_V1 (pc' := 90) (ce' := 0) (sl' := 0) (mc2 := 0) (ms2 := 0) (I2 := i_X4_put) dX4_readProduct_87 ml_X4_28 sh_29 (by decide) rfl rfl rfl rfl rfl rfl rfl rfl rfl (ac_M.imp (o_X4_put _ 29 (-11 : Int32) is_Lw29 H) ?_)
          rintro _ _ ⟨r87, s87, rfl, rfl, H⟩
          refine ax_pop (pc' := 91) dX4_readProduct_90 rfl rfl ?_
          refine ax_iinc (pc' := 94) (v := (x3 + (1 : Int32))) dX4_readProduct_91 rfl rfl rfl rfl rfl ?_
          refine ax_goto (tgt := 13) dX4_readProduct_94 (by decide) ?_
          refine ax_drop 4 rfl ?_
          exact H
        · have H := H.2 hc79
          refine ax_iconst (pc' := 83) (v := (0 : Int32)) dX4_readProduct_82 (by decide) rfl ?_
          exact ax_zret dX4_readProduct_83 rfl rfl rfl rfl ⟨_, _, rfl, rfl, H⟩
      · have H := H.2 hc68
        refine ax_iconst (pc' := 72) (v := (1 : Int32)) dX4_readProduct_71 (by decide) rfl ?_
        exact ax_zret dX4_readProduct_72 rfl rfl rfl rfl ⟨_, _, rfl, rfl, H⟩
theorem o_X4_readProduct {g : ac_G} {τ : Nat → Nat → Int64} (d : Nat) (p2 : Int32) {Rs : Int32 → (Int32 → ac_m → Prop) → ac_m → Prop} (hRs : ∀ (e : Nat) (p1 : Int32) (Q : Int32 → ac_m → Prop) (s : ac_m), Rs p1 Q s → ac_M g i_X4_readSum (d + e) 0 0 [.ref 29, .ref 1, .int p1] (false, 586, SH, s, τ) (liI τ Q)) {Q : Int32 → ac_m → Prop} {s : ac_m} (H : w_X4_readProduct p2 Q Rs s) : ac_M g i_X4_readProduct (d + 7) 0 0 [.ref 29, .ref 1, .int p2] (false, 586, SH, s, τ) (liI τ Q) := by
  refine ac_ofX (by decide +kernel) rfl rfl rfl ?_
  refine ax_aload_n (pc' := 1) dX4_readProduct_0 rfl rfl ?_
  refine ax_aload_n (pc' := 2) dX4_readProduct_1 rfl rfl ?_
  refine ax_iload_n (pc' := 3) dX4_readProduct_2 rfl rfl ?_
  refine ay_V2 (pc' := 6) (ce' := 0) (sl' := 0) (mc2 := 0) (ms2 := 0) (I2 := i_X4_readUnit) dX4_readProduct_3 ml_X4_61 sh_29 (by decide) rfl rfl rfl rfl rfl rfl rfl rfl rfl (ac_M.imp (o_X4_readUnit d p2 hRs H) ?_)
  rintro _ _ ⟨r3, s3, rfl, rfl, H⟩
  refine ax_if_ne (pc' := 9) (tgt := 11) dX4_readProduct_6 (by decide) rfl (fun hc6 => ?_) (fun hc6 => ?_)
  · have H := H.1 hc6
    refine ax_iconst (pc' := 12) (v := (0 : Int32)) dX4_readProduct_11 (by decide) rfl ?_
    refine ax_istore_n (pc' := 13) dX4_readProduct_12 rfl rfl rfl ?_
    refine ol_X4_readProduct_13 d p2 hRs _    H
  · have H := H.2 hc6
    refine ax_iconst (pc' := 10) (v := (0 : Int32)) dX4_readProduct_9 (by decide) rfl ?_
    exact ax_zret dX4_readProduct_10 rfl rfl rfl rfl ⟨_, _, rfl, rfl, H⟩
theorem ol_X4_readSum_13 {g : ac_G} {τ : Nat → Nat → Int64} (d : Nat) (p2 : Int32) {Rs : Int32 → (Int32 → ac_m → Prop) → ac_m → Prop} (hRs : ∀ (e : Nat) (p1 : Int32) (Q : Int32 → ac_m → Prop) (s : ac_m), Rs p1 Q s → ac_M g i_X4_readSum (d + e) 0 0 [.ref 29, .ref 1, .int p1] (false, 586, SH, s, τ) (liI τ Q)) {Q : Int32 → ac_m → Prop}  (f2 : Int32)  {x3 : Int32} {s : ac_m} (H : l_X4_readSum_13 p2 Q Rs  f2  x3 s) : ac_X g i_X4_readSum (d + 8) 0 0 (liI τ Q) 0 0 13 [some (.ref 29), some (.ref 1), some (.int f2), some (.int x3), none] [] (false, 586, SH, s, τ) := by
  refine H (fun x3 s => ac_X g i_X4_readSum (d + 8) 0 0 (liI τ Q) 0 0 13 [some (.ref 29), some (.ref 1), some (.int f2), some (.int x3), none] [] (false, 586, SH, s, τ)) ?_
  intro x3 s H
  refine ax_iload_n (pc' := 14) dX4_readSum_13 rfl rfl ?_
  refine ax_aload_n (pc' := 15) dX4_readSum_14 rfl rfl ?_
  refine ax_getI (pc' := 18) dX4_readSum_15 fl_X4_54 sh_1 rfl rfl rfl ?_
  refine ax_icmp_gt (pc' := 21) (tgt := 83) dX4_readSum_18 (by decide) rfl (fun hc18 => ?_) (fun hc18 => ?_)
  · have H := H.1 hc18
    refine ax_iconst (pc' := 84) (v := (1 : Int32)) dX4_readSum_83 (by decide) rfl ?_
    exact ax_zret dX4_readSum_84 rfl rfl rfl rfl ⟨_, _, rfl, rfl, H⟩
  · have H := H.2 hc18
    refine ax_aload_n (pc' := 22) dX4_readSum_21 rfl rfl ?_
    refine ax_bipush (pc' := 24) (v := (43 : Int32)) dX4_readSum_22 (by decide) rfl ?_
    refine ay_V1 (pc' := 27) (ce' := 0) (sl' := 0) (mc2 := 0) (ms2 := 0) (I2 := i_X10_passes) dX4_readSum_24 ml_X4_57 sh_1 (by decide) rfl rfl rfl rfl rfl rfl rfl rfl rfl (ac_M.imp (o_X10_passes _ (43 : Int32) H) ?_)
    rintro _ _ ⟨r24, s24, rfl, rfl, H⟩
    refine ax_if_eq (pc' := 30) (tgt := 35) dX4_readSum_27 (by decide) rfl (fun hc27 => ?_) (fun hc27 => ?_)
    · have H := H.1 hc27
      refine ax_aload_n (pc' := 36) dX4_readSum_35 rfl rfl ?_
      refine ax_bipush (pc' := 38) (v := (45 : Int32)) dX4_readSum_36 (by decide) rfl ?_
      refine ay_V1 (pc' := 41) (ce' := 0) (sl' := 0) (mc2 := 0) (ms2 := 0) (I2 := i_X10_passes) dX4_readSum_38 ml_X4_57 sh_1 (by decide) rfl rfl rfl rfl rfl rfl rfl rfl rfl (ac_M.imp (o_X10_passes _ (45 : Int32) H) ?_)
      rintro _ _ ⟨r38, s38, rfl, rfl, H⟩
      refine ax_if_eq (pc' := 44) (tgt := 49) dX4_readSum_41 (by decide) rfl (fun hc41 => ?_) (fun hc41 => ?_)
      · have H := H.1 hc41
        refine ax_iconst (pc' := 50) (v := (0 : Int32)) dX4_readSum_49 (by decide) rfl ?_
        refine ax_istore (pc' := 52) dX4_readSum_50 rfl rfl rfl ?_
        refine ax_iload (pc' := 54) dX4_readSum_52 rfl rfl ?_
        refine ax_if_ne (pc' := 57) (tgt := 59) dX4_readSum_54 (by decide) rfl (fun hc54 => ?_) (fun hc54 => ?_)
        · have H := H.1 hc54
          refine ax_aload_n (pc' := 60) dX4_readSum_59 rfl rfl ?_
          refine ax_aload_n (pc' := 61) dX4_readSum_60 rfl rfl ?_
          refine ax_iload_n (pc' := 62) dX4_readSum_61 rfl rfl ?_
          refine ay_V2 (pc' := 65) (ce' := 0) (sl' := 0) (mc2 := 0) (ms2 := 0) (I2 := i_X4_readProduct) dX4_readSum_62 ml_X4_51 sh_29 (by decide) rfl rfl rfl rfl rfl rfl rfl rfl rfl (ac_M.imp (o_X4_readProduct d f2 hRs H) ?_)
          rintro _ _ ⟨r62, s62, rfl, rfl, H⟩
          refine ax_if_ne (pc' := 68) (tgt := 70) dX4_readSum_65 (by decide) rfl (fun hc65 => ?_) (fun hc65 => ?_)
          · have H := H.1 hc65
            refine ax_aload_n (pc' := 71) dX4_readSum_70 rfl rfl ?_
            refine ax_iload (pc' := 73) dX4_readSum_71 rfl rfl ?_
            refine ay_V1 (pc' := 76) (ce' := 0) (sl' := 0) (mc2 := 0) (ms2 := 0) (I2 := i_X4_put) dX4_readSum_73 ml_X4_28 sh_29 (by decide) rfl rfl rfl rfl rfl rfl rfl rfl rfl (ac_M.imp (o_X4_put _ 29 (0 : Int32) is_Lw29 H) ?_)
            rintro _ _ ⟨r73, s73, rfl, rfl, H⟩
            refine ax_pop (pc' := 77) dX4_readSum_76 rfl rfl ?_
            refine ax_iinc (pc' := 80) (v := (x3 + (1 : Int32))) dX4_readSum_77 rfl rfl rfl rfl rfl ?_
            refine ax_goto (tgt := 13) dX4_readSum_80 (by decide) ?_
            refine ax_drop 4 rfl ?_
            exact H
          · have H := H.2 hc65
            refine ax_iconst (pc' := 69) (v := (0 : Int32)) dX4_readSum_68 (by decide) rfl ?_
            exact ax_zret dX4_readSum_69 rfl rfl rfl rfl ⟨_, _, rfl, rfl, H⟩
        · have H := H.2 hc54
          refine ax_iconst (pc' := 58) (v := (1 : Int32)) dX4_readSum_57 (by decide) rfl ?_
          exact ax_zret dX4_readSum_58 rfl rfl rfl rfl ⟨_, _, rfl, rfl, H⟩
      · have H := H.2 hc41
        refine ax_bipush (pc' := 46) (v := (-10 : Int32)) dX4_readSum_44 (by decide) rfl ?_
        refine ax_goto (tgt := 50) dX4_readSum_46 (by decide) ?_
        refine ax_istore (pc' := 52) dX4_readSum_50 rfl rfl rfl ?_
        refine ax_iload (pc' := 54) dX4_readSum_52 rfl rfl ?_
        refine ax_if_ne (pc' := 57) (tgt := 59) dX4_readSum_54 (by decide) rfl (fun hc54 => ?_) (fun hc54 => ?_)
        · have H := H.1 hc54
          refine ax_aload_n (pc' := 60) dX4_readSum_59 rfl rfl ?_
          refine ax_aload_n (pc' := 61) dX4_readSum_60 rfl rfl ?_
          refine ax_iload_n (pc' := 62) dX4_readSum_61 rfl rfl ?_
          refine ay_V2 (pc' := 65) (ce' := 0) (sl' := 0) (mc2 := 0) (ms2 := 0) (I2 := i_X4_readProduct) dX4_readSum_62 ml_X4_51 sh_29 (by decide) rfl rfl rfl rfl rfl rfl rfl rfl rfl (ac_M.imp (o_X4_readProduct d f2 hRs H) ?_)
          rintro _ _ ⟨r62, s62, rfl, rfl, H⟩
          refine ax_if_ne (pc' := 68) (tgt := 70) dX4_readSum_65 (by decide) rfl (fun hc65 => ?_) (fun hc65 => ?_)
          · have H := H.1 hc65
            refine ax_aload_n (pc' := 71) dX4_readSum_70 rfl rfl ?_
            refine ax_iload (pc' := 73) dX4_readSum_71 rfl rfl ?_
            refine ay_V1 (pc' := 76) (ce' := 0) (sl' := 0) (mc2 := 0) (ms2 := 0) (I2 := i_X4_put) dX4_readSum_73 ml_X4_28 sh_29 (by decide) rfl rfl rfl rfl rfl rfl rfl rfl rfl (ac_M.imp (o_X4_put _ 29 (-10 : Int32) is_Lw29 H) ?_)
            rintro _ _ ⟨r73, s73, rfl, rfl, H⟩
            refine ax_pop (pc' := 77) dX4_readSum_76 rfl rfl ?_
            refine ax_iinc (pc' := 80) (v := (x3 + (1 : Int32))) dX4_readSum_77 rfl rfl rfl rfl rfl ?_
            refine ax_goto (tgt := 13) dX4_readSum_80 (by decide) ?_
            refine ax_drop 4 rfl ?_
            exact H
          · have H := H.2 hc65
            refine ax_iconst (pc' := 69) (v := (0 : Int32)) dX4_readSum_68 (by decide) rfl ?_
            exact ax_zret dX4_readSum_69 rfl rfl rfl rfl ⟨_, _, rfl, rfl, H⟩
        · have H := H.2 hc54
          refine ax_iconst (pc' := 58) (v := (1 : Int32)) dX4_readSum_57 (by decide) rfl ?_
          exact ax_zret dX4_readSum_58 rfl rfl rfl rfl ⟨_, _, rfl, rfl, H⟩
    · have H := H.2 hc27
      refine ax_bipush (pc' := 32) (v := (-9 : Int32)) dX4_readSum_30 (by decide) rfl ?_
      refine ax_goto (tgt := 50) dX4_readSum_32 (by decide) ?_
      refine ax_istore (pc' := 52) dX4_readSum_50 rfl rfl rfl ?_
      refine ax_iload (pc' := 54) dX4_readSum_52 rfl rfl ?_
      refine ax_if_ne (pc' := 57) (tgt := 59) dX4_readSum_54 (by decide) rfl (fun hc54 => ?_) (fun hc54 => ?_)
      · have H := H.1 hc54
        refine ax_aload_n (pc' := 60) dX4_readSum_59 rfl rfl ?_
        refine ax_aload_n (pc' := 61) dX4_readSum_60 rfl rfl ?_
        refine ax_iload_n (pc' := 62) dX4_readSum_61 rfl rfl ?_
        refine ay_V2 (pc' := 65) (ce' := 0) (sl' := 0) (mc2 := 0) (ms2 := 0) (I2 := i_X4_readProduct) dX4_readSum_62 ml_X4_51 sh_29 (by decide) rfl rfl rfl rfl rfl rfl rfl rfl rfl (ac_M.imp (o_X4_readProduct d f2 hRs H) ?_)
        rintro _ _ ⟨r62, s62, rfl, rfl, H⟩
        refine ax_if_ne (pc' := 68) (tgt := 70) dX4_readSum_65 (by decide) rfl (fun hc65 => ?_) (fun hc65 => ?_)
        · have H := H.1 hc65
          refine ax_aload_n (pc' := 71) dX4_readSum_70 rfl rfl ?_
          refine ax_iload (pc' := 73) dX4_readSum_71 rfl rfl ?_
          refine ay_V1 (pc' := 76) (ce' := 0) (sl' := 0) (mc2 := 0) (ms2 := 0) (I2 := i_X4_put) dX4_readSum_73 ml_X4_28 sh_29 (by decide) rfl rfl rfl rfl rfl rfl rfl rfl rfl (ac_M.imp (o_X4_put _ 29 (-9 : Int32) is_Lw29 H) ?_)
          rintro _ _ ⟨r73, s73, rfl, rfl, H⟩
          refine ax_pop (pc' := 77) dX4_readSum_76 rfl rfl ?_
          refine ax_iinc (pc' := 80) (v := (x3 + (1 : Int32))) dX4_readSum_77 rfl rfl rfl rfl rfl ?_
          refine ax_goto (tgt := 13) dX4_readSum_80 (by decide) ?_
          refine ax_drop 4 rfl ?_
          exact H
        · have H := H.2 hc65
          refine ax_iconst (pc' := 69) (v := (0 : Int32)) dX4_readSum_68 (by decide) rfl ?_
          exact ax_zret dX4_readSum_69 rfl rfl rfl rfl ⟨_, _, rfl, rfl, H⟩
      · have H := H.2 hc54
        refine ax_iconst (pc' := 58) (v := (1 : Int32)) dX4_readSum_57 (by decide) rfl ?_
        exact ax_zret dX4_readSum_58 rfl rfl rfl rfl ⟨_, _, rfl, rfl, H⟩
theorem o_X4_readSum {g : ac_G} {τ : Nat → Nat → Int64} (d : Nat) (p2 : Int32) {Rs : Int32 → (Int32 → ac_m → Prop) → ac_m → Prop} (hRs : ∀ (e : Nat) (p1 : Int32) (Q : Int32 → ac_m → Prop) (s : ac_m), Rs p1 Q s → ac_M g i_X4_readSum (d + e) 0 0 [.ref 29, .ref 1, .int p1] (false, 586, SH, s, τ) (liI τ Q)) {Q : Int32 → ac_m → Prop} {s : ac_m} (H : w_X4_readSum p2 Q Rs s) : ac_M g i_X4_readSum (d + 8) 0 0 [.ref 29, .ref 1, .int p2] (false, 586, SH, s, τ) (liI τ Q) := by
  refine ac_ofX (by decide +kernel) rfl rfl rfl ?_
  refine ax_aload_n (pc' := 1) dX4_readSum_0 rfl rfl ?_
  refine ax_aload_n (pc' := 2) dX4_readSum_1 rfl rfl ?_
  refine ax_iload_n (pc' := 3) dX4_readSum_2 rfl rfl ?_
  refine ay_V2 (pc' := 6) (ce' := 0) (sl' := 0) (mc2 := 0) (ms2 := 0) (I2 := i_X4_readProduct) dX4_readSum_3 ml_X4_51 sh_29 (by decide) rfl rfl rfl rfl rfl rfl rfl rfl rfl (ac_M.imp (o_X4_readProduct d p2 hRs H) ?_)
  rintro _ _ ⟨r3, s3, rfl, rfl, H⟩
  refine ax_if_ne (pc' := 9) (tgt := 11) dX4_readSum_6 (by decide) rfl (fun hc6 => ?_) (fun hc6 => ?_)
  · have H := H.1 hc6
    refine ax_iconst (pc' := 12) (v := (0 : Int32)) dX4_readSum_11 (by decide) rfl ?_
    refine ax_istore_n (pc' := 13) dX4_readSum_12 rfl rfl rfl ?_
    refine ol_X4_readSum_13 d p2 hRs _    H
  · have H := H.2 hc6
    refine ax_iconst (pc' := 10) (v := (0 : Int32)) dX4_readSum_9 (by decide) rfl ?_
    exact ax_zret dX4_readSum_10 rfl rfl rfl rfl ⟨_, _, rfl, rfl, H⟩
theorem tok_X4_readSum {g : ac_G} {τ : Nat → Nat → Int64} : ∀ (k d e : Nat) (p1 : Int32) (Q : Int32 → ac_m → Prop) (s : ac_m), tk_X4_readSum k p1 Q s → ac_M g i_X4_readSum (d + k * 8 + e) 0 0 [.ref 29, .ref 1, .int p1] (false, 586, SH, s, τ) (liI τ Q)
  | 0, d, e, p1, Q, s, H => H.elim
  | k + 1, d, e, p1, Q, s, H => by
    have h := o_X4_readSum (g := g) (τ := τ) (d + k * 8 + e) p1 (fun e' p1 Q s H' => by
      have h2 := tok_X4_readSum (g := g) (τ := τ) k d (e + e') p1 Q s H'
      rwa [show d + k * 8 + (e + e') = d + k * 8 + e + e' by omega] at h2) H
    rwa [show d + k * 8 + e + 8 = d + (k + 1) * 8 + e by omega] at h
theorem to_X4_readSum {g : ac_G} {τ : Nat → Nat → Int64} (d : Nat) (p1 : Int32) {Q : Int32 → ac_m → Prop} {s : ac_m} (H : t_X4_readSum p1 Q s) : ac_M g i_X4_readSum (d + 64) 0 0 [.ref 29, .ref 1, .int p1] (false, 586, SH, s, τ) (liI τ Q) := tok_X4_readSum 8 d 0 p1 Q s H
theorem o_X4_read {g : ac_G} {τ : Nat → Nat → Int64} (d : Nat)  {Q : Int32 → ac_m → Prop} {s : ac_m} (H : w_X4_read  Q s) : ac_M g i_X4_read (d + 65) 0 0 [.ref 29, .ref 1] (false, 586, SH, s, τ) (liI τ Q) := by
  refine ac_ofX (by decide +kernel) rfl rfl rfl ?_
  refine ax_aload_n (pc' := 1) dX4_read_0 rfl rfl ?_
  refine ax_iconst (pc' := 2) (v := (0 : Int32)) dX4_read_1 (by decide) rfl ?_
  refine ax_putI (pc' := 5) dX4_read_2 fp_X4_21 sh_29 rfl rfl rfl ?_
  refine ax_aload_n (pc' := 6) dX4_read_5 rfl rfl ?_
  refine ax_aload_n (pc' := 7) dX4_read_6 rfl rfl ?_
  refine ax_iconst (pc' := 8) (v := (0 : Int32)) dX4_read_7 (by decide) rfl ?_
  refine ay_V2 (pc' := 11) (ce' := 0) (sl' := 0) (mc2 := 0) (ms2 := 0) (I2 := i_X4_readSum) dX4_read_8 ml_X4_38 sh_29 (by decide) rfl rfl rfl rfl rfl rfl rfl rfl rfl (ac_M.imp (to_X4_readSum _ (0 : Int32) H) ?_)
  rintro _ _ ⟨r8, s8, rfl, rfl, H⟩
  refine ax_if_ne (pc' := 14) (tgt := 16) dX4_read_11 (by decide) rfl (fun hc11 => ?_) (fun hc11 => ?_)
  · have H := H.1 hc11
    refine ax_aload_n (pc' := 17) dX4_read_16 rfl rfl ?_
    refine ay_V0 (pc' := 20) (ce' := 0) (sl' := 0) (mc2 := 0) (ms2 := 0) (I2 := i_X10_ended) dX4_read_17 ml_X4_42 sh_1 (by decide) rfl rfl rfl rfl rfl rfl rfl rfl rfl (ac_M.imp (o_X10_ended _  H) ?_)
    rintro _ _ ⟨r17, s17, rfl, rfl, H⟩
    refine ax_if_ne (pc' := 23) (tgt := 31) dX4_read_20 (by decide) rfl (fun hc20 => ?_) (fun hc20 => ?_)
    · have H := H.1 hc20
      refine ax_iconst (pc' := 32) (v := (1 : Int32)) dX4_read_31 (by decide) rfl ?_
      refine ax_goto (tgt := 36) dX4_read_32 (by decide) ?_
      exact ax_zret dX4_read_36 rfl rfl rfl rfl ⟨_, _, rfl, rfl, H⟩
    · have H := H.2 hc20
      refine ax_aload_n (pc' := 24) dX4_read_23 rfl rfl ?_
      refine ax_iconst (pc' := 25) (v := (1 : Int32)) dX4_read_24 (by decide) rfl ?_
      refine ay_V1 (pc' := 28) (ce' := 0) (sl' := 0) (mc2 := 0) (ms2 := 0) (I2 := i_X10_fail) dX4_read_25 ml_X4_48 sh_1 (by decide) rfl rfl rfl rfl rfl rfl rfl rfl rfl (ac_M.imp (o_X10_fail _ (1 : Int32) H) ?_)
      rintro _ _ ⟨r25, s25, rfl, rfl, H⟩
      refine ax_if_eq (pc' := 31) (tgt := 35) dX4_read_28 (by decide) rfl (fun hc28 => ?_) (fun hc28 => ?_)
      · have H := H.1 hc28
        refine ax_iconst (pc' := 36) (v := (0 : Int32)) dX4_read_35 (by decide) rfl ?_
        exact ax_zret dX4_read_36 rfl rfl rfl rfl ⟨_, _, rfl, rfl, H⟩
      · have H := H.2 hc28
        refine ax_iconst (pc' := 32) (v := (1 : Int32)) dX4_read_31 (by decide) rfl ?_
        refine ax_goto (tgt := 36) dX4_read_32 (by decide) ?_
        exact ax_zret dX4_read_36 rfl rfl rfl rfl ⟨_, _, rfl, rfl, H⟩
  · have H := H.2 hc11
    refine ax_iconst (pc' := 15) (v := (0 : Int32)) dX4_read_14 (by decide) rfl ?_
    exact ax_zret dX4_read_15 rfl rfl rfl rfl ⟨_, _, rfl, rfl, H⟩
theorem o_X4_tellBeast {g : ac_G} {τ : Nat → Nat → Int64} (d : Nat) (p1 : Int32) (p2 : Int32) (p3 : Int32) (p4 : Int32) {Q : ac_m → Prop} {s : ac_m} (H : w_X4_tellBeast p1 p2 p3 p4 Q s) : ac_M g i_X4_tellBeast d 0 0 [.ref 25, .int p1, .int p2, .int p3, .int p4] (false, 586, SH, s, τ) (liV τ Q) := by
  refine ac_ofX (by decide +kernel) rfl rfl rfl ?_
  refine ax_aload_n (pc' := 1) dX4_tellBeast_0 rfl rfl ?_
  refine ax_getR (pc' := 4) dX4_tellBeast_1 fl_X4_18 sh_25 rfl rfl rfl ?_
  refine ax_iconst (pc' := 5) (v := (0 : Int32)) dX4_tellBeast_4 (by decide) rfl ?_
  refine ax_iload_n (pc' := 6) dX4_tellBeast_5 rfl rfl ?_
  refine ax_iast (pc' := 7) dX4_tellBeast_6 sh_28 (ac_in (by decide)) rfl rfl ?_
  refine ax_aload_n (pc' := 8) dX4_tellBeast_7 rfl rfl ?_
  refine ax_getR (pc' := 11) dX4_tellBeast_8 fl_X4_18 sh_25 rfl rfl rfl ?_
  refine ax_iconst (pc' := 12) (v := (1 : Int32)) dX4_tellBeast_11 (by decide) rfl ?_
  refine ax_iload_n (pc' := 13) dX4_tellBeast_12 rfl rfl ?_
  refine ax_iast (pc' := 14) dX4_tellBeast_13 sh_28 (ac_in (by decide)) rfl rfl ?_
  refine ax_aload_n (pc' := 15) dX4_tellBeast_14 rfl rfl ?_
  refine ax_getR (pc' := 18) dX4_tellBeast_15 fl_X4_18 sh_25 rfl rfl rfl ?_
  refine ax_iconst (pc' := 19) (v := (2 : Int32)) dX4_tellBeast_18 (by decide) rfl ?_
  refine ax_iload_n (pc' := 20) dX4_tellBeast_19 rfl rfl ?_
  refine ax_iast (pc' := 21) dX4_tellBeast_20 sh_28 (ac_in (by decide)) rfl rfl ?_
  refine ax_aload_n (pc' := 22) dX4_tellBeast_21 rfl rfl ?_
  refine ax_getR (pc' := 25) dX4_tellBeast_22 fl_X4_18 sh_25 rfl rfl rfl ?_
  refine ax_bipush (pc' := 27) (v := (7 : Int32)) dX4_tellBeast_25 (by decide) rfl ?_
  refine ax_iload (pc' := 29) dX4_tellBeast_27 rfl rfl ?_
  refine ax_iast (pc' := 30) dX4_tellBeast_29 sh_28 (ac_in (by decide)) rfl rfl ?_
  exact ax_vret dX4_tellBeast_30 rfl rfl rfl ⟨_, rfl, rfl, H⟩
theorem o_X4_tellPlace {g : ac_G} {τ : Nat → Nat → Int64} (d : Nat) (p1 : Int32) (p2 : Int32) (p3 : Int32) (p4 : Int32) {Q : ac_m → Prop} {s : ac_m} (H : w_X4_tellPlace p1 p2 p3 p4 Q s) : ac_M g i_X4_tellPlace d 0 0 [.ref 25, .int p1, .int p2, .int p3, .int p4] (false, 586, SH, s, τ) (liV τ Q) := by
  refine ac_ofX (by decide +kernel) rfl rfl rfl ?_
  refine ax_aload_n (pc' := 1) dX4_tellPlace_0 rfl rfl ?_
  refine ax_getR (pc' := 4) dX4_tellPlace_1 fl_X4_18 sh_25 rfl rfl rfl ?_
  refine ax_iconst (pc' := 5) (v := (3 : Int32)) dX4_tellPlace_4 (by decide) rfl ?_
  refine ax_iload_n (pc' := 6) dX4_tellPlace_5 rfl rfl ?_
  refine ax_iast (pc' := 7) dX4_tellPlace_6 sh_28 (ac_in (by decide)) rfl rfl ?_
  refine ax_aload_n (pc' := 8) dX4_tellPlace_7 rfl rfl ?_
  refine ax_getR (pc' := 11) dX4_tellPlace_8 fl_X4_18 sh_25 rfl rfl rfl ?_
  refine ax_iconst (pc' := 12) (v := (4 : Int32)) dX4_tellPlace_11 (by decide) rfl ?_
  refine ax_iload_n (pc' := 13) dX4_tellPlace_12 rfl rfl ?_
  refine ax_iast (pc' := 14) dX4_tellPlace_13 sh_28 (ac_in (by decide)) rfl rfl ?_
  refine ax_aload_n (pc' := 15) dX4_tellPlace_14 rfl rfl ?_
  refine ax_getR (pc' := 18) dX4_tellPlace_15 fl_X4_18 sh_25 rfl rfl rfl ?_
  refine ax_iconst (pc' := 19) (v := (5 : Int32)) dX4_tellPlace_18 (by decide) rfl ?_
  refine ax_iload_n (pc' := 20) dX4_tellPlace_19 rfl rfl ?_
  refine ax_iast (pc' := 21) dX4_tellPlace_20 sh_28 (ac_in (by decide)) rfl rfl ?_
  refine ax_aload_n (pc' := 22) dX4_tellPlace_21 rfl rfl ?_
  refine ax_getR (pc' := 25) dX4_tellPlace_22 fl_X4_18 sh_25 rfl rfl rfl ?_
  refine ax_bipush (pc' := 27) (v := (6 : Int32)) dX4_tellPlace_25 (by decide) rfl ?_
  refine ax_iload (pc' := 29) dX4_tellPlace_27 rfl rfl ?_
  refine ax_iast (pc' := 30) dX4_tellPlace_29 sh_28 (ac_in (by decide)) rfl rfl ?_
  exact ax_vret dX4_tellPlace_30 rfl rfl rfl ⟨_, rfl, rfl, H⟩
theorem o_X4_reckon {g : ac_G} {τ : Nat → Nat → Int64} (d : Nat) (p1 : Int32) (p2 : Int32) (p3 : Int32) {Q : Int32 → ac_m → Prop} {s : ac_m} (H : w_X4_reckon p1 p2 p3 Q s) : ac_M g i_X4_reckon d 0 0 [.int p1, .int p2, .int p3] (false, 586, SH, s, τ) (liI τ Q) := by
  refine ac_ofX (by decide +kernel) rfl rfl rfl ?_
  refine ax_iload_n (pc' := 1) dX4_reckon_0 rfl rfl ?_
  by_cases hk1_m14 : p1 = (-14 : Int32)
  · have H := H.1 hk1_m14
    refine ax_tableIn (off := (75)) (tgt := 76) dX4_reckon_1 (by rw [hk1_m14]; decide) (by rw [hk1_m14]; decide) (by rw [hk1_m14]; rfl) (by decide) ?_
    refine ax_iload_n (pc' := 77) dX4_reckon_76 rfl rfl ?_
    refine ax_iload_n (pc' := 78) dX4_reckon_77 rfl rfl ?_
    refine ax_icmp_ge (pc' := 81) (tgt := 85) dX4_reckon_78 (by decide) rfl (fun hc78 => ?_) (fun hc78 => ?_)
    · have H := H.1 hc78
      refine ax_iload_n (pc' := 86) dX4_reckon_85 rfl rfl ?_
      exact ax_iret dX4_reckon_86 rfl rfl rfl ⟨_, _, rfl, rfl, H⟩
    · have H := H.2 hc78
      refine ax_iload_n (pc' := 82) dX4_reckon_81 rfl rfl ?_
      refine ax_goto (tgt := 86) dX4_reckon_82 (by decide) ?_
      exact ax_iret dX4_reckon_86 rfl rfl rfl ⟨_, _, rfl, rfl, H⟩
  have H := H.2
  by_cases hk1_m13 : p1 = (-13 : Int32)
  · have H := H.1 hk1_m13
    refine ax_tableIn (off := (63)) (tgt := 64) dX4_reckon_1 (by rw [hk1_m13]; decide) (by rw [hk1_m13]; decide) (by rw [hk1_m13]; rfl) (by decide) ?_
    refine ax_iload_n (pc' := 65) dX4_reckon_64 rfl rfl ?_
    refine ax_if_ne (pc' := 68) (tgt := 72) dX4_reckon_65 (by decide) rfl (fun hc65 => ?_) (fun hc65 => ?_)
    · have H := H.1 hc65
      refine ax_iload_n (pc' := 73) dX4_reckon_72 rfl rfl ?_
      refine ax_iload_n (pc' := 74) dX4_reckon_73 rfl rfl ?_
      obtain ⟨hz, H⟩ := H
      refine ax_irem (pc' := 75) dX4_reckon_74 hz rfl ?_
      exact ax_iret dX4_reckon_75 rfl rfl rfl ⟨_, _, rfl, rfl, H⟩
    · have H := H.2 hc65
      refine ax_iconst (pc' := 69) (v := (0 : Int32)) dX4_reckon_68 (by decide) rfl ?_
      refine ax_goto (tgt := 75) dX4_reckon_69 (by decide) ?_
      exact ax_iret dX4_reckon_75 rfl rfl rfl ⟨_, _, rfl, rfl, H⟩
  have H := H.2
  by_cases hk1_m12 : p1 = (-12 : Int32)
  · have H := H.1 hk1_m12
    refine ax_tableIn (off := (51)) (tgt := 52) dX4_reckon_1 (by rw [hk1_m12]; decide) (by rw [hk1_m12]; decide) (by rw [hk1_m12]; rfl) (by decide) ?_
    refine ax_iload_n (pc' := 53) dX4_reckon_52 rfl rfl ?_
    refine ax_if_ne (pc' := 56) (tgt := 60) dX4_reckon_53 (by decide) rfl (fun hc53 => ?_) (fun hc53 => ?_)
    · have H := H.1 hc53
      refine ax_iload_n (pc' := 61) dX4_reckon_60 rfl rfl ?_
      refine ax_iload_n (pc' := 62) dX4_reckon_61 rfl rfl ?_
      obtain ⟨hz, H⟩ := H
      refine ax_idiv (pc' := 63) dX4_reckon_62 hz rfl ?_
      exact ax_iret dX4_reckon_63 rfl rfl rfl ⟨_, _, rfl, rfl, H⟩
    · have H := H.2 hc53
      refine ax_iconst (pc' := 57) (v := (0 : Int32)) dX4_reckon_56 (by decide) rfl ?_
      refine ax_goto (tgt := 63) dX4_reckon_57 (by decide) ?_
      exact ax_iret dX4_reckon_63 rfl rfl rfl ⟨_, _, rfl, rfl, H⟩
  have H := H.2
  by_cases hk1_m11 : p1 = (-11 : Int32)
  · have H := H.1 hk1_m11
    refine ax_tableIn (off := (47)) (tgt := 48) dX4_reckon_1 (by rw [hk1_m11]; decide) (by rw [hk1_m11]; decide) (by rw [hk1_m11]; rfl) (by decide) ?_
    refine ax_iload_n (pc' := 49) dX4_reckon_48 rfl rfl ?_
    refine ax_iload_n (pc' := 50) dX4_reckon_49 rfl rfl ?_
    refine ax_imul (pc' := 51) dX4_reckon_50 rfl ?_
    exact ax_iret dX4_reckon_51 rfl rfl rfl ⟨_, _, rfl, rfl, H⟩
  have H := H.2
  by_cases hk1_m10 : p1 = (-10 : Int32)
  · have H := H.1 hk1_m10
    refine ax_tableIn (off := (43)) (tgt := 44) dX4_reckon_1 (by rw [hk1_m10]; decide) (by rw [hk1_m10]; decide) (by rw [hk1_m10]; rfl) (by decide) ?_
    refine ax_iload_n (pc' := 45) dX4_reckon_44 rfl rfl ?_
    refine ax_iload_n (pc' := 46) dX4_reckon_45 rfl rfl ?_
    refine ax_isub (pc' := 47) dX4_reckon_46 rfl ?_
    exact ax_iret dX4_reckon_47 rfl rfl rfl ⟨_, _, rfl, rfl, H⟩
  have H := H.2
  by_cases hk1_m9 : p1 = (-9 : Int32)
  · have H := H.1 hk1_m9
    refine ax_tableIn (off := (39)) (tgt := 40) dX4_reckon_1 (by rw [hk1_m9]; decide) (by rw [hk1_m9]; decide) (by rw [hk1_m9]; rfl) (by decide) ?_
    refine ax_iload_n (pc' := 41) dX4_reckon_40 rfl rfl ?_
    refine ax_iload_n (pc' := 42) dX4_reckon_41 rfl rfl ?_
    refine ax_iadd (pc' := 43) dX4_reckon_42 rfl ?_
    exact ax_iret dX4_reckon_43 rfl rfl rfl ⟨_, _, rfl, rfl, H⟩
  have H := H.2
  have H := H ⟨hk1_m14, hk1_m13, hk1_m12, hk1_m11, hk1_m10, hk1_m9⟩
  have hqm14 : p1.toInt ≠ -14 := ac_ne hk1_m14
  have hqm13 : p1.toInt ≠ -13 := ac_ne hk1_m13
  have hqm12 : p1.toInt ≠ -12 := ac_ne hk1_m12
  have hqm11 : p1.toInt ≠ -11 := ac_ne hk1_m11
  have hqm10 : p1.toInt ≠ -10 := ac_ne hk1_m10
  have hqm9 : p1.toInt ≠ -9 := ac_ne hk1_m9
  refine ax_tableOut (tgt := 87) dX4_reckon_1 (by omega) (by decide) ?_
  refine ax_iload_n (pc' := 88) dX4_reckon_87 rfl rfl ?_
  refine ax_iload_n (pc' := 89) dX4_reckon_88 rfl rfl ?_
  refine ax_icmp_le (pc' := 92) (tgt := 96) dX4_reckon_89 (by decide) rfl (fun hc89 => ?_) (fun hc89 => ?_)
  · have H := H.1 hc89
    refine ax_iload_n (pc' := 97) dX4_reckon_96 rfl rfl ?_
    exact ax_iret dX4_reckon_97 rfl rfl rfl ⟨_, _, rfl, rfl, H⟩
  · have H := H.2 hc89
    refine ax_iload_n (pc' := 93) dX4_reckon_92 rfl rfl ?_
    refine ax_goto (tgt := 97) dX4_reckon_93 (by decide) ?_
    exact ax_iret dX4_reckon_97 rfl rfl rfl ⟨_, _, rfl, rfl, H⟩
theorem ol_X4_eaten_4 {g : ac_G} {τ : Nat → Nat → Int64} (d : Nat)  {Q : Int32 → ac_m → Prop}    {x1 : Int32} {x2 : Int32} {s : ac_m} (H : l_X4_eaten_4  Q    x1 x2 s) : ac_X g i_X4_eaten (d + 1) 0 0 (liI τ Q) 0 0 4 [some (.ref 25), some (.int x1), some (.int x2), none] [] (false, 586, SH, s, τ) := by
  refine H (fun x1 x2 s => ac_X g i_X4_eaten (d + 1) 0 0 (liI τ Q) 0 0 4 [some (.ref 25), some (.int x1), some (.int x2), none] [] (false, 586, SH, s, τ)) ?_
  intro x1 x2 s H
  refine ax_iload_n (pc' := 5) dX4_eaten_4 rfl rfl ?_
  refine ax_aload_n (pc' := 6) dX4_eaten_5 rfl rfl ?_
  refine ax_getI (pc' := 9) dX4_eaten_6 fl_X4_21 sh_25 rfl rfl rfl ?_
  refine ax_icmp_ge (pc' := 12) (tgt := 107) dX4_eaten_9 (by decide) rfl (fun hc9 => ?_) (fun hc9 => ?_)
  · have H := H.1 hc9
    refine ax_iconst (pc' := 108) (v := (0 : Int32)) dX4_eaten_107 (by decide) rfl ?_
    refine ax_bipush (pc' := 110) (v := (20 : Int32)) dX4_eaten_108 (by decide) rfl ?_
    refine ax_aload_n (pc' := 111) dX4_eaten_110 rfl rfl ?_
    refine ax_getR (pc' := 114) dX4_eaten_111 fl_X4_15 sh_25 rfl rfl rfl ?_
    refine ax_iconst (pc' := 115) (v := (0 : Int32)) dX4_eaten_114 (by decide) rfl ?_
    refine ax_iald (pc' := 116) dX4_eaten_115 sh_27 (ac_in (by decide)) rfl rfl ?_
    refine ax_min (pc' := 119) dX4_eaten_116 mj_X4_110 mk_min.1 mk_min.2.1 mk_min.2.2 rfl rfl rfl rfl ?_
    refine ax_max (pc' := 122) dX4_eaten_119 mj_X4_115 mk_max.1 mk_max.2.1 mk_max.2.2 rfl rfl rfl rfl ?_
    exact ax_iret dX4_eaten_122 rfl rfl rfl ⟨_, _, rfl, rfl, H⟩
  · have H := H.2 hc9
    refine ax_iload_n (pc' := 13) dX4_eaten_12 rfl rfl ?_
    refine ax_sipush (pc' := 16) (v := (150 : Int32)) dX4_eaten_13 (by decide) rfl ?_
    refine ax_icmp_ge (pc' := 19) (tgt := 107) dX4_eaten_16 (by decide) rfl (fun hc16 => ?_) (fun hc16 => ?_)
    · have H := H.1 hc16
      refine ax_iconst (pc' := 108) (v := (0 : Int32)) dX4_eaten_107 (by decide) rfl ?_
      refine ax_bipush (pc' := 110) (v := (20 : Int32)) dX4_eaten_108 (by decide) rfl ?_
      refine ax_aload_n (pc' := 111) dX4_eaten_110 rfl rfl ?_
      refine ax_getR (pc' := 114) dX4_eaten_111 fl_X4_15 sh_25 rfl rfl rfl ?_
      refine ax_iconst (pc' := 115) (v := (0 : Int32)) dX4_eaten_114 (by decide) rfl ?_
      refine ax_iald (pc' := 116) dX4_eaten_115 sh_27 (ac_in (by decide)) rfl rfl ?_
      refine ax_min (pc' := 119) dX4_eaten_116 mj_X4_110 mk_min.1 mk_min.2.1 mk_min.2.2 rfl rfl rfl rfl ?_
      refine ax_max (pc' := 122) dX4_eaten_119 mj_X4_115 mk_max.1 mk_max.2.1 mk_max.2.2 rfl rfl rfl rfl ?_
      exact ax_iret dX4_eaten_122 rfl rfl rfl ⟨_, _, rfl, rfl, H⟩
    · have H := H.2 hc16
      refine ax_aload_n (pc' := 20) dX4_eaten_19 rfl rfl ?_
      refine ax_getR (pc' := 23) dX4_eaten_20 fl_X4_9 sh_25 rfl rfl rfl ?_
      refine ax_iload_n (pc' := 24) dX4_eaten_23 rfl rfl ?_
      obtain ⟨hj24, H⟩ := H
      refine ax_iald (pc' := 25) dX4_eaten_24 sh_26 hj24 rfl rfl ?_
      refine ax_istore_n (pc' := 26) dX4_eaten_25 rfl rfl rfl ?_
      refine ax_iload_n (pc' := 27) dX4_eaten_26 rfl rfl ?_
      refine ax_bipush (pc' := 29) (v := (-8 : Int32)) dX4_eaten_27 (by decide) rfl ?_
      refine ax_icmp_lt (pc' := 32) (tgt := 67) dX4_eaten_29 (by decide) rfl (fun hc29 => ?_) (fun hc29 => ?_)
      · have H := H.1 hc29
        refine ax_iload_n (pc' := 68) dX4_eaten_67 rfl rfl ?_
        refine ax_iconst (pc' := 69) (v := (2 : Int32)) dX4_eaten_68 (by decide) rfl ?_
        refine ax_icmp_lt (pc' := 72) (tgt := 101) dX4_eaten_69 (by decide) rfl (fun hc69 => ?_) (fun hc69 => ?_)
        · have H := H.1 hc69
          refine ax_iinc (pc' := 104) (v := (x2 + (1 : Int32))) dX4_eaten_101 rfl rfl rfl rfl rfl ?_
          refine ax_goto (tgt := 4) dX4_eaten_104 (by decide) ?_
          refine ax_drop 3 rfl ?_
          exact H
        · have H := H.2 hc69
          refine ax_iinc (pc' := 75) (v := (x1 + (-1 : Int32))) dX4_eaten_72 rfl rfl rfl rfl rfl ?_
          refine ax_aload_n (pc' := 76) dX4_eaten_75 rfl rfl ?_
          refine ax_getR (pc' := 79) dX4_eaten_76 fl_X4_15 sh_25 rfl rfl rfl ?_
          refine ax_iload_n (pc' := 80) dX4_eaten_79 rfl rfl ?_
          refine ax_iconst (pc' := 81) (v := (1 : Int32)) dX4_eaten_80 (by decide) rfl ?_
          refine ax_isub (pc' := 82) dX4_eaten_81 rfl ?_
          refine ax_iload_n (pc' := 83) dX4_eaten_82 rfl rfl ?_
          refine ax_aload_n (pc' := 84) dX4_eaten_83 rfl rfl ?_
          refine ax_getR (pc' := 87) dX4_eaten_84 fl_X4_15 sh_25 rfl rfl rfl ?_
          refine ax_iload_n (pc' := 88) dX4_eaten_87 rfl rfl ?_
          refine ax_iconst (pc' := 89) (v := (1 : Int32)) dX4_eaten_88 (by decide) rfl ?_
          refine ax_isub (pc' := 90) dX4_eaten_89 rfl ?_
          obtain ⟨hj90, H⟩ := H
          refine ax_iald (pc' := 91) dX4_eaten_90 sh_27 hj90 rfl rfl ?_
          refine ax_aload_n (pc' := 92) dX4_eaten_91 rfl rfl ?_
          refine ax_getR (pc' := 95) dX4_eaten_92 fl_X4_15 sh_25 rfl rfl rfl ?_
          refine ax_iload_n (pc' := 96) dX4_eaten_95 rfl rfl ?_
          obtain ⟨hj96, H⟩ := H
          refine ax_iald (pc' := 97) dX4_eaten_96 sh_27 hj96 rfl rfl ?_
          refine ay_S3 (pc' := 100) (ce' := 0) (sl' := 0) (mc2 := 0) (ms2 := 0) (I2 := i_X4_reckon) dX4_eaten_97 ml_X4_106 rfl rfl rfl rfl rfl rfl rfl rfl (ac_M.imp (o_X4_reckon _ (s 26 x2.toNatClampNeg) (s 27 ((x1 + (-1 : Int32)) - (1 : Int32)).toNatClampNeg) (s 27 (x1 + (-1 : Int32)).toNatClampNeg) H) ?_)
          rintro _ _ ⟨r97, s97, rfl, rfl, H⟩
          obtain ⟨hj100, H⟩ := H
          refine ax_iast (pc' := 101) dX4_eaten_100 sh_27 hj100 rfl rfl ?_
          refine ax_iinc (pc' := 104) (v := (x2 + (1 : Int32))) dX4_eaten_101 rfl rfl rfl rfl rfl ?_
          refine ax_goto (tgt := 4) dX4_eaten_104 (by decide) ?_
          refine ax_drop 3 rfl ?_
          exact H
      · have H := H.2 hc29
        refine ax_iload_n (pc' := 33) dX4_eaten_32 rfl rfl ?_
        refine ax_sipush (pc' := 36) (v := (150 : Int32)) dX4_eaten_33 (by decide) rfl ?_
        refine ax_icmp_ge (pc' := 39) (tgt := 101) dX4_eaten_36 (by decide) rfl (fun hc36 => ?_) (fun hc36 => ?_)
        · have H := H.1 hc36
          refine ax_iinc (pc' := 104) (v := (x2 + (1 : Int32))) dX4_eaten_101 rfl rfl rfl rfl rfl ?_
          refine ax_goto (tgt := 4) dX4_eaten_104 (by decide) ?_
          refine ax_drop 3 rfl ?_
          exact H
        · have H := H.2 hc36
          refine ax_aload_n (pc' := 40) dX4_eaten_39 rfl rfl ?_
          refine ax_getR (pc' := 43) dX4_eaten_40 fl_X4_15 sh_25 rfl rfl rfl ?_
          refine ax_iload_n (pc' := 44) dX4_eaten_43 rfl rfl ?_
          refine ax_iload_n (pc' := 45) dX4_eaten_44 rfl rfl ?_
          refine ax_if_lt (pc' := 48) (tgt := 52) dX4_eaten_45 (by decide) rfl (fun hc45 => ?_) (fun hc45 => ?_)
          · have H := H.1 hc45
            refine ax_aload_n (pc' := 53) dX4_eaten_52 rfl rfl ?_
            refine ax_getR (pc' := 56) dX4_eaten_53 fl_X4_18 sh_25 rfl rfl rfl ?_
            refine ax_iconst (pc' := 57) (v := (-1 : Int32)) dX4_eaten_56 (by decide) rfl ?_
            refine ax_iload_n (pc' := 58) dX4_eaten_57 rfl rfl ?_
            refine ax_isub (pc' := 59) dX4_eaten_58 rfl ?_
            obtain ⟨hj59, H⟩ := H
            refine ax_iald (pc' := 60) dX4_eaten_59 sh_28 hj59 rfl rfl ?_
            obtain ⟨hj60, H⟩ := H
            refine ax_iast (pc' := 61) dX4_eaten_60 sh_27 hj60 rfl rfl ?_
            refine ax_iinc (pc' := 64) (v := (x1 + (1 : Int32))) dX4_eaten_61 rfl rfl rfl rfl rfl ?_
            refine ax_goto (tgt := 101) dX4_eaten_64 (by decide) ?_
            refine ax_iinc (pc' := 104) (v := (x2 + (1 : Int32))) dX4_eaten_101 rfl rfl rfl rfl rfl ?_
            refine ax_goto (tgt := 4) dX4_eaten_104 (by decide) ?_
            refine ax_drop 3 rfl ?_
            exact H
          · have H := H.2 hc45
            refine ax_iload_n (pc' := 49) dX4_eaten_48 rfl rfl ?_
            refine ax_goto (tgt := 60) dX4_eaten_49 (by decide) ?_
            obtain ⟨hj60, H⟩ := H
            refine ax_iast (pc' := 61) dX4_eaten_60 sh_27 hj60 rfl rfl ?_
            refine ax_iinc (pc' := 64) (v := (x1 + (1 : Int32))) dX4_eaten_61 rfl rfl rfl rfl rfl ?_
            refine ax_goto (tgt := 101) dX4_eaten_64 (by decide) ?_
            refine ax_iinc (pc' := 104) (v := (x2 + (1 : Int32))) dX4_eaten_101 rfl rfl rfl rfl rfl ?_
            refine ax_goto (tgt := 4) dX4_eaten_104 (by decide) ?_
            refine ax_drop 3 rfl ?_
            exact H
theorem o_X4_eaten {g : ac_G} {τ : Nat → Nat → Int64} (d : Nat)  {Q : Int32 → ac_m → Prop} {s : ac_m} (H : w_X4_eaten  Q s) : ac_M g i_X4_eaten (d + 1) 0 0 [.ref 25] (false, 586, SH, s, τ) (liI τ Q) := by
  refine ac_ofX (by decide +kernel) rfl rfl rfl ?_
  refine ax_iconst (pc' := 1) (v := (0 : Int32)) dX4_eaten_0 (by decide) rfl ?_
  refine ax_istore_n (pc' := 2) dX4_eaten_1 rfl rfl rfl ?_
  refine ax_iconst (pc' := 3) (v := (0 : Int32)) dX4_eaten_2 (by decide) rfl ?_
  refine ax_istore_n (pc' := 4) dX4_eaten_3 rfl rfl rfl ?_
  refine ol_X4_eaten_4 d       H
