theorem o_X5_remove {g : ac_G} {τ : Nat → Nat → Int64} (d : Nat) (a : Nat) (p1 : Int32) (hm : is_Md a) {Q : ac_m → Prop} {s : ac_m} (H : w_X5_remove a p1 Q s) : ac_M g i_X5_remove d 0 0 [.ref a, .int p1] (false, 586, SH, s, τ) (liV τ Q) := by
  refine ac_ofX (by decide +kernel) rfl rfl rfl ?_
  refine ax_iload_n (pc' := 1) dX5_remove_0 rfl rfl ?_
  refine ax_if_lt (pc' := 4) (tgt := 31) dX5_remove_1 (by decide) rfl (fun hc1 => ?_) (fun hc1 => ?_)
  · have H := H.1 hc1
    exact ax_vret dX5_remove_31 rfl rfl rfl ⟨_, rfl, rfl, H⟩
  · have H := H.2 hc1
    refine ax_iload_n (pc' := 5) dX5_remove_4 rfl rfl ?_
    refine ax_bipush (pc' := 7) (v := (13 : Int32)) dX5_remove_5 (by decide) rfl ?_
    refine ax_icmp_ge (pc' := 10) (tgt := 31) dX5_remove_7 (by decide) rfl (fun hc7 => ?_) (fun hc7 => ?_)
    · have H := H.1 hc7
      exact ax_vret dX5_remove_31 rfl rfl rfl ⟨_, rfl, rfl, H⟩
    · have H := H.2 hc7
      refine ax_aload_n (pc' := 11) dX5_remove_10 rfl rfl ?_
      refine ax_getR (pc' := 14) dX5_remove_11 fl_X5_15 (md_0 hm) rfl (md_8 hm) rfl ?_
      refine ax_iload_n (pc' := 15) dX5_remove_14 rfl rfl ?_
      refine ax_iconst (pc' := 16) (v := (0 : Int32)) dX5_remove_15 (by decide) rfl ?_
      obtain ⟨hj16, H⟩ := H
      refine ax_iast (pc' := 17) dX5_remove_16 (md_2 hm) hj16 (md_10 hm) rfl ?_
      refine ax_aload_n (pc' := 18) dX5_remove_17 rfl rfl ?_
      refine ax_getR (pc' := 21) dX5_remove_18 fl_X5_18 (md_0 hm) rfl (md_8 hm) rfl ?_
      refine ax_iload_n (pc' := 22) dX5_remove_21 rfl rfl ?_
      refine ax_iconst (pc' := 23) (v := (-1 : Int32)) dX5_remove_22 (by decide) rfl ?_
      obtain ⟨hj23, H⟩ := H
      refine ax_iast (pc' := 24) dX5_remove_23 (md_3 hm) hj23 (md_11 hm) rfl ?_
      refine ax_aload_n (pc' := 25) dX5_remove_24 rfl rfl ?_
      refine ax_getR (pc' := 28) dX5_remove_25 fl_X5_21 (md_0 hm) rfl (md_8 hm) rfl ?_
      refine ax_iload_n (pc' := 29) dX5_remove_28 rfl rfl ?_
      refine ax_iconst (pc' := 30) (v := (0 : Int32)) dX5_remove_29 (by decide) rfl ?_
      obtain ⟨hj30, H⟩ := H
      refine ax_iast (pc' := 31) dX5_remove_30 (md_4 hm) hj30 (md_12 hm) rfl ?_
      exact ax_vret dX5_remove_31 rfl rfl rfl ⟨_, rfl, rfl, H⟩
theorem o_X5_isThere {g : ac_G} {τ : Nat → Nat → Int64} (d : Nat) (a : Nat) (p1 : Int32) (hm : is_Md a) {Q : Int32 → ac_m → Prop} {s : ac_m} (H : w_X5_isThere a p1 Q s) : ac_M g i_X5_isThere d 0 0 [.ref a, .int p1] (false, 586, SH, s, τ) (liI τ Q) := by
  refine ac_ofX (by decide +kernel) rfl rfl rfl ?_
  refine ax_iload_n (pc' := 1) dX5_isThere_0 rfl rfl ?_
  refine ax_if_lt (pc' := 4) (tgt := 23) dX5_isThere_1 (by decide) rfl (fun hc1 => ?_) (fun hc1 => ?_)
  · have H := H.1 hc1
    refine ax_iconst (pc' := 24) (v := (0 : Int32)) dX5_isThere_23 (by decide) rfl ?_
    exact ax_zret dX5_isThere_24 rfl rfl rfl rfl ⟨_, _, rfl, rfl, H⟩
  · have H := H.2 hc1
    refine ax_iload_n (pc' := 5) dX5_isThere_4 rfl rfl ?_
    refine ax_bipush (pc' := 7) (v := (13 : Int32)) dX5_isThere_5 (by decide) rfl ?_
    refine ax_icmp_ge (pc' := 10) (tgt := 23) dX5_isThere_7 (by decide) rfl (fun hc7 => ?_) (fun hc7 => ?_)
    · have H := H.1 hc7
      refine ax_iconst (pc' := 24) (v := (0 : Int32)) dX5_isThere_23 (by decide) rfl ?_
      exact ax_zret dX5_isThere_24 rfl rfl rfl rfl ⟨_, _, rfl, rfl, H⟩
    · have H := H.2 hc7
      refine ax_aload_n (pc' := 11) dX5_isThere_10 rfl rfl ?_
      refine ax_getR (pc' := 14) dX5_isThere_11 fl_X5_15 (md_0 hm) rfl (md_8 hm) rfl ?_
      refine ax_iload_n (pc' := 15) dX5_isThere_14 rfl rfl ?_
      obtain ⟨hj15, H⟩ := H
      refine ax_iald (pc' := 16) dX5_isThere_15 (md_2 hm) hj15 (md_10 hm) rfl ?_
      refine ax_if_le (pc' := 19) (tgt := 23) dX5_isThere_16 (by decide) rfl (fun hc16 => ?_) (fun hc16 => ?_)
      · have H := H.1 hc16
        refine ax_iconst (pc' := 24) (v := (0 : Int32)) dX5_isThere_23 (by decide) rfl ?_
        exact ax_zret dX5_isThere_24 rfl rfl rfl rfl ⟨_, _, rfl, rfl, H⟩
      · have H := H.2 hc16
        refine ax_iconst (pc' := 20) (v := (1 : Int32)) dX5_isThere_19 (by decide) rfl ?_
        refine ax_goto (tgt := 24) dX5_isThere_20 (by decide) ?_
        exact ax_zret dX5_isThere_24 rfl rfl rfl rfl ⟨_, _, rfl, rfl, H⟩
theorem o_X5_doAgain {g : ac_G} {τ : Nat → Nat → Int64} (d : Nat) (a : Nat) (p1 : Int32) (hm : is_Md a) {Q : Int32 → ac_m → Prop} {s : ac_m} (H : w_X5_doAgain a p1 Q s) : ac_M g i_X5_doAgain (d + 1) 0 0 [.ref a, .int p1] (false, 586, SH, s, τ) (liI τ Q) := by
  refine ac_ofX (by decide +kernel) rfl rfl rfl ?_
  refine ax_aload_n (pc' := 1) dX5_doAgain_0 rfl rfl ?_
  refine ax_getR (pc' := 4) dX5_doAgain_1 fl_X5_43 (md_0 hm) rfl (md_8 hm) rfl ?_
  refine ax_iload_n (pc' := 5) dX5_doAgain_4 rfl rfl ?_
  refine ay_V1 (pc' := 8) (ce' := 0) (sl' := 0) (mc2 := 0) (ms2 := 0) (I2 := i_X3_hasBeast) dX5_doAgain_5 ml_X5_91 sh_3 (by decide) rfl rfl rfl rfl rfl rfl rfl rfl rfl (ac_M.imp (o_X3_hasBeast _ p1 H) ?_)
  rintro _ _ ⟨r5, s5, rfl, rfl, H⟩
  refine ax_if_eq (pc' := 11) (tgt := 19) dX5_doAgain_8 (by decide) rfl (fun hc8 => ?_) (fun hc8 => ?_)
  · have H := H.1 hc8
    refine ax_iconst (pc' := 20) (v := (0 : Int32)) dX5_doAgain_19 (by decide) rfl ?_
    exact ax_zret dX5_doAgain_20 rfl rfl rfl rfl ⟨_, _, rfl, rfl, H⟩
  · have H := H.2 hc8
    refine ax_aload_n (pc' := 12) dX5_doAgain_11 rfl rfl ?_
    refine ax_iload_n (pc' := 13) dX5_doAgain_12 rfl rfl ?_
    refine ay_V1 (pc' := 16) (ce' := 0) (sl' := 0) (mc2 := 0) (ms2 := 0) (I2 := i_X5_isThere) dX5_doAgain_13 ml_X5_74 (md_0 hm) (by decide) (md_8 hm) rfl rfl rfl rfl rfl rfl rfl rfl (ac_M.imp (o_X5_isThere _ a p1 hm H) ?_)
    rintro _ _ ⟨r13, s13, rfl, rfl, H⟩
    refine ax_if_eq (pc' := 19) (tgt := 21) dX5_doAgain_16 (by decide) rfl (fun hc16 => ?_) (fun hc16 => ?_)
    · have H := H.1 hc16
      refine ax_aload_n (pc' := 22) dX5_doAgain_21 rfl rfl ?_
      refine ax_getR (pc' := 25) dX5_doAgain_22 fl_X5_15 (md_0 hm) rfl (md_8 hm) rfl ?_
      refine ax_iload_n (pc' := 26) dX5_doAgain_25 rfl rfl ?_
      refine ax_aload_n (pc' := 27) dX5_doAgain_26 rfl rfl ?_
      refine ax_getR (pc' := 30) dX5_doAgain_27 fl_X5_43 (md_0 hm) rfl (md_8 hm) rfl ?_
      refine ax_getR (pc' := 33) dX5_doAgain_30 fl_X5_94 sh_3 rfl rfl rfl ?_
      refine ax_iload_n (pc' := 34) dX5_doAgain_33 rfl rfl ?_
      obtain ⟨hj34, H⟩ := H
      refine ax_iald (pc' := 35) dX5_doAgain_34 sh_9 hj34 rfl rfl ?_
      obtain ⟨hj35, H⟩ := H
      refine ax_iast (pc' := 36) dX5_doAgain_35 (md_2 hm) hj35 (md_10 hm) rfl ?_
      refine ax_aload_n (pc' := 37) dX5_doAgain_36 rfl rfl ?_
      refine ax_getR (pc' := 40) dX5_doAgain_37 fl_X5_18 (md_0 hm) rfl (md_8 hm) rfl ?_
      refine ax_iload_n (pc' := 41) dX5_doAgain_40 rfl rfl ?_
      refine ax_aload_n (pc' := 42) dX5_doAgain_41 rfl rfl ?_
      refine ax_getR (pc' := 45) dX5_doAgain_42 fl_X5_43 (md_0 hm) rfl (md_8 hm) rfl ?_
      refine ax_getR (pc' := 48) dX5_doAgain_45 fl_X5_95 sh_3 rfl rfl rfl ?_
      refine ax_iload_n (pc' := 49) dX5_doAgain_48 rfl rfl ?_
      obtain ⟨hj49, H⟩ := H
      refine ax_iald (pc' := 50) dX5_doAgain_49 sh_6 hj49 rfl rfl ?_
      obtain ⟨hj50, H⟩ := H
      refine ax_iast (pc' := 51) dX5_doAgain_50 (md_3 hm) hj50 (md_11 hm) rfl ?_
      refine ax_aload_n (pc' := 52) dX5_doAgain_51 rfl rfl ?_
      refine ax_getR (pc' := 55) dX5_doAgain_52 fl_X5_21 (md_0 hm) rfl (md_8 hm) rfl ?_
      refine ax_iload_n (pc' := 56) dX5_doAgain_55 rfl rfl ?_
      refine ax_iconst (pc' := 57) (v := (0 : Int32)) dX5_doAgain_56 (by decide) rfl ?_
      obtain ⟨hj57, H⟩ := H
      refine ax_iast (pc' := 58) dX5_doAgain_57 (md_4 hm) hj57 (md_12 hm) rfl ?_
      refine ax_iconst (pc' := 59) (v := (1 : Int32)) dX5_doAgain_58 (by decide) rfl ?_
      exact ax_zret dX5_doAgain_59 rfl rfl rfl rfl ⟨_, _, rfl, rfl, H⟩
    · have H := H.2 hc16
      refine ax_iconst (pc' := 20) (v := (0 : Int32)) dX5_doAgain_19 (by decide) rfl ?_
      exact ax_zret dX5_doAgain_20 rfl rfl rfl rfl ⟨_, _, rfl, rfl, H⟩
theorem ol_X5_begin_20 {g : ac_G} {τ : Nat → Nat → Int64} (d : Nat)  {Q : ac_m → Prop}    {x1 : Int32} {s : ac_m} (H : l_X5_begin_20  Q    x1 s) : ac_X g i_X5_begin (d + 2) 0 0 (liV τ Q) 0 0 20 [some (.ref 42), some (.int x1)] [] (false, 586, SH, s, τ) := by
  refine H (fun x1 s => ac_X g i_X5_begin (d + 2) 0 0 (liV τ Q) 0 0 20 [some (.ref 42), some (.int x1)] [] (false, 586, SH, s, τ)) ?_
  intro x1 s H
  refine ax_iload_n (pc' := 21) dX5_begin_20 rfl rfl ?_
  refine ax_bipush (pc' := 23) (v := (13 : Int32)) dX5_begin_21 (by decide) rfl ?_
  refine ax_icmp_ge (pc' := 26) (tgt := 43) dX5_begin_23 (by decide) rfl (fun hc23 => ?_) (fun hc23 => ?_)
  · have H := H.1 hc23
    refine ax_aload_n (pc' := 44) dX5_begin_43 rfl rfl ?_
    refine ax_getR (pc' := 47) dX5_begin_44 fl_X5_24 sh_42 rfl rfl rfl ?_
    refine ax_iconst (pc' := 48) (v := (0 : Int32)) dX5_begin_47 (by decide) rfl ?_
    refine ay_S2 (pc' := 51) (ce' := 0) (sl' := 0) (mc2 := 0) (ms2 := 0) (I2 := i_J7_fill_53178) dX5_begin_48 ml_X5_51 rfl rfl rfl rfl rfl rfl rfl rfl (ac_M.imp (o_J7_fill_53178 _ 47 36 (0 : Int32) sh_47 rfl H) ?_)
    rintro _ _ ⟨s48, rfl, rfl, H⟩
    refine ax_aload_n (pc' := 52) dX5_begin_51 rfl rfl ?_
    refine ax_iconst (pc' := 53) (v := (0 : Int32)) dX5_begin_52 (by decide) rfl ?_
    refine ax_putI (pc' := 56) dX5_begin_53 fp_X5_37 sh_42 rfl rfl rfl ?_
    refine ax_aload_n (pc' := 57) dX5_begin_56 rfl rfl ?_
    refine ax_iconst (pc' := 58) (v := (0 : Int32)) dX5_begin_57 (by decide) rfl ?_
    refine ax_putI (pc' := 61) dX5_begin_58 fp_X5_40 sh_42 rfl rfl rfl ?_
    exact ax_vret dX5_begin_61 rfl rfl rfl ⟨_, rfl, rfl, H⟩
  · have H := H.2 hc23
    refine ax_aload_n (pc' := 27) dX5_begin_26 rfl rfl ?_
    refine ax_iload_n (pc' := 28) dX5_begin_27 rfl rfl ?_
    refine ay_V1 (pc' := 31) (ce' := 0) (sl' := 0) (mc2 := 0) (ms2 := 0) (I2 := i_X5_remove) dX5_begin_28 ml_X5_66 sh_42 (by decide) rfl rfl rfl rfl rfl rfl rfl rfl rfl (ac_M.imp (o_X5_remove _ 42 x1 is_now H) ?_)
    rintro _ _ ⟨s28, rfl, rfl, H⟩
    refine ax_aload_n (pc' := 32) dX5_begin_31 rfl rfl ?_
    refine ax_iload_n (pc' := 33) dX5_begin_32 rfl rfl ?_
    refine ay_V1 (pc' := 36) (ce' := 0) (sl' := 0) (mc2 := 0) (ms2 := 0) (I2 := i_X5_doAgain) dX5_begin_33 ml_X5_70 sh_42 (by decide) rfl rfl rfl rfl rfl rfl rfl rfl rfl (ac_M.imp (o_X5_doAgain _ 42 x1 is_now H) ?_)
    rintro _ _ ⟨r33, s33, rfl, rfl, H⟩
    refine ax_pop (pc' := 37) dX5_begin_36 rfl rfl ?_
    refine ax_iinc (pc' := 40) (v := (x1 + (1 : Int32))) dX5_begin_37 rfl rfl rfl rfl rfl ?_
    refine ax_goto (tgt := 20) dX5_begin_40 (by decide) ?_
    exact H
theorem o_X5_begin {g : ac_G} {τ : Nat → Nat → Int64} (d : Nat)  {Q : ac_m → Prop} {s : ac_m} (H : w_X5_begin  Q s) : ac_M g i_X5_begin (d + 2) 0 0 [.ref 42] (false, 586, SH, s, τ) (liV τ Q) := by
  refine ac_ofX (by decide +kernel) rfl rfl rfl ?_
  refine ax_aload_n (pc' := 1) dX5_begin_0 rfl rfl ?_
  refine ax_getR (pc' := 4) dX5_begin_1 fl_X5_43 sh_42 rfl rfl rfl ?_
  refine ax_getR (pc' := 7) dX5_begin_4 fl_X5_57 sh_3 rfl rfl rfl ?_
  refine ax_iconst (pc' := 8) (v := (0 : Int32)) dX5_begin_7 (by decide) rfl ?_
  refine ax_aload_n (pc' := 9) dX5_begin_8 rfl rfl ?_
  refine ax_getR (pc' := 12) dX5_begin_9 fl_X5_9 sh_42 rfl rfl rfl ?_
  refine ax_iconst (pc' := 13) (v := (0 : Int32)) dX5_begin_12 (by decide) rfl ?_
  refine ax_bipush (pc' := 15) (v := (6 : Int32)) dX5_begin_13 (by decide) rfl ?_
  refine ax_copy (pc' := 18) dX5_begin_15 mj_X5_60 mk_copy.1 mk_copy.2.1 mk_copy.2.2 sh_4 sh_43 rfl rfl (by decide) (by decide) (by decide) (by decide) (by decide) rfl rfl ?_
  refine ax_iconst (pc' := 19) (v := (0 : Int32)) dX5_begin_18 (by decide) rfl ?_
  refine ax_istore_n (pc' := 20) dX5_begin_19 rfl rfl rfl ?_
  refine ol_X5_begin_20 d       H
theorem o_X5_copy {g : ac_G} {τ : Nat → Nat → Int64} (d : Nat)  {Q : ac_m → Prop} {s : ac_m} (H : w_X5_copy  Q s) : ac_M g i_X5_copy d 0 0 [.ref 50, .ref 42] (false, 586, SH, s, τ) (liV τ Q) := by
  refine ac_ofX (by decide +kernel) rfl rfl rfl ?_
  refine ax_aload_n (pc' := 1) dX5_copy_0 rfl rfl ?_
  refine ax_getR (pc' := 4) dX5_copy_1 fl_X5_9 sh_42 rfl rfl rfl ?_
  refine ax_iconst (pc' := 5) (v := (0 : Int32)) dX5_copy_4 (by decide) rfl ?_
  refine ax_aload_n (pc' := 6) dX5_copy_5 rfl rfl ?_
  refine ax_getR (pc' := 9) dX5_copy_6 fl_X5_9 sh_50 rfl rfl rfl ?_
  refine ax_iconst (pc' := 10) (v := (0 : Int32)) dX5_copy_9 (by decide) rfl ?_
  refine ax_bipush (pc' := 12) (v := (6 : Int32)) dX5_copy_10 (by decide) rfl ?_
  refine ax_copy (pc' := 15) dX5_copy_12 mj_X5_60 mk_copy.1 mk_copy.2.1 mk_copy.2.2 sh_43 sh_51 rfl rfl (by decide) (by decide) (by decide) (by decide) (by decide) rfl rfl ?_
  refine ax_aload_n (pc' := 16) dX5_copy_15 rfl rfl ?_
  refine ax_getR (pc' := 19) dX5_copy_16 fl_X5_15 sh_42 rfl rfl rfl ?_
  refine ax_iconst (pc' := 20) (v := (0 : Int32)) dX5_copy_19 (by decide) rfl ?_
  refine ax_aload_n (pc' := 21) dX5_copy_20 rfl rfl ?_
  refine ax_getR (pc' := 24) dX5_copy_21 fl_X5_15 sh_50 rfl rfl rfl ?_
  refine ax_iconst (pc' := 25) (v := (0 : Int32)) dX5_copy_24 (by decide) rfl ?_
  refine ax_bipush (pc' := 27) (v := (13 : Int32)) dX5_copy_25 (by decide) rfl ?_
  refine ax_copy (pc' := 30) dX5_copy_27 mj_X5_60 mk_copy.1 mk_copy.2.1 mk_copy.2.2 sh_44 sh_52 rfl rfl (by decide) (by decide) (by decide) (by decide) (by decide) rfl rfl ?_
  refine ax_aload_n (pc' := 31) dX5_copy_30 rfl rfl ?_
  refine ax_getR (pc' := 34) dX5_copy_31 fl_X5_18 sh_42 rfl rfl rfl ?_
  refine ax_iconst (pc' := 35) (v := (0 : Int32)) dX5_copy_34 (by decide) rfl ?_
  refine ax_aload_n (pc' := 36) dX5_copy_35 rfl rfl ?_
  refine ax_getR (pc' := 39) dX5_copy_36 fl_X5_18 sh_50 rfl rfl rfl ?_
  refine ax_iconst (pc' := 40) (v := (0 : Int32)) dX5_copy_39 (by decide) rfl ?_
  refine ax_bipush (pc' := 42) (v := (13 : Int32)) dX5_copy_40 (by decide) rfl ?_
  refine ax_copy (pc' := 45) dX5_copy_42 mj_X5_60 mk_copy.1 mk_copy.2.1 mk_copy.2.2 sh_45 sh_53 rfl rfl (by decide) (by decide) (by decide) (by decide) (by decide) rfl rfl ?_
  refine ax_aload_n (pc' := 46) dX5_copy_45 rfl rfl ?_
  refine ax_getR (pc' := 49) dX5_copy_46 fl_X5_21 sh_42 rfl rfl rfl ?_
  refine ax_iconst (pc' := 50) (v := (0 : Int32)) dX5_copy_49 (by decide) rfl ?_
  refine ax_aload_n (pc' := 51) dX5_copy_50 rfl rfl ?_
  refine ax_getR (pc' := 54) dX5_copy_51 fl_X5_21 sh_50 rfl rfl rfl ?_
  refine ax_iconst (pc' := 55) (v := (0 : Int32)) dX5_copy_54 (by decide) rfl ?_
  refine ax_bipush (pc' := 57) (v := (13 : Int32)) dX5_copy_55 (by decide) rfl ?_
  refine ax_copy (pc' := 60) dX5_copy_57 mj_X5_60 mk_copy.1 mk_copy.2.1 mk_copy.2.2 sh_46 sh_54 rfl rfl (by decide) (by decide) (by decide) (by decide) (by decide) rfl rfl ?_
  refine ax_aload_n (pc' := 61) dX5_copy_60 rfl rfl ?_
  refine ax_getR (pc' := 64) dX5_copy_61 fl_X5_24 sh_42 rfl rfl rfl ?_
  refine ax_iconst (pc' := 65) (v := (0 : Int32)) dX5_copy_64 (by decide) rfl ?_
  refine ax_aload_n (pc' := 66) dX5_copy_65 rfl rfl ?_
  refine ax_getR (pc' := 69) dX5_copy_66 fl_X5_24 sh_50 rfl rfl rfl ?_
  refine ax_iconst (pc' := 70) (v := (0 : Int32)) dX5_copy_69 (by decide) rfl ?_
  refine ax_bipush (pc' := 72) (v := (36 : Int32)) dX5_copy_70 (by decide) rfl ?_
  refine ax_copy (pc' := 75) dX5_copy_72 mj_X5_60 mk_copy.1 mk_copy.2.1 mk_copy.2.2 sh_47 sh_55 rfl rfl (by decide) (by decide) (by decide) (by decide) (by decide) rfl rfl ?_
  refine ax_aload_n (pc' := 76) dX5_copy_75 rfl rfl ?_
  refine ax_aload_n (pc' := 77) dX5_copy_76 rfl rfl ?_
  refine ax_getI (pc' := 80) dX5_copy_77 fl_X5_37 sh_42 rfl rfl rfl ?_
  refine ax_putI (pc' := 83) dX5_copy_80 fp_X5_37 sh_50 rfl rfl rfl ?_
  refine ax_aload_n (pc' := 84) dX5_copy_83 rfl rfl ?_
  refine ax_aload_n (pc' := 85) dX5_copy_84 rfl rfl ?_
  refine ax_getI (pc' := 88) dX5_copy_85 fl_X5_40 sh_42 rfl rfl rfl ?_
  refine ax_putI (pc' := 91) dX5_copy_88 fp_X5_40 sh_50 rfl rfl rfl ?_
  exact ax_vret dX5_copy_91 rfl rfl rfl ⟨_, rfl, rfl, H⟩
theorem o_X5_store {g : ac_G} {τ : Nat → Nat → Int64} (d : Nat) (a : Nat) (r1 : Nat) (n1 : Nat) (p2 : Int32) (hm : is_Md a) (hr1 : SH r1 = .inl (0, n1, 0)) (hn1 : Nat.blt r1 586 = true) {Q : ac_m → Prop} {s : ac_m} (H : w_X5_store a r1 n1 p2 Q s) : ac_M g i_X5_store d 0 0 [.ref a, .ref r1, .int p2] (false, 586, SH, s, τ) (liV τ Q) := by
  refine ac_ofX (by decide +kernel) rfl rfl rfl ?_
  refine ax_iload_n (pc' := 1) dX5_store_0 rfl rfl ?_
  refine ax_if_lt (pc' := 4) (tgt := 13) dX5_store_1 (by decide) rfl (fun hc1 => ?_) (fun hc1 => ?_)
  · have H := H.1 hc1
    exact ax_vret dX5_store_13 rfl rfl rfl ⟨_, rfl, rfl, H⟩
  · have H := H.2 hc1
    refine ax_iload_n (pc' := 5) dX5_store_4 rfl rfl ?_
    refine ax_aload_n (pc' := 6) dX5_store_5 rfl rfl ?_
    refine ax_alen (pc' := 7) (v := (Int32.ofNat n1)) dX5_store_6 hr1 rfl rfl hn1 rfl ?_
    refine ax_bipush (pc' := 9) (v := (83 : Int32)) dX5_store_7 (by decide) rfl ?_
    refine ax_isub (pc' := 10) dX5_store_9 rfl ?_
    refine ax_icmp_le (pc' := 13) (tgt := 14) dX5_store_10 (by decide) rfl (fun hc10 => ?_) (fun hc10 => ?_)
    · have H := H.1 hc10
      refine ax_aload_n (pc' := 15) dX5_store_14 rfl rfl ?_
      refine ax_getR (pc' := 18) dX5_store_15 fl_X5_9 (md_0 hm) rfl (md_8 hm) rfl ?_
      refine ax_iconst (pc' := 19) (v := (0 : Int32)) dX5_store_18 (by decide) rfl ?_
      refine ax_aload_n (pc' := 20) dX5_store_19 rfl rfl ?_
      refine ax_iload_n (pc' := 21) dX5_store_20 rfl rfl ?_
      refine ax_bipush (pc' := 23) (v := (6 : Int32)) dX5_store_21 (by decide) rfl ?_
      obtain ⟨⟨ha1, ha2, ha3, ha4, ha5⟩, H⟩ := H
      refine ax_copy (pc' := 26) dX5_store_23 mj_X5_60 mk_copy.1 mk_copy.2.1 mk_copy.2.2 (md_1 hm) hr1 (md_9 hm) hn1 ha1 ha2 ha3 ha4 ha5 rfl rfl ?_
      refine ax_aload_n (pc' := 27) dX5_store_26 rfl rfl ?_
      refine ax_getR (pc' := 30) dX5_store_27 fl_X5_15 (md_0 hm) rfl (md_8 hm) rfl ?_
      refine ax_iconst (pc' := 31) (v := (0 : Int32)) dX5_store_30 (by decide) rfl ?_
      refine ax_aload_n (pc' := 32) dX5_store_31 rfl rfl ?_
      refine ax_iload_n (pc' := 33) dX5_store_32 rfl rfl ?_
      refine ax_bipush (pc' := 35) (v := (6 : Int32)) dX5_store_33 (by decide) rfl ?_
      refine ax_iadd (pc' := 36) dX5_store_35 rfl ?_
      refine ax_bipush (pc' := 38) (v := (13 : Int32)) dX5_store_36 (by decide) rfl ?_
      obtain ⟨⟨ha1, ha2, ha3, ha4, ha5⟩, H⟩ := H
      refine ax_copy (pc' := 41) dX5_store_38 mj_X5_60 mk_copy.1 mk_copy.2.1 mk_copy.2.2 (md_2 hm) hr1 (md_10 hm) hn1 ha1 ha2 ha3 ha4 ha5 rfl rfl ?_
      refine ax_aload_n (pc' := 42) dX5_store_41 rfl rfl ?_
      refine ax_getR (pc' := 45) dX5_store_42 fl_X5_18 (md_0 hm) rfl (md_8 hm) rfl ?_
      refine ax_iconst (pc' := 46) (v := (0 : Int32)) dX5_store_45 (by decide) rfl ?_
      refine ax_aload_n (pc' := 47) dX5_store_46 rfl rfl ?_
      refine ax_iload_n (pc' := 48) dX5_store_47 rfl rfl ?_
      refine ax_bipush (pc' := 50) (v := (6 : Int32)) dX5_store_48 (by decide) rfl ?_
      refine ax_iadd (pc' := 51) dX5_store_50 rfl ?_
      refine ax_bipush (pc' := 53) (v := (13 : Int32)) dX5_store_51 (by decide) rfl ?_
      refine ax_iadd (pc' := 54) dX5_store_53 rfl ?_
      refine ax_bipush (pc' := 56) (v := (13 : Int32)) dX5_store_54 (by decide) rfl ?_
      obtain ⟨⟨ha1, ha2, ha3, ha4, ha5⟩, H⟩ := H
      refine ax_copy (pc' := 59) dX5_store_56 mj_X5_60 mk_copy.1 mk_copy.2.1 mk_copy.2.2 (md_3 hm) hr1 (md_11 hm) hn1 ha1 ha2 ha3 ha4 ha5 rfl rfl ?_
      refine ax_aload_n (pc' := 60) dX5_store_59 rfl rfl ?_
      refine ax_getR (pc' := 63) dX5_store_60 fl_X5_21 (md_0 hm) rfl (md_8 hm) rfl ?_
      refine ax_iconst (pc' := 64) (v := (0 : Int32)) dX5_store_63 (by decide) rfl ?_
      refine ax_aload_n (pc' := 65) dX5_store_64 rfl rfl ?_
      refine ax_iload_n (pc' := 66) dX5_store_65 rfl rfl ?_
      refine ax_bipush (pc' := 68) (v := (6 : Int32)) dX5_store_66 (by decide) rfl ?_
      refine ax_iadd (pc' := 69) dX5_store_68 rfl ?_
      refine ax_bipush (pc' := 71) (v := (26 : Int32)) dX5_store_69 (by decide) rfl ?_
      refine ax_iadd (pc' := 72) dX5_store_71 rfl ?_
      refine ax_bipush (pc' := 74) (v := (13 : Int32)) dX5_store_72 (by decide) rfl ?_
      obtain ⟨⟨ha1, ha2, ha3, ha4, ha5⟩, H⟩ := H
      refine ax_copy (pc' := 77) dX5_store_74 mj_X5_60 mk_copy.1 mk_copy.2.1 mk_copy.2.2 (md_4 hm) hr1 (md_12 hm) hn1 ha1 ha2 ha3 ha4 ha5 rfl rfl ?_
      refine ax_aload_n (pc' := 78) dX5_store_77 rfl rfl ?_
      refine ax_getR (pc' := 81) dX5_store_78 fl_X5_24 (md_0 hm) rfl (md_8 hm) rfl ?_
      refine ax_iconst (pc' := 82) (v := (0 : Int32)) dX5_store_81 (by decide) rfl ?_
      refine ax_aload_n (pc' := 83) dX5_store_82 rfl rfl ?_
      refine ax_iload_n (pc' := 84) dX5_store_83 rfl rfl ?_
      refine ax_bipush (pc' := 86) (v := (6 : Int32)) dX5_store_84 (by decide) rfl ?_
      refine ax_iadd (pc' := 87) dX5_store_86 rfl ?_
      refine ax_bipush (pc' := 89) (v := (39 : Int32)) dX5_store_87 (by decide) rfl ?_
      refine ax_iadd (pc' := 90) dX5_store_89 rfl ?_
      refine ax_bipush (pc' := 92) (v := (36 : Int32)) dX5_store_90 (by decide) rfl ?_
      obtain ⟨⟨ha1, ha2, ha3, ha4, ha5⟩, H⟩ := H
      refine ax_copy (pc' := 95) dX5_store_92 mj_X5_60 mk_copy.1 mk_copy.2.1 mk_copy.2.2 (md_5 hm) hr1 (md_13 hm) hn1 ha1 ha2 ha3 ha4 ha5 rfl rfl ?_
      refine ax_aload_n (pc' := 96) dX5_store_95 rfl rfl ?_
      refine ax_iload_n (pc' := 97) dX5_store_96 rfl rfl ?_
      refine ax_bipush (pc' := 99) (v := (83 : Int32)) dX5_store_97 (by decide) rfl ?_
      refine ax_iadd (pc' := 100) dX5_store_99 rfl ?_
      refine ax_iconst (pc' := 101) (v := (2 : Int32)) dX5_store_100 (by decide) rfl ?_
      refine ax_isub (pc' := 102) dX5_store_101 rfl ?_
      refine ax_aload_n (pc' := 103) dX5_store_102 rfl rfl ?_
      refine ax_getI (pc' := 106) dX5_store_103 fl_X5_37 (md_0 hm) rfl (md_8 hm) rfl ?_
      obtain ⟨hj106, H⟩ := H
      refine ax_iast (pc' := 107) dX5_store_106 hr1 hj106 hn1 rfl ?_
      refine ax_aload_n (pc' := 108) dX5_store_107 rfl rfl ?_
      refine ax_iload_n (pc' := 109) dX5_store_108 rfl rfl ?_
      refine ax_bipush (pc' := 111) (v := (83 : Int32)) dX5_store_109 (by decide) rfl ?_
      refine ax_iadd (pc' := 112) dX5_store_111 rfl ?_
      refine ax_iconst (pc' := 113) (v := (1 : Int32)) dX5_store_112 (by decide) rfl ?_
      refine ax_isub (pc' := 114) dX5_store_113 rfl ?_
      refine ax_aload_n (pc' := 115) dX5_store_114 rfl rfl ?_
      refine ax_getI (pc' := 118) dX5_store_115 fl_X5_40 (md_0 hm) rfl (md_8 hm) rfl ?_
      obtain ⟨hj118, H⟩ := H
      refine ax_iast (pc' := 119) dX5_store_118 hr1 hj118 hn1 rfl ?_
      exact ax_vret dX5_store_119 rfl rfl rfl ⟨_, rfl, rfl, H⟩
    · have H := H.2 hc10
      exact ax_vret dX5_store_13 rfl rfl rfl ⟨_, rfl, rfl, H⟩
theorem o_X5_load {g : ac_G} {τ : Nat → Nat → Int64} (d : Nat) (a : Nat) (r1 : Nat) (n1 : Nat) (p2 : Int32) (hm : is_Md a) (hr1 : SH r1 = .inl (0, n1, 0)) (hn1 : Nat.blt r1 586 = true) {Q : ac_m → Prop} {s : ac_m} (H : w_X5_load a r1 n1 p2 Q s) : ac_M g i_X5_load d 0 0 [.ref a, .ref r1, .int p2] (false, 586, SH, s, τ) (liV τ Q) := by
  refine ac_ofX (by decide +kernel) rfl rfl rfl ?_
  refine ax_iload_n (pc' := 1) dX5_load_0 rfl rfl ?_
  refine ax_if_lt (pc' := 4) (tgt := 13) dX5_load_1 (by decide) rfl (fun hc1 => ?_) (fun hc1 => ?_)
  · have H := H.1 hc1
    exact ax_vret dX5_load_13 rfl rfl rfl ⟨_, rfl, rfl, H⟩
  · have H := H.2 hc1
    refine ax_iload_n (pc' := 5) dX5_load_4 rfl rfl ?_
    refine ax_aload_n (pc' := 6) dX5_load_5 rfl rfl ?_
    refine ax_alen (pc' := 7) (v := (Int32.ofNat n1)) dX5_load_6 hr1 rfl rfl hn1 rfl ?_
    refine ax_bipush (pc' := 9) (v := (83 : Int32)) dX5_load_7 (by decide) rfl ?_
    refine ax_isub (pc' := 10) dX5_load_9 rfl ?_
    refine ax_icmp_le (pc' := 13) (tgt := 14) dX5_load_10 (by decide) rfl (fun hc10 => ?_) (fun hc10 => ?_)
    · have H := H.1 hc10
      refine ax_aload_n (pc' := 15) dX5_load_14 rfl rfl ?_
      refine ax_iload_n (pc' := 16) dX5_load_15 rfl rfl ?_
      refine ax_aload_n (pc' := 17) dX5_load_16 rfl rfl ?_
      refine ax_getR (pc' := 20) dX5_load_17 fl_X5_9 (md_0 hm) rfl (md_8 hm) rfl ?_
      refine ax_iconst (pc' := 21) (v := (0 : Int32)) dX5_load_20 (by decide) rfl ?_
      refine ax_bipush (pc' := 23) (v := (6 : Int32)) dX5_load_21 (by decide) rfl ?_
      obtain ⟨⟨ha1, ha2, ha3, ha4, ha5⟩, H⟩ := H
      refine ax_copy (pc' := 26) dX5_load_23 mj_X5_60 mk_copy.1 mk_copy.2.1 mk_copy.2.2 hr1 (md_1 hm) hn1 (md_9 hm) ha1 ha2 ha3 ha4 ha5 rfl rfl ?_
      refine ax_aload_n (pc' := 27) dX5_load_26 rfl rfl ?_
      refine ax_iload_n (pc' := 28) dX5_load_27 rfl rfl ?_
      refine ax_bipush (pc' := 30) (v := (6 : Int32)) dX5_load_28 (by decide) rfl ?_
      refine ax_iadd (pc' := 31) dX5_load_30 rfl ?_
      refine ax_aload_n (pc' := 32) dX5_load_31 rfl rfl ?_
      refine ax_getR (pc' := 35) dX5_load_32 fl_X5_15 (md_0 hm) rfl (md_8 hm) rfl ?_
      refine ax_iconst (pc' := 36) (v := (0 : Int32)) dX5_load_35 (by decide) rfl ?_
      refine ax_bipush (pc' := 38) (v := (13 : Int32)) dX5_load_36 (by decide) rfl ?_
      obtain ⟨⟨ha1, ha2, ha3, ha4, ha5⟩, H⟩ := H
      refine ax_copy (pc' := 41) dX5_load_38 mj_X5_60 mk_copy.1 mk_copy.2.1 mk_copy.2.2 hr1 (md_2 hm) hn1 (md_10 hm) ha1 ha2 ha3 ha4 ha5 rfl rfl ?_
      refine ax_aload_n (pc' := 42) dX5_load_41 rfl rfl ?_
      refine ax_iload_n (pc' := 43) dX5_load_42 rfl rfl ?_
      refine ax_bipush (pc' := 45) (v := (6 : Int32)) dX5_load_43 (by decide) rfl ?_
      refine ax_iadd (pc' := 46) dX5_load_45 rfl ?_
      refine ax_bipush (pc' := 48) (v := (13 : Int32)) dX5_load_46 (by decide) rfl ?_
      refine ax_iadd (pc' := 49) dX5_load_48 rfl ?_
      refine ax_aload_n (pc' := 50) dX5_load_49 rfl rfl ?_
      refine ax_getR (pc' := 53) dX5_load_50 fl_X5_18 (md_0 hm) rfl (md_8 hm) rfl ?_
      refine ax_iconst (pc' := 54) (v := (0 : Int32)) dX5_load_53 (by decide) rfl ?_
      refine ax_bipush (pc' := 56) (v := (13 : Int32)) dX5_load_54 (by decide) rfl ?_
      obtain ⟨⟨ha1, ha2, ha3, ha4, ha5⟩, H⟩ := H
      refine ax_copy (pc' := 59) dX5_load_56 mj_X5_60 mk_copy.1 mk_copy.2.1 mk_copy.2.2 hr1 (md_3 hm) hn1 (md_11 hm) ha1 ha2 ha3 ha4 ha5 rfl rfl ?_
      refine ax_aload_n (pc' := 60) dX5_load_59 rfl rfl ?_
      refine ax_iload_n (pc' := 61) dX5_load_60 rfl rfl ?_
      refine ax_bipush (pc' := 63) (v := (6 : Int32)) dX5_load_61 (by decide) rfl ?_
      refine ax_iadd (pc' := 64) dX5_load_63 rfl ?_
      refine ax_bipush (pc' := 66) (v := (26 : Int32)) dX5_load_64 (by decide) rfl ?_
      refine ax_iadd (pc' := 67) dX5_load_66 rfl ?_
      refine ax_aload_n (pc' := 68) dX5_load_67 rfl rfl ?_
      refine ax_getR (pc' := 71) dX5_load_68 fl_X5_21 (md_0 hm) rfl (md_8 hm) rfl ?_
      refine ax_iconst (pc' := 72) (v := (0 : Int32)) dX5_load_71 (by decide) rfl ?_
      refine ax_bipush (pc' := 74) (v := (13 : Int32)) dX5_load_72 (by decide) rfl ?_
      obtain ⟨⟨ha1, ha2, ha3, ha4, ha5⟩, H⟩ := H
      refine ax_copy (pc' := 77) dX5_load_74 mj_X5_60 mk_copy.1 mk_copy.2.1 mk_copy.2.2 hr1 (md_4 hm) hn1 (md_12 hm) ha1 ha2 ha3 ha4 ha5 rfl rfl ?_
      refine ax_aload_n (pc' := 78) dX5_load_77 rfl rfl ?_
      refine ax_iload_n (pc' := 79) dX5_load_78 rfl rfl ?_
      refine ax_bipush (pc' := 81) (v := (6 : Int32)) dX5_load_79 (by decide) rfl ?_
      refine ax_iadd (pc' := 82) dX5_load_81 rfl ?_
      refine ax_bipush (pc' := 84) (v := (39 : Int32)) dX5_load_82 (by decide) rfl ?_
      refine ax_iadd (pc' := 85) dX5_load_84 rfl ?_
      refine ax_aload_n (pc' := 86) dX5_load_85 rfl rfl ?_
      refine ax_getR (pc' := 89) dX5_load_86 fl_X5_24 (md_0 hm) rfl (md_8 hm) rfl ?_
      refine ax_iconst (pc' := 90) (v := (0 : Int32)) dX5_load_89 (by decide) rfl ?_
      refine ax_bipush (pc' := 92) (v := (36 : Int32)) dX5_load_90 (by decide) rfl ?_
      obtain ⟨⟨ha1, ha2, ha3, ha4, ha5⟩, H⟩ := H
      refine ax_copy (pc' := 95) dX5_load_92 mj_X5_60 mk_copy.1 mk_copy.2.1 mk_copy.2.2 hr1 (md_5 hm) hn1 (md_13 hm) ha1 ha2 ha3 ha4 ha5 rfl rfl ?_
      refine ax_aload_n (pc' := 96) dX5_load_95 rfl rfl ?_
      refine ax_aload_n (pc' := 97) dX5_load_96 rfl rfl ?_
      refine ax_iload_n (pc' := 98) dX5_load_97 rfl rfl ?_
      refine ax_bipush (pc' := 100) (v := (83 : Int32)) dX5_load_98 (by decide) rfl ?_
      refine ax_iadd (pc' := 101) dX5_load_100 rfl ?_
      refine ax_iconst (pc' := 102) (v := (2 : Int32)) dX5_load_101 (by decide) rfl ?_
      refine ax_isub (pc' := 103) dX5_load_102 rfl ?_
      obtain ⟨hj103, H⟩ := H
      refine ax_iald (pc' := 104) dX5_load_103 hr1 hj103 hn1 rfl ?_
      refine ax_putI (pc' := 107) dX5_load_104 fp_X5_37 (md_0 hm) rfl (md_8 hm) rfl ?_
      refine ax_aload_n (pc' := 108) dX5_load_107 rfl rfl ?_
      refine ax_aload_n (pc' := 109) dX5_load_108 rfl rfl ?_
      refine ax_iload_n (pc' := 110) dX5_load_109 rfl rfl ?_
      refine ax_bipush (pc' := 112) (v := (83 : Int32)) dX5_load_110 (by decide) rfl ?_
      refine ax_iadd (pc' := 113) dX5_load_112 rfl ?_
      refine ax_iconst (pc' := 114) (v := (1 : Int32)) dX5_load_113 (by decide) rfl ?_
      refine ax_isub (pc' := 115) dX5_load_114 rfl ?_
      obtain ⟨hj115, H⟩ := H
      refine ax_iald (pc' := 116) dX5_load_115 hr1 hj115 hn1 rfl ?_
      refine ax_putI (pc' := 119) dX5_load_116 fp_X5_40 (md_0 hm) rfl (md_8 hm) rfl ?_
      exact ax_vret dX5_load_119 rfl rfl rfl ⟨_, rfl, rfl, H⟩
    · have H := H.2 hc10
      exact ax_vret dX5_load_13 rfl rfl rfl ⟨_, rfl, rfl, H⟩
theorem o_X5_askBack {g : ac_G} {τ : Nat → Nat → Int64} (d : Nat) (a : Nat) (p1 : Int32) (hm : is_Md a) {Q : Int32 → ac_m → Prop} {s : ac_m} (H : w_X5_askBack a p1 Q s) : ac_M g i_X5_askBack (d + 1) 0 0 [.ref a, .int p1] (false, 586, SH, s, τ) (liI τ Q) := by
  refine ac_ofX (by decide +kernel) rfl rfl rfl ?_
  refine ax_aload_n (pc' := 1) dX5_askBack_0 rfl rfl ?_
  refine ax_iload_n (pc' := 2) dX5_askBack_1 rfl rfl ?_
  refine ay_V1 (pc' := 5) (ce' := 0) (sl' := 0) (mc2 := 0) (ms2 := 0) (I2 := i_X5_isThere) dX5_askBack_2 ml_X5_74 (md_0 hm) (by decide) (md_8 hm) rfl rfl rfl rfl rfl rfl rfl rfl (ac_M.imp (o_X5_isThere _ a p1 hm H) ?_)
  rintro _ _ ⟨r2, s2, rfl, rfl, H⟩
  refine ax_if_ne (pc' := 8) (tgt := 10) dX5_askBack_5 (by decide) rfl (fun hc5 => ?_) (fun hc5 => ?_)
  · have H := H.1 hc5
    refine ax_aload_n (pc' := 11) dX5_askBack_10 rfl rfl ?_
    refine ax_iload_n (pc' := 12) dX5_askBack_11 rfl rfl ?_
    refine ay_V1 (pc' := 15) (ce' := 0) (sl' := 0) (mc2 := 0) (ms2 := 0) (I2 := i_X5_remove) dX5_askBack_12 ml_X5_66 (md_0 hm) (by decide) (md_8 hm) rfl rfl rfl rfl rfl rfl rfl rfl (ac_M.imp (o_X5_remove _ a p1 hm H) ?_)
    rintro _ _ ⟨s12, rfl, rfl, H⟩
    refine ax_iconst (pc' := 16) (v := (1 : Int32)) dX5_askBack_15 (by decide) rfl ?_
    exact ax_zret dX5_askBack_16 rfl rfl rfl rfl ⟨_, _, rfl, rfl, H⟩
  · have H := H.2 hc5
    refine ax_iconst (pc' := 9) (v := (0 : Int32)) dX5_askBack_8 (by decide) rfl ?_
    exact ax_zret dX5_askBack_9 rfl rfl rfl rfl ⟨_, _, rfl, rfl, H⟩
theorem o_X5_driveOver {g : ac_G} {τ : Nat → Nat → Int64} (d : Nat) (a : Nat) (p1 : Int32) (p2 : Int32) (hm : is_Md a) {Q : Int32 → ac_m → Prop} {s : ac_m} (H : w_X5_driveOver a p1 p2 Q s) : ac_M g i_X5_driveOver (d + 1) 0 0 [.ref a, .int p1, .int p2] (false, 586, SH, s, τ) (liI τ Q) := by
  refine ac_ofX (by decide +kernel) rfl rfl rfl ?_
  refine ax_aload_n (pc' := 1) dX5_driveOver_0 rfl rfl ?_
  refine ax_iload_n (pc' := 2) dX5_driveOver_1 rfl rfl ?_
  refine ay_V1 (pc' := 5) (ce' := 0) (sl' := 0) (mc2 := 0) (ms2 := 0) (I2 := i_X5_isThere) dX5_driveOver_2 ml_X5_74 (md_0 hm) (by decide) (md_8 hm) rfl rfl rfl rfl rfl rfl rfl rfl (ac_M.imp (o_X5_isThere _ a p1 hm H) ?_)
  rintro _ _ ⟨r2, s2, rfl, rfl, H⟩
  refine ax_if_eq (pc' := 8) (tgt := 29) dX5_driveOver_5 (by decide) rfl (fun hc5 => ?_) (fun hc5 => ?_)
  · have H := H.1 hc5
    refine ax_iconst (pc' := 30) (v := (0 : Int32)) dX5_driveOver_29 (by decide) rfl ?_
    exact ax_zret dX5_driveOver_30 rfl rfl rfl rfl ⟨_, _, rfl, rfl, H⟩
  · have H := H.2 hc5
    refine ax_aload_n (pc' := 9) dX5_driveOver_8 rfl rfl ?_
    refine ax_getR (pc' := 12) dX5_driveOver_9 fl_X5_43 (md_0 hm) rfl (md_8 hm) rfl ?_
    refine ax_iload_n (pc' := 13) dX5_driveOver_12 rfl rfl ?_
    refine ay_V1 (pc' := 16) (ce' := 0) (sl' := 0) (mc2 := 0) (ms2 := 0) (I2 := i_X3_hasFolk) dX5_driveOver_13 ml_X5_77 sh_3 (by decide) rfl rfl rfl rfl rfl rfl rfl rfl rfl (ac_M.imp (o_X3_hasFolk _ p2 H) ?_)
    rintro _ _ ⟨r13, s13, rfl, rfl, H⟩
    refine ax_if_eq (pc' := 19) (tgt := 29) dX5_driveOver_16 (by decide) rfl (fun hc16 => ?_) (fun hc16 => ?_)
    · have H := H.1 hc16
      refine ax_iconst (pc' := 30) (v := (0 : Int32)) dX5_driveOver_29 (by decide) rfl ?_
      exact ax_zret dX5_driveOver_30 rfl rfl rfl rfl ⟨_, _, rfl, rfl, H⟩
    · have H := H.2 hc16
      refine ax_aload_n (pc' := 20) dX5_driveOver_19 rfl rfl ?_
      refine ax_getR (pc' := 23) dX5_driveOver_20 fl_X5_18 (md_0 hm) rfl (md_8 hm) rfl ?_
      refine ax_iload_n (pc' := 24) dX5_driveOver_23 rfl rfl ?_
      obtain ⟨hj24, H⟩ := H
      refine ax_iald (pc' := 25) dX5_driveOver_24 (md_3 hm) hj24 (md_11 hm) rfl ?_
      refine ax_iload_n (pc' := 26) dX5_driveOver_25 rfl rfl ?_
      refine ax_icmp_ne (pc' := 29) (tgt := 31) dX5_driveOver_26 (by decide) rfl (fun hc26 => ?_) (fun hc26 => ?_)
      · have H := H.1 hc26
        refine ax_aload_n (pc' := 32) dX5_driveOver_31 rfl rfl ?_
        refine ax_getR (pc' := 35) dX5_driveOver_32 fl_X5_18 (md_0 hm) rfl (md_8 hm) rfl ?_
        refine ax_iload_n (pc' := 36) dX5_driveOver_35 rfl rfl ?_
        refine ax_iload_n (pc' := 37) dX5_driveOver_36 rfl rfl ?_
        obtain ⟨hj37, H⟩ := H
        refine ax_iast (pc' := 38) dX5_driveOver_37 (md_3 hm) hj37 (md_11 hm) rfl ?_
        refine ax_iconst (pc' := 39) (v := (1 : Int32)) dX5_driveOver_38 (by decide) rfl ?_
        exact ax_zret dX5_driveOver_39 rfl rfl rfl rfl ⟨_, _, rfl, rfl, H⟩
      · have H := H.2 hc26
        refine ax_iconst (pc' := 30) (v := (0 : Int32)) dX5_driveOver_29 (by decide) rfl ?_
        exact ax_zret dX5_driveOver_30 rfl rfl rfl rfl ⟨_, _, rfl, rfl, H⟩
theorem o_X5_coolness {g : ac_G} {τ : Nat → Nat → Int64} (d : Nat) (a : Nat) (p1 : Int32) (p2 : Int32) (hm : is_Md a) {Q : Int32 → ac_m → Prop} {s : ac_m} (H : w_X5_coolness a p1 p2 Q s) : ac_M g i_X5_coolness d 0 0 [.ref a, .int p1, .int p2] (false, 586, SH, s, τ) (liI τ Q) := by
  refine ac_ofX (by decide +kernel) rfl rfl rfl ?_
  refine ax_iload_n (pc' := 1) dX5_coolness_0 rfl rfl ?_
  refine ax_if_lt (pc' := 4) (tgt := 20) dX5_coolness_1 (by decide) rfl (fun hc1 => ?_) (fun hc1 => ?_)
  · have H := H.1 hc1
    refine ax_iconst (pc' := 21) (v := (0 : Int32)) dX5_coolness_20 (by decide) rfl ?_
    exact ax_iret dX5_coolness_21 rfl rfl rfl ⟨_, _, rfl, rfl, H⟩
  · have H := H.2 hc1
    refine ax_iload_n (pc' := 5) dX5_coolness_4 rfl rfl ?_
    refine ax_bipush (pc' := 7) (v := (6 : Int32)) dX5_coolness_5 (by decide) rfl ?_
    refine ax_icmp_ge (pc' := 10) (tgt := 20) dX5_coolness_7 (by decide) rfl (fun hc7 => ?_) (fun hc7 => ?_)
    · have H := H.1 hc7
      refine ax_iconst (pc' := 21) (v := (0 : Int32)) dX5_coolness_20 (by decide) rfl ?_
      exact ax_iret dX5_coolness_21 rfl rfl rfl ⟨_, _, rfl, rfl, H⟩
    · have H := H.2 hc7
      refine ax_iload_n (pc' := 11) dX5_coolness_10 rfl rfl ?_
      refine ax_if_lt (pc' := 14) (tgt := 20) dX5_coolness_11 (by decide) rfl (fun hc11 => ?_) (fun hc11 => ?_)
      · have H := H.1 hc11
        refine ax_iconst (pc' := 21) (v := (0 : Int32)) dX5_coolness_20 (by decide) rfl ?_
        exact ax_iret dX5_coolness_21 rfl rfl rfl ⟨_, _, rfl, rfl, H⟩
      · have H := H.2 hc11
        refine ax_iload_n (pc' := 15) dX5_coolness_14 rfl rfl ?_
        refine ax_bipush (pc' := 17) (v := (6 : Int32)) dX5_coolness_15 (by decide) rfl ?_
        refine ax_icmp_lt (pc' := 20) (tgt := 22) dX5_coolness_17 (by decide) rfl (fun hc17 => ?_) (fun hc17 => ?_)
        · have H := H.1 hc17
          refine ax_aload_n (pc' := 23) dX5_coolness_22 rfl rfl ?_
          refine ax_getR (pc' := 26) dX5_coolness_23 fl_X5_24 (md_0 hm) rfl (md_8 hm) rfl ?_
          refine ax_iload_n (pc' := 27) dX5_coolness_26 rfl rfl ?_
          refine ax_bipush (pc' := 29) (v := (6 : Int32)) dX5_coolness_27 (by decide) rfl ?_
          refine ax_imul (pc' := 30) dX5_coolness_29 rfl ?_
          refine ax_iload_n (pc' := 31) dX5_coolness_30 rfl rfl ?_
          refine ax_iadd (pc' := 32) dX5_coolness_31 rfl ?_
          obtain ⟨hj32, H⟩ := H
          refine ax_iald (pc' := 33) dX5_coolness_32 (md_5 hm) hj32 (md_13 hm) rfl ?_
          exact ax_iret dX5_coolness_33 rfl rfl rfl ⟨_, _, rfl, rfl, H⟩
        · have H := H.2 hc17
          refine ax_iconst (pc' := 21) (v := (0 : Int32)) dX5_coolness_20 (by decide) rfl ?_
          exact ax_iret dX5_coolness_21 rfl rfl rfl ⟨_, _, rfl, rfl, H⟩
theorem o_X5_setCoolness {g : ac_G} {τ : Nat → Nat → Int64} (d : Nat) (a : Nat) (p1 : Int32) (p2 : Int32) (p3 : Int32) (hm : is_Md a) {Q : ac_m → Prop} {s : ac_m} (H : w_X5_setCoolness a p1 p2 p3 Q s) : ac_M g i_X5_setCoolness d 0 0 [.ref a, .int p1, .int p2, .int p3] (false, 586, SH, s, τ) (liV τ Q) := by
  refine ac_ofX (by decide +kernel) rfl rfl rfl ?_
  refine ax_iload_n (pc' := 1) dX5_setCoolness_0 rfl rfl ?_
  refine ax_if_lt (pc' := 4) (tgt := 32) dX5_setCoolness_1 (by decide) rfl (fun hc1 => ?_) (fun hc1 => ?_)
  · have H := H.1 hc1
    exact ax_vret dX5_setCoolness_32 rfl rfl rfl ⟨_, rfl, rfl, H⟩
  · have H := H.2 hc1
    refine ax_iload_n (pc' := 5) dX5_setCoolness_4 rfl rfl ?_
    refine ax_bipush (pc' := 7) (v := (6 : Int32)) dX5_setCoolness_5 (by decide) rfl ?_
    refine ax_icmp_ge (pc' := 10) (tgt := 32) dX5_setCoolness_7 (by decide) rfl (fun hc7 => ?_) (fun hc7 => ?_)
    · have H := H.1 hc7
      exact ax_vret dX5_setCoolness_32 rfl rfl rfl ⟨_, rfl, rfl, H⟩
    · have H := H.2 hc7
      refine ax_iload_n (pc' := 11) dX5_setCoolness_10 rfl rfl ?_
      refine ax_if_lt (pc' := 14) (tgt := 32) dX5_setCoolness_11 (by decide) rfl (fun hc11 => ?_) (fun hc11 => ?_)
      · have H := H.1 hc11
        exact ax_vret dX5_setCoolness_32 rfl rfl rfl ⟨_, rfl, rfl, H⟩
      · have H := H.2 hc11
        refine ax_iload_n (pc' := 15) dX5_setCoolness_14 rfl rfl ?_
        refine ax_bipush (pc' := 17) (v := (6 : Int32)) dX5_setCoolness_15 (by decide) rfl ?_
        refine ax_icmp_ge (pc' := 20) (tgt := 32) dX5_setCoolness_17 (by decide) rfl (fun hc17 => ?_) (fun hc17 => ?_)
        · have H := H.1 hc17
          exact ax_vret dX5_setCoolness_32 rfl rfl rfl ⟨_, rfl, rfl, H⟩
        · have H := H.2 hc17
          refine ax_aload_n (pc' := 21) dX5_setCoolness_20 rfl rfl ?_
          refine ax_getR (pc' := 24) dX5_setCoolness_21 fl_X5_24 (md_0 hm) rfl (md_8 hm) rfl ?_
          refine ax_iload_n (pc' := 25) dX5_setCoolness_24 rfl rfl ?_
          refine ax_bipush (pc' := 27) (v := (6 : Int32)) dX5_setCoolness_25 (by decide) rfl ?_
          refine ax_imul (pc' := 28) dX5_setCoolness_27 rfl ?_
          refine ax_iload_n (pc' := 29) dX5_setCoolness_28 rfl rfl ?_
          refine ax_iadd (pc' := 30) dX5_setCoolness_29 rfl ?_
          refine ax_iload_n (pc' := 31) dX5_setCoolness_30 rfl rfl ?_
          obtain ⟨hj31, H⟩ := H
          refine ax_iast (pc' := 32) dX5_setCoolness_31 (md_5 hm) hj31 (md_13 hm) rfl ?_
          exact ax_vret dX5_setCoolness_32 rfl rfl rfl ⟨_, rfl, rfl, H⟩
theorem o_X5_makeCooler {g : ac_G} {τ : Nat → Nat → Int64} (d : Nat) (a : Nat) (p1 : Int32) (p2 : Int32) (hm : is_Md a) {Q : ac_m → Prop} {s : ac_m} (H : w_X5_makeCooler a p1 p2 Q s) : ac_M g i_X5_makeCooler (d + 1) 0 0 [.ref a, .int p1, .int p2] (false, 586, SH, s, τ) (liV τ Q) := by
  refine ac_ofX (by decide +kernel) rfl rfl rfl ?_
  refine ax_bipush (pc' := 2) (v := (9 : Int32)) dX5_makeCooler_0 (by decide) rfl ?_
  refine ax_aload_n (pc' := 3) dX5_makeCooler_2 rfl rfl ?_
  refine ax_iload_n (pc' := 4) dX5_makeCooler_3 rfl rfl ?_
  refine ax_iload_n (pc' := 5) dX5_makeCooler_4 rfl rfl ?_
  refine ay_V2 (pc' := 8) (ce' := 0) (sl' := 0) (mc2 := 0) (ms2 := 0) (I2 := i_X5_coolness) dX5_makeCooler_5 ml_X5_104 (md_0 hm) (by decide) (md_8 hm) rfl rfl rfl rfl rfl rfl rfl rfl (ac_M.imp (o_X5_coolness _ a p1 p2 hm H) ?_)
  rintro _ _ ⟨r5, s5, rfl, rfl, H⟩
  refine ax_iconst (pc' := 9) (v := (1 : Int32)) dX5_makeCooler_8 (by decide) rfl ?_
  refine ax_iadd (pc' := 10) dX5_makeCooler_9 rfl ?_
  refine ax_min (pc' := 13) dX5_makeCooler_10 mj_X5_98 mk_min.1 mk_min.2.1 mk_min.2.2 rfl rfl rfl rfl ?_
  refine ax_topi (fun y13 hy13 => ?_)
  have H := H y13 hy13
  refine ax_istore_n (pc' := 14) dX5_makeCooler_13 rfl rfl rfl ?_
  refine ax_aload_n (pc' := 15) dX5_makeCooler_14 rfl rfl ?_
  refine ax_iload_n (pc' := 16) dX5_makeCooler_15 rfl rfl ?_
  refine ax_iload_n (pc' := 17) dX5_makeCooler_16 rfl rfl ?_
  refine ax_iload_n (pc' := 18) dX5_makeCooler_17 rfl rfl ?_
  refine ay_V3 (pc' := 21) (ce' := 0) (sl' := 0) (mc2 := 0) (ms2 := 0) (I2 := i_X5_setCoolness) dX5_makeCooler_18 ml_X5_107 (md_0 hm) (by decide) (md_8 hm) rfl rfl rfl rfl rfl rfl rfl rfl (ac_M.imp (o_X5_setCoolness _ a p1 p2 y13 hm H) ?_)
  rintro _ _ ⟨s18, rfl, rfl, H⟩
  refine ax_aload_n (pc' := 22) dX5_makeCooler_21 rfl rfl ?_
  refine ax_iload_n (pc' := 23) dX5_makeCooler_22 rfl rfl ?_
  refine ax_iload_n (pc' := 24) dX5_makeCooler_23 rfl rfl ?_
  refine ax_iload_n (pc' := 25) dX5_makeCooler_24 rfl rfl ?_
  refine ay_V3 (pc' := 28) (ce' := 0) (sl' := 0) (mc2 := 0) (ms2 := 0) (I2 := i_X5_setCoolness) dX5_makeCooler_25 ml_X5_107 (md_0 hm) (by decide) (md_8 hm) rfl rfl rfl rfl rfl rfl rfl rfl (ac_M.imp (o_X5_setCoolness _ a p2 p1 y13 hm H) ?_)
  rintro _ _ ⟨s25, rfl, rfl, H⟩
  exact ax_vret dX5_makeCooler_28 rfl rfl rfl ⟨_, rfl, rfl, H⟩
theorem o_X5_slay {g : ac_G} {τ : Nat → Nat → Int64} (d : Nat) (a : Nat) (p1 : Int32) (hm : is_Md a) {Q : Int32 → ac_m → Prop} {s : ac_m} (H : w_X5_slay a p1 Q s) : ac_M g i_X5_slay (d + 2) 0 0 [.ref a, .int p1] (false, 586, SH, s, τ) (liI τ Q) := by
  refine ac_ofX (by decide +kernel) rfl rfl rfl ?_
  refine ax_aload_n (pc' := 1) dX5_slay_0 rfl rfl ?_
  refine ax_iload_n (pc' := 2) dX5_slay_1 rfl rfl ?_
  refine ay_V1 (pc' := 5) (ce' := 0) (sl' := 0) (mc2 := 0) (ms2 := 0) (I2 := i_X5_isThere) dX5_slay_2 ml_X5_74 (md_0 hm) (by decide) (md_8 hm) rfl rfl rfl rfl rfl rfl rfl rfl (ac_M.imp (o_X5_isThere _ a p1 hm H) ?_)
  rintro _ _ ⟨r2, s2, rfl, rfl, H⟩
  refine ax_if_ne (pc' := 8) (tgt := 10) dX5_slay_5 (by decide) rfl (fun hc5 => ?_) (fun hc5 => ?_)
  · have H := H.1 hc5
    refine ax_aload_n (pc' := 11) dX5_slay_10 rfl rfl ?_
    refine ax_iload_n (pc' := 12) dX5_slay_11 rfl rfl ?_
    refine ay_V1 (pc' := 15) (ce' := 0) (sl' := 0) (mc2 := 0) (ms2 := 0) (I2 := i_X5_remove) dX5_slay_12 ml_X5_66 (md_0 hm) (by decide) (md_8 hm) rfl rfl rfl rfl rfl rfl rfl rfl (ac_M.imp (o_X5_remove _ a p1 hm H) ?_)
    rintro _ _ ⟨s12, rfl, rfl, H⟩
    refine ax_aload_n (pc' := 16) dX5_slay_15 rfl rfl ?_
    refine ax_aload_n (pc' := 17) dX5_slay_16 rfl rfl ?_
    refine ax_getR (pc' := 20) dX5_slay_17 fl_X5_43 (md_0 hm) rfl (md_8 hm) rfl ?_
    refine ax_iload_n (pc' := 21) dX5_slay_20 rfl rfl ?_
    refine ay_V1 (pc' := 24) (ce' := 0) (sl' := 0) (mc2 := 0) (ms2 := 0) (I2 := i_X3_doerOf) dX5_slay_21 ml_X5_80 sh_3 (by decide) rfl rfl rfl rfl rfl rfl rfl rfl rfl (ac_M.imp (o_X3_doerOf _ p1 H) ?_)
    rintro _ _ ⟨r21, s21, rfl, rfl, H⟩
    refine ax_aload_n (pc' := 25) dX5_slay_24 rfl rfl ?_
    refine ax_getR (pc' := 28) dX5_slay_25 fl_X5_43 (md_0 hm) rfl (md_8 hm) rfl ?_
    refine ax_iload_n (pc' := 29) dX5_slay_28 rfl rfl ?_
    refine ay_V1 (pc' := 32) (ce' := 0) (sl' := 0) (mc2 := 0) (ms2 := 0) (I2 := i_X3_receiverOf) dX5_slay_29 ml_X5_84 sh_3 (by decide) rfl rfl rfl rfl rfl rfl rfl rfl rfl (ac_M.imp (o_X3_receiverOf _ p1 H) ?_)
    rintro _ _ ⟨r29, s29, rfl, rfl, H⟩
    refine ay_V2 (pc' := 35) (ce' := 0) (sl' := 0) (mc2 := 0) (ms2 := 0) (I2 := i_X5_makeCooler) dX5_slay_32 ml_X5_87 (md_0 hm) (by decide) (md_8 hm) rfl rfl rfl rfl rfl rfl rfl rfl (ac_M.imp (o_X5_makeCooler _ a r21 r29 hm H) ?_)
    rintro _ _ ⟨s32, rfl, rfl, H⟩
    refine ax_iconst (pc' := 36) (v := (1 : Int32)) dX5_slay_35 (by decide) rfl ?_
    exact ax_zret dX5_slay_36 rfl rfl rfl rfl ⟨_, _, rfl, rfl, H⟩
  · have H := H.2 hc5
    refine ax_iconst (pc' := 9) (v := (0 : Int32)) dX5_slay_8 (by decide) rfl ?_
    exact ax_zret dX5_slay_9 rfl rfl rfl rfl ⟨_, _, rfl, rfl, H⟩
theorem o_X5_giveHay {g : ac_G} {τ : Nat → Nat → Int64} (d : Nat) (a : Nat) (p1 : Int32) (p2 : Int32) (hm : is_Md a) {Q : Int32 → ac_m → Prop} {s : ac_m} (H : w_X5_giveHay a p1 p2 Q s) : ac_M g i_X5_giveHay (d + 1) 0 0 [.ref a, .int p1, .int p2] (false, 586, SH, s, τ) (liI τ Q) := by
  refine ac_ofX (by decide +kernel) rfl rfl rfl ?_
  refine ax_aload_n (pc' := 1) dX5_giveHay_0 rfl rfl ?_
  refine ax_getR (pc' := 4) dX5_giveHay_1 fl_X5_43 (md_0 hm) rfl (md_8 hm) rfl ?_
  refine ax_iload_n (pc' := 5) dX5_giveHay_4 rfl rfl ?_
  refine ay_V1 (pc' := 8) (ce' := 0) (sl' := 0) (mc2 := 0) (ms2 := 0) (I2 := i_X3_hasFolk) dX5_giveHay_5 ml_X5_77 sh_3 (by decide) rfl rfl rfl rfl rfl rfl rfl rfl rfl (ac_M.imp (o_X3_hasFolk _ p1 H) ?_)
  rintro _ _ ⟨r5, s5, rfl, rfl, H⟩
  refine ax_if_eq (pc' := 11) (tgt := 22) dX5_giveHay_8 (by decide) rfl (fun hc8 => ?_) (fun hc8 => ?_)
  · have H := H.1 hc8
    refine ax_iconst (pc' := 23) (v := (0 : Int32)) dX5_giveHay_22 (by decide) rfl ?_
    exact ax_zret dX5_giveHay_23 rfl rfl rfl rfl ⟨_, _, rfl, rfl, H⟩
  · have H := H.2 hc8
    refine ax_aload_n (pc' := 12) dX5_giveHay_11 rfl rfl ?_
    refine ax_getR (pc' := 15) dX5_giveHay_12 fl_X5_9 (md_0 hm) rfl (md_8 hm) rfl ?_
    refine ax_iload_n (pc' := 16) dX5_giveHay_15 rfl rfl ?_
    obtain ⟨hj16, H⟩ := H
    refine ax_iald (pc' := 17) dX5_giveHay_16 (md_1 hm) hj16 (md_9 hm) rfl ?_
    refine ax_bipush (pc' := 19) (v := (99 : Int32)) dX5_giveHay_17 (by decide) rfl ?_
    refine ax_icmp_lt (pc' := 22) (tgt := 24) dX5_giveHay_19 (by decide) rfl (fun hc19 => ?_) (fun hc19 => ?_)
    · have H := H.1 hc19
      refine ax_aload_n (pc' := 25) dX5_giveHay_24 rfl rfl ?_
      refine ax_getR (pc' := 28) dX5_giveHay_25 fl_X5_9 (md_0 hm) rfl (md_8 hm) rfl ?_
      refine ax_iload_n (pc' := 29) dX5_giveHay_28 rfl rfl ?_
      refine ax_bipush (pc' := 31) (v := (99 : Int32)) dX5_giveHay_29 (by decide) rfl ?_
      refine ax_aload_n (pc' := 32) dX5_giveHay_31 rfl rfl ?_
      refine ax_getR (pc' := 35) dX5_giveHay_32 fl_X5_9 (md_0 hm) rfl (md_8 hm) rfl ?_
      refine ax_iload_n (pc' := 36) dX5_giveHay_35 rfl rfl ?_
      obtain ⟨hj36, H⟩ := H
      refine ax_iald (pc' := 37) dX5_giveHay_36 (md_1 hm) hj36 (md_9 hm) rfl ?_
      refine ax_iload_n (pc' := 38) dX5_giveHay_37 rfl rfl ?_
      refine ax_iadd (pc' := 39) dX5_giveHay_38 rfl ?_
      refine ax_min (pc' := 42) dX5_giveHay_39 mj_X5_98 mk_min.1 mk_min.2.1 mk_min.2.2 rfl rfl rfl rfl ?_
      obtain ⟨hj42, H⟩ := H
      refine ax_iast (pc' := 43) dX5_giveHay_42 (md_1 hm) hj42 (md_9 hm) rfl ?_
      refine ax_iconst (pc' := 44) (v := (1 : Int32)) dX5_giveHay_43 (by decide) rfl ?_
      exact ax_zret dX5_giveHay_44 rfl rfl rfl rfl ⟨_, _, rfl, rfl, H⟩
    · have H := H.2 hc19
      refine ax_iconst (pc' := 23) (v := (0 : Int32)) dX5_giveHay_22 (by decide) rfl ?_
      exact ax_zret dX5_giveHay_23 rfl rfl rfl rfl ⟨_, _, rfl, rfl, H⟩
theorem o_X5_appetiteOf {g : ac_G} {τ : Nat → Nat → Int64} (d : Nat) (a : Nat) (p1 : Int32) (hm : is_Md a) {Q : Int32 → ac_m → Prop} {s : ac_m} (H : w_X5_appetiteOf a p1 Q s) : ac_M g i_X5_appetiteOf (d + 2) 0 0 [.ref a, .int p1] (false, 586, SH, s, τ) (liI τ Q) := by
  refine ac_ofX (by decide +kernel) rfl rfl rfl ?_
  refine ax_iload_n (pc' := 1) dX5_appetiteOf_0 rfl rfl ?_
  refine ax_if_lt (pc' := 4) (tgt := 10) dX5_appetiteOf_1 (by decide) rfl (fun hc1 => ?_) (fun hc1 => ?_)
  · have H := H.1 hc1
    refine ax_iconst (pc' := 11) (v := (0 : Int32)) dX5_appetiteOf_10 (by decide) rfl ?_
    exact ax_iret dX5_appetiteOf_11 rfl rfl rfl ⟨_, _, rfl, rfl, H⟩
  · have H := H.2 hc1
    refine ax_iload_n (pc' := 5) dX5_appetiteOf_4 rfl rfl ?_
    refine ax_bipush (pc' := 7) (v := (13 : Int32)) dX5_appetiteOf_5 (by decide) rfl ?_
    refine ax_icmp_lt (pc' := 10) (tgt := 12) dX5_appetiteOf_7 (by decide) rfl (fun hc7 => ?_) (fun hc7 => ?_)
    · have H := H.1 hc7
      refine ax_aload_n (pc' := 13) dX5_appetiteOf_12 rfl rfl ?_
      refine ax_getR (pc' := 16) dX5_appetiteOf_13 fl_X5_18 (md_0 hm) rfl (md_8 hm) rfl ?_
      refine ax_iload_n (pc' := 17) dX5_appetiteOf_16 rfl rfl ?_
      obtain ⟨hj17, H⟩ := H
      refine ax_iald (pc' := 18) dX5_appetiteOf_17 (md_3 hm) hj17 (md_11 hm) rfl ?_
      refine ax_istore_n (pc' := 19) dX5_appetiteOf_18 rfl rfl rfl ?_
      refine ax_iload_n (pc' := 20) dX5_appetiteOf_19 rfl rfl ?_
      refine ax_if_lt (pc' := 23) (tgt := 29) dX5_appetiteOf_20 (by decide) rfl (fun hc20 => ?_) (fun hc20 => ?_)
      · have H := H.1 hc20
        refine ax_iconst (pc' := 30) (v := (0 : Int32)) dX5_appetiteOf_29 (by decide) rfl ?_
        exact ax_iret dX5_appetiteOf_30 rfl rfl rfl ⟨_, _, rfl, rfl, H⟩
      · have H := H.2 hc20
        refine ax_iload_n (pc' := 24) dX5_appetiteOf_23 rfl rfl ?_
        refine ax_bipush (pc' := 26) (v := (6 : Int32)) dX5_appetiteOf_24 (by decide) rfl ?_
        refine ax_icmp_lt (pc' := 29) (tgt := 31) dX5_appetiteOf_26 (by decide) rfl (fun hc26 => ?_) (fun hc26 => ?_)
        · have H := H.1 hc26
          refine ax_iload_n (pc' := 32) dX5_appetiteOf_31 rfl rfl ?_
          refine ax_bipush (pc' := 34) (v := (12 : Int32)) dX5_appetiteOf_32 (by decide) rfl ?_
          refine ax_icmp_ne (pc' := 37) (tgt := 41) dX5_appetiteOf_34 (by decide) rfl (fun hc34 => ?_) (fun hc34 => ?_)
          · have H := H.1 hc34
            refine ax_iconst (pc' := 42) (v := (0 : Int32)) dX5_appetiteOf_41 (by decide) rfl ?_
            refine ax_istore_n (pc' := 43) dX5_appetiteOf_42 rfl rfl rfl ?_
            refine ax_iload_n (pc' := 44) dX5_appetiteOf_43 rfl rfl ?_
            refine ax_if_eq (pc' := 47) (tgt := 51) dX5_appetiteOf_44 (by decide) rfl (fun hc44 => ?_) (fun hc44 => ?_)
            · have H := H.1 hc44
              refine ax_aload_n (pc' := 52) dX5_appetiteOf_51 rfl rfl ?_
              refine ax_aload_n (pc' := 53) dX5_appetiteOf_52 rfl rfl ?_
              refine ax_getR (pc' := 56) dX5_appetiteOf_53 fl_X5_43 (md_0 hm) rfl (md_8 hm) rfl ?_
              refine ax_getR (pc' := 59) dX5_appetiteOf_56 fl_X5_95 sh_3 rfl rfl rfl ?_
              refine ax_iload_n (pc' := 60) dX5_appetiteOf_59 rfl rfl ?_
              obtain ⟨hj60, H⟩ := H
              refine ax_iald (pc' := 61) dX5_appetiteOf_60 sh_6 hj60 rfl rfl ?_
              refine ax_aload_n (pc' := 62) dX5_appetiteOf_61 rfl rfl ?_
              refine ax_getR (pc' := 65) dX5_appetiteOf_62 fl_X5_43 (md_0 hm) rfl (md_8 hm) rfl ?_
              refine ax_getR (pc' := 68) dX5_appetiteOf_65 fl_X5_123 sh_3 rfl rfl rfl ?_
              refine ax_iload_n (pc' := 69) dX5_appetiteOf_68 rfl rfl ?_
              obtain ⟨hj69, H⟩ := H
              refine ax_iald (pc' := 70) dX5_appetiteOf_69 sh_7 hj69 rfl rfl ?_
              refine ay_V2 (pc' := 73) (ce' := 0) (sl' := 0) (mc2 := 0) (ms2 := 0) (I2 := i_X5_coolness) dX5_appetiteOf_70 ml_X5_104 (md_0 hm) (by decide) (md_8 hm) rfl rfl rfl rfl rfl rfl rfl rfl (ac_M.imp (o_X5_coolness _ a (s 6 p1.toNatClampNeg) (s 7 p1.toNatClampNeg) hm H) ?_)
              rintro _ _ ⟨r70, s70, rfl, rfl, H⟩
              refine ax_istore (pc' := 75) dX5_appetiteOf_73 rfl rfl rfl ?_
              refine ax_aload_n (pc' := 76) dX5_appetiteOf_75 rfl rfl ?_
              refine ax_getR (pc' := 79) dX5_appetiteOf_76 fl_X5_47 (md_0 hm) rfl (md_8 hm) rfl ?_
              refine ax_aload_n (pc' := 80) dX5_appetiteOf_79 rfl rfl ?_
              refine ax_getR (pc' := 83) dX5_appetiteOf_80 fl_X5_15 (md_0 hm) rfl (md_8 hm) rfl ?_
              refine ax_iload_n (pc' := 84) dX5_appetiteOf_83 rfl rfl ?_
              obtain ⟨hj84, H⟩ := H
              refine ax_iald (pc' := 85) dX5_appetiteOf_84 (md_2 hm) hj84 (md_10 hm) rfl ?_
              refine ax_iload_n (pc' := 86) dX5_appetiteOf_85 rfl rfl ?_
              refine ax_if_eq (pc' := 89) (tgt := 96) dX5_appetiteOf_86 (by decide) rfl (fun hc86 => ?_) (fun hc86 => ?_)
              · have H := H.1 hc86
                refine ax_aload_n (pc' := 97) dX5_appetiteOf_96 rfl rfl ?_
                refine ax_getR (pc' := 100) dX5_appetiteOf_97 fl_X5_43 (md_0 hm) rfl (md_8 hm) rfl ?_
                refine ax_getR (pc' := 103) dX5_appetiteOf_100 fl_X5_126 sh_3 rfl rfl rfl ?_
                refine ax_iload_n (pc' := 104) dX5_appetiteOf_103 rfl rfl ?_
                obtain ⟨hj104, H⟩ := H
                refine ax_iald (pc' := 105) dX5_appetiteOf_104 sh_8 hj104 rfl rfl ?_
                refine ax_aload_n (pc' := 106) dX5_appetiteOf_105 rfl rfl ?_
                refine ax_getR (pc' := 109) dX5_appetiteOf_106 fl_X5_21 (md_0 hm) rfl (md_8 hm) rfl ?_
                refine ax_iload_n (pc' := 110) dX5_appetiteOf_109 rfl rfl ?_
                obtain ⟨hj110, H⟩ := H
                refine ax_iald (pc' := 111) dX5_appetiteOf_110 (md_4 hm) hj110 (md_12 hm) rfl ?_
                refine ax_iload_n (pc' := 112) dX5_appetiteOf_111 rfl rfl ?_
                refine ay_V4 (pc' := 115) (ce' := 0) (sl' := 0) (mc2 := 0) (ms2 := 0) (I2 := i_X4_tellBeast) dX5_appetiteOf_112 ml_X5_129 sh_25 (by decide) rfl rfl rfl rfl rfl rfl rfl rfl rfl (ac_M.imp (o_X4_tellBeast _ (s70 (a + 2) p1.toNatClampNeg) (s70 8 p1.toNatClampNeg) (s70 (a + 4) p1.toNatClampNeg) p1 H) ?_)
                rintro _ _ ⟨s112, rfl, rfl, H⟩
                refine ax_aload_n (pc' := 116) dX5_appetiteOf_115 rfl rfl ?_
                refine ax_getR (pc' := 119) dX5_appetiteOf_116 fl_X5_47 (md_0 hm) rfl (md_8 hm) rfl ?_
                refine ax_aload_n (pc' := 120) dX5_appetiteOf_119 rfl rfl ?_
                refine ax_getR (pc' := 123) dX5_appetiteOf_120 fl_X5_9 (md_0 hm) rfl (md_8 hm) rfl ?_
                refine ax_iload_n (pc' := 124) dX5_appetiteOf_123 rfl rfl ?_
                obtain ⟨hj124, H⟩ := H
                refine ax_iald (pc' := 125) dX5_appetiteOf_124 (md_1 hm) hj124 (md_9 hm) rfl ?_
                refine ax_aload_n (pc' := 126) dX5_appetiteOf_125 rfl rfl ?_
                refine ax_getR (pc' := 129) dX5_appetiteOf_126 fl_X5_27 (md_0 hm) rfl (md_8 hm) rfl ?_
                refine ax_iload_n (pc' := 130) dX5_appetiteOf_129 rfl rfl ?_
                obtain ⟨hj130, H⟩ := H
                refine ax_iald (pc' := 131) dX5_appetiteOf_130 (md_6 hm) hj130 (md_14 hm) rfl ?_
                refine ax_iconst (pc' := 132) (v := (1 : Int32)) dX5_appetiteOf_131 (by decide) rfl ?_
                refine ax_isub (pc' := 133) dX5_appetiteOf_132 rfl ?_
                refine ax_iload (pc' := 135) dX5_appetiteOf_133 rfl rfl ?_
                refine ax_aload_n (pc' := 136) dX5_appetiteOf_135 rfl rfl ?_
                refine ax_getI (pc' := 139) dX5_appetiteOf_136 fl_X5_37 (md_0 hm) rfl (md_8 hm) rfl ?_
                refine ay_V4 (pc' := 142) (ce' := 0) (sl' := 0) (mc2 := 0) (ms2 := 0) (I2 := i_X4_tellPlace) dX5_appetiteOf_139 ml_X5_135 sh_25 (by decide) rfl rfl rfl rfl rfl rfl rfl rfl rfl (ac_M.imp (o_X4_tellPlace _ (s112 (a + 1) (s (a + 3) p1.toNatClampNeg).toNatClampNeg) ((s112 (a + 6) (s (a + 3) p1.toNatClampNeg).toNatClampNeg) - (1 : Int32)) r70 (s112 a 10) H) ?_)
                rintro _ _ ⟨s139, rfl, rfl, H⟩
                refine ax_aload_n (pc' := 143) dX5_appetiteOf_142 rfl rfl ?_
                refine ax_getR (pc' := 146) dX5_appetiteOf_143 fl_X5_47 (md_0 hm) rfl (md_8 hm) rfl ?_
                refine ay_V0 (pc' := 149) (ce' := 0) (sl' := 0) (mc2 := 0) (ms2 := 0) (I2 := i_X4_eaten) dX5_appetiteOf_146 ml_X5_138 sh_25 (by decide) rfl rfl rfl rfl rfl rfl rfl rfl rfl (ac_M.imp (o_X4_eaten _  H) ?_)
                rintro _ _ ⟨r146, s146, rfl, rfl, H⟩
                exact ax_iret dX5_appetiteOf_149 rfl rfl rfl ⟨_, _, rfl, rfl, H⟩
              · have H := H.2 hc86
                refine ax_aload_n (pc' := 90) dX5_appetiteOf_89 rfl rfl ?_
                refine ax_getI (pc' := 93) dX5_appetiteOf_90 fl_X5_33 (md_0 hm) rfl (md_8 hm) rfl ?_
                refine ax_goto (tgt := 105) dX5_appetiteOf_93 (by decide) ?_
                refine ax_aload_n (pc' := 106) dX5_appetiteOf_105 rfl rfl ?_
                refine ax_getR (pc' := 109) dX5_appetiteOf_106 fl_X5_21 (md_0 hm) rfl (md_8 hm) rfl ?_
                refine ax_iload_n (pc' := 110) dX5_appetiteOf_109 rfl rfl ?_
                obtain ⟨hj110, H⟩ := H
                refine ax_iald (pc' := 111) dX5_appetiteOf_110 (md_4 hm) hj110 (md_12 hm) rfl ?_
                refine ax_iload_n (pc' := 112) dX5_appetiteOf_111 rfl rfl ?_
                refine ay_V4 (pc' := 115) (ce' := 0) (sl' := 0) (mc2 := 0) (ms2 := 0) (I2 := i_X4_tellBeast) dX5_appetiteOf_112 ml_X5_129 sh_25 (by decide) rfl rfl rfl rfl rfl rfl rfl rfl rfl (ac_M.imp (o_X4_tellBeast _ (s70 (a + 2) p1.toNatClampNeg) (s70 a 9) (s70 (a + 4) p1.toNatClampNeg) p1 H) ?_)
                rintro _ _ ⟨s112, rfl, rfl, H⟩
                refine ax_aload_n (pc' := 116) dX5_appetiteOf_115 rfl rfl ?_
                refine ax_getR (pc' := 119) dX5_appetiteOf_116 fl_X5_47 (md_0 hm) rfl (md_8 hm) rfl ?_
                refine ax_aload_n (pc' := 120) dX5_appetiteOf_119 rfl rfl ?_
                refine ax_getR (pc' := 123) dX5_appetiteOf_120 fl_X5_9 (md_0 hm) rfl (md_8 hm) rfl ?_
                refine ax_iload_n (pc' := 124) dX5_appetiteOf_123 rfl rfl ?_
                obtain ⟨hj124, H⟩ := H
                refine ax_iald (pc' := 125) dX5_appetiteOf_124 (md_1 hm) hj124 (md_9 hm) rfl ?_
                refine ax_aload_n (pc' := 126) dX5_appetiteOf_125 rfl rfl ?_
                refine ax_getR (pc' := 129) dX5_appetiteOf_126 fl_X5_27 (md_0 hm) rfl (md_8 hm) rfl ?_
                refine ax_iload_n (pc' := 130) dX5_appetiteOf_129 rfl rfl ?_
                obtain ⟨hj130, H⟩ := H
                refine ax_iald (pc' := 131) dX5_appetiteOf_130 (md_6 hm) hj130 (md_14 hm) rfl ?_
                refine ax_iconst (pc' := 132) (v := (1 : Int32)) dX5_appetiteOf_131 (by decide) rfl ?_
                refine ax_isub (pc' := 133) dX5_appetiteOf_132 rfl ?_
                refine ax_iload (pc' := 135) dX5_appetiteOf_133 rfl rfl ?_
                refine ax_aload_n (pc' := 136) dX5_appetiteOf_135 rfl rfl ?_
                refine ax_getI (pc' := 139) dX5_appetiteOf_136 fl_X5_37 (md_0 hm) rfl (md_8 hm) rfl ?_
                refine ay_V4 (pc' := 142) (ce' := 0) (sl' := 0) (mc2 := 0) (ms2 := 0) (I2 := i_X4_tellPlace) dX5_appetiteOf_139 ml_X5_135 sh_25 (by decide) rfl rfl rfl rfl rfl rfl rfl rfl rfl (ac_M.imp (o_X4_tellPlace _ (s112 (a + 1) (s (a + 3) p1.toNatClampNeg).toNatClampNeg) ((s112 (a + 6) (s (a + 3) p1.toNatClampNeg).toNatClampNeg) - (1 : Int32)) r70 (s112 a 10) H) ?_)
                rintro _ _ ⟨s139, rfl, rfl, H⟩
                refine ax_aload_n (pc' := 143) dX5_appetiteOf_142 rfl rfl ?_
                refine ax_getR (pc' := 146) dX5_appetiteOf_143 fl_X5_47 (md_0 hm) rfl (md_8 hm) rfl ?_
                refine ay_V0 (pc' := 149) (ce' := 0) (sl' := 0) (mc2 := 0) (ms2 := 0) (I2 := i_X4_eaten) dX5_appetiteOf_146 ml_X5_138 sh_25 (by decide) rfl rfl rfl rfl rfl rfl rfl rfl rfl (ac_M.imp (o_X4_eaten _  H) ?_)
                rintro _ _ ⟨r146, s146, rfl, rfl, H⟩
                exact ax_iret dX5_appetiteOf_149 rfl rfl rfl ⟨_, _, rfl, rfl, H⟩
            · have H := H.2 hc44
              refine ax_iconst (pc' := 48) (v := (0 : Int32)) dX5_appetiteOf_47 (by decide) rfl ?_
              refine ax_goto (tgt := 73) dX5_appetiteOf_48 (by decide) ?_
              refine ax_istore (pc' := 75) dX5_appetiteOf_73 rfl rfl rfl ?_
              refine ax_aload_n (pc' := 76) dX5_appetiteOf_75 rfl rfl ?_
              refine ax_getR (pc' := 79) dX5_appetiteOf_76 fl_X5_47 (md_0 hm) rfl (md_8 hm) rfl ?_
              refine ax_aload_n (pc' := 80) dX5_appetiteOf_79 rfl rfl ?_
              refine ax_getR (pc' := 83) dX5_appetiteOf_80 fl_X5_15 (md_0 hm) rfl (md_8 hm) rfl ?_
              refine ax_iload_n (pc' := 84) dX5_appetiteOf_83 rfl rfl ?_
              obtain ⟨hj84, H⟩ := H
              refine ax_iald (pc' := 85) dX5_appetiteOf_84 (md_2 hm) hj84 (md_10 hm) rfl ?_
              refine ax_iload_n (pc' := 86) dX5_appetiteOf_85 rfl rfl ?_
              refine ax_if_eq (pc' := 89) (tgt := 96) dX5_appetiteOf_86 (by decide) rfl (fun hc86 => ?_) (fun hc86 => ?_)
              · have H := H.1 hc86
                refine ax_aload_n (pc' := 97) dX5_appetiteOf_96 rfl rfl ?_
                refine ax_getR (pc' := 100) dX5_appetiteOf_97 fl_X5_43 (md_0 hm) rfl (md_8 hm) rfl ?_
                refine ax_getR (pc' := 103) dX5_appetiteOf_100 fl_X5_126 sh_3 rfl rfl rfl ?_
                refine ax_iload_n (pc' := 104) dX5_appetiteOf_103 rfl rfl ?_
                obtain ⟨hj104, H⟩ := H
                refine ax_iald (pc' := 105) dX5_appetiteOf_104 sh_8 hj104 rfl rfl ?_
                refine ax_aload_n (pc' := 106) dX5_appetiteOf_105 rfl rfl ?_
                refine ax_getR (pc' := 109) dX5_appetiteOf_106 fl_X5_21 (md_0 hm) rfl (md_8 hm) rfl ?_
                refine ax_iload_n (pc' := 110) dX5_appetiteOf_109 rfl rfl ?_
                obtain ⟨hj110, H⟩ := H
                refine ax_iald (pc' := 111) dX5_appetiteOf_110 (md_4 hm) hj110 (md_12 hm) rfl ?_
                refine ax_iload_n (pc' := 112) dX5_appetiteOf_111 rfl rfl ?_
                refine ay_V4 (pc' := 115) (ce' := 0) (sl' := 0) (mc2 := 0) (ms2 := 0) (I2 := i_X4_tellBeast) dX5_appetiteOf_112 ml_X5_129 sh_25 (by decide) rfl rfl rfl rfl rfl rfl rfl rfl rfl (ac_M.imp (o_X4_tellBeast _ (s (a + 2) p1.toNatClampNeg) (s 8 p1.toNatClampNeg) (s (a + 4) p1.toNatClampNeg) p1 H) ?_)
                rintro _ _ ⟨s112, rfl, rfl, H⟩
                refine ax_aload_n (pc' := 116) dX5_appetiteOf_115 rfl rfl ?_
                refine ax_getR (pc' := 119) dX5_appetiteOf_116 fl_X5_47 (md_0 hm) rfl (md_8 hm) rfl ?_
                refine ax_aload_n (pc' := 120) dX5_appetiteOf_119 rfl rfl ?_
                refine ax_getR (pc' := 123) dX5_appetiteOf_120 fl_X5_9 (md_0 hm) rfl (md_8 hm) rfl ?_
                refine ax_iload_n (pc' := 124) dX5_appetiteOf_123 rfl rfl ?_
                obtain ⟨hj124, H⟩ := H
                refine ax_iald (pc' := 125) dX5_appetiteOf_124 (md_1 hm) hj124 (md_9 hm) rfl ?_
                refine ax_aload_n (pc' := 126) dX5_appetiteOf_125 rfl rfl ?_
                refine ax_getR (pc' := 129) dX5_appetiteOf_126 fl_X5_27 (md_0 hm) rfl (md_8 hm) rfl ?_
                refine ax_iload_n (pc' := 130) dX5_appetiteOf_129 rfl rfl ?_
                obtain ⟨hj130, H⟩ := H
                refine ax_iald (pc' := 131) dX5_appetiteOf_130 (md_6 hm) hj130 (md_14 hm) rfl ?_
                refine ax_iconst (pc' := 132) (v := (1 : Int32)) dX5_appetiteOf_131 (by decide) rfl ?_
                refine ax_isub (pc' := 133) dX5_appetiteOf_132 rfl ?_
                refine ax_iload (pc' := 135) dX5_appetiteOf_133 rfl rfl ?_
                refine ax_aload_n (pc' := 136) dX5_appetiteOf_135 rfl rfl ?_
                refine ax_getI (pc' := 139) dX5_appetiteOf_136 fl_X5_37 (md_0 hm) rfl (md_8 hm) rfl ?_
                refine ay_V4 (pc' := 142) (ce' := 0) (sl' := 0) (mc2 := 0) (ms2 := 0) (I2 := i_X4_tellPlace) dX5_appetiteOf_139 ml_X5_135 sh_25 (by decide) rfl rfl rfl rfl rfl rfl rfl rfl rfl (ac_M.imp (o_X4_tellPlace _ (s112 (a + 1) (s (a + 3) p1.toNatClampNeg).toNatClampNeg) ((s112 (a + 6) (s (a + 3) p1.toNatClampNeg).toNatClampNeg) - (1 : Int32)) (0 : Int32) (s112 a 10) H) ?_)
                rintro _ _ ⟨s139, rfl, rfl, H⟩
                refine ax_aload_n (pc' := 143) dX5_appetiteOf_142 rfl rfl ?_
                refine ax_getR (pc' := 146) dX5_appetiteOf_143 fl_X5_47 (md_0 hm) rfl (md_8 hm) rfl ?_
                refine ay_V0 (pc' := 149) (ce' := 0) (sl' := 0) (mc2 := 0) (ms2 := 0) (I2 := i_X4_eaten) dX5_appetiteOf_146 ml_X5_138 sh_25 (by decide) rfl rfl rfl rfl rfl rfl rfl rfl rfl (ac_M.imp (o_X4_eaten _  H) ?_)
                rintro _ _ ⟨r146, s146, rfl, rfl, H⟩
                exact ax_iret dX5_appetiteOf_149 rfl rfl rfl ⟨_, _, rfl, rfl, H⟩
              · have H := H.2 hc86
                refine ax_aload_n (pc' := 90) dX5_appetiteOf_89 rfl rfl ?_
                refine ax_getI (pc' := 93) dX5_appetiteOf_90 fl_X5_33 (md_0 hm) rfl (md_8 hm) rfl ?_
                refine ax_goto (tgt := 105) dX5_appetiteOf_93 (by decide) ?_
                refine ax_aload_n (pc' := 106) dX5_appetiteOf_105 rfl rfl ?_
                refine ax_getR (pc' := 109) dX5_appetiteOf_106 fl_X5_21 (md_0 hm) rfl (md_8 hm) rfl ?_
                refine ax_iload_n (pc' := 110) dX5_appetiteOf_109 rfl rfl ?_
                obtain ⟨hj110, H⟩ := H
                refine ax_iald (pc' := 111) dX5_appetiteOf_110 (md_4 hm) hj110 (md_12 hm) rfl ?_
                refine ax_iload_n (pc' := 112) dX5_appetiteOf_111 rfl rfl ?_
                refine ay_V4 (pc' := 115) (ce' := 0) (sl' := 0) (mc2 := 0) (ms2 := 0) (I2 := i_X4_tellBeast) dX5_appetiteOf_112 ml_X5_129 sh_25 (by decide) rfl rfl rfl rfl rfl rfl rfl rfl rfl (ac_M.imp (o_X4_tellBeast _ (s (a + 2) p1.toNatClampNeg) (s a 9) (s (a + 4) p1.toNatClampNeg) p1 H) ?_)
                rintro _ _ ⟨s112, rfl, rfl, H⟩
                refine ax_aload_n (pc' := 116) dX5_appetiteOf_115 rfl rfl ?_
                refine ax_getR (pc' := 119) dX5_appetiteOf_116 fl_X5_47 (md_0 hm) rfl (md_8 hm) rfl ?_
                refine ax_aload_n (pc' := 120) dX5_appetiteOf_119 rfl rfl ?_
                refine ax_getR (pc' := 123) dX5_appetiteOf_120 fl_X5_9 (md_0 hm) rfl (md_8 hm) rfl ?_
                refine ax_iload_n (pc' := 124) dX5_appetiteOf_123 rfl rfl ?_
                obtain ⟨hj124, H⟩ := H
                refine ax_iald (pc' := 125) dX5_appetiteOf_124 (md_1 hm) hj124 (md_9 hm) rfl ?_
                refine ax_aload_n (pc' := 126) dX5_appetiteOf_125 rfl rfl ?_
                refine ax_getR (pc' := 129) dX5_appetiteOf_126 fl_X5_27 (md_0 hm) rfl (md_8 hm) rfl ?_
                refine ax_iload_n (pc' := 130) dX5_appetiteOf_129 rfl rfl ?_
                obtain ⟨hj130, H⟩ := H
                refine ax_iald (pc' := 131) dX5_appetiteOf_130 (md_6 hm) hj130 (md_14 hm) rfl ?_
                refine ax_iconst (pc' := 132) (v := (1 : Int32)) dX5_appetiteOf_131 (by decide) rfl ?_
                refine ax_isub (pc' := 133) dX5_appetiteOf_132 rfl ?_
                refine ax_iload (pc' := 135) dX5_appetiteOf_133 rfl rfl ?_
                refine ax_aload_n (pc' := 136) dX5_appetiteOf_135 rfl rfl ?_
                refine ax_getI (pc' := 139) dX5_appetiteOf_136 fl_X5_37 (md_0 hm) rfl (md_8 hm) rfl ?_
                refine ay_V4 (pc' := 142) (ce' := 0) (sl' := 0) (mc2 := 0) (ms2 := 0) (I2 := i_X4_tellPlace) dX5_appetiteOf_139 ml_X5_135 sh_25 (by decide) rfl rfl rfl rfl rfl rfl rfl rfl rfl (ac_M.imp (o_X4_tellPlace _ (s112 (a + 1) (s (a + 3) p1.toNatClampNeg).toNatClampNeg) ((s112 (a + 6) (s (a + 3) p1.toNatClampNeg).toNatClampNeg) - (1 : Int32)) (0 : Int32) (s112 a 10) H) ?_)
                rintro _ _ ⟨s139, rfl, rfl, H⟩
                refine ax_aload_n (pc' := 143) dX5_appetiteOf_142 rfl rfl ?_
                refine ax_getR (pc' := 146) dX5_appetiteOf_143 fl_X5_47 (md_0 hm) rfl (md_8 hm) rfl ?_
                refine ay_V0 (pc' := 149) (ce' := 0) (sl' := 0) (mc2 := 0) (ms2 := 0) (I2 := i_X4_eaten) dX5_appetiteOf_146 ml_X5_138 sh_25 (by decide) rfl rfl rfl rfl rfl rfl rfl rfl rfl (ac_M.imp (o_X4_eaten _  H) ?_)
                rintro _ _ ⟨r146, s146, rfl, rfl, H⟩
                exact ax_iret dX5_appetiteOf_149 rfl rfl rfl ⟨_, _, rfl, rfl, H⟩
          · have H := H.2 hc34
            refine ax_iconst (pc' := 38) (v := (1 : Int32)) dX5_appetiteOf_37 (by decide) rfl ?_
            refine ax_goto (tgt := 42) dX5_appetiteOf_38 (by decide) ?_
            refine ax_istore_n (pc' := 43) dX5_appetiteOf_42 rfl rfl rfl ?_
            refine ax_iload_n (pc' := 44) dX5_appetiteOf_43 rfl rfl ?_
            refine ax_if_eq (pc' := 47) (tgt := 51) dX5_appetiteOf_44 (by decide) rfl (fun hc44 => ?_) (fun hc44 => ?_)
            · have H := H.1 hc44
              refine ax_aload_n (pc' := 52) dX5_appetiteOf_51 rfl rfl ?_
              refine ax_aload_n (pc' := 53) dX5_appetiteOf_52 rfl rfl ?_
              refine ax_getR (pc' := 56) dX5_appetiteOf_53 fl_X5_43 (md_0 hm) rfl (md_8 hm) rfl ?_
              refine ax_getR (pc' := 59) dX5_appetiteOf_56 fl_X5_95 sh_3 rfl rfl rfl ?_
              refine ax_iload_n (pc' := 60) dX5_appetiteOf_59 rfl rfl ?_
              obtain ⟨hj60, H⟩ := H
              refine ax_iald (pc' := 61) dX5_appetiteOf_60 sh_6 hj60 rfl rfl ?_
              refine ax_aload_n (pc' := 62) dX5_appetiteOf_61 rfl rfl ?_
              refine ax_getR (pc' := 65) dX5_appetiteOf_62 fl_X5_43 (md_0 hm) rfl (md_8 hm) rfl ?_
              refine ax_getR (pc' := 68) dX5_appetiteOf_65 fl_X5_123 sh_3 rfl rfl rfl ?_
              refine ax_iload_n (pc' := 69) dX5_appetiteOf_68 rfl rfl ?_
              obtain ⟨hj69, H⟩ := H
              refine ax_iald (pc' := 70) dX5_appetiteOf_69 sh_7 hj69 rfl rfl ?_
              refine ay_V2 (pc' := 73) (ce' := 0) (sl' := 0) (mc2 := 0) (ms2 := 0) (I2 := i_X5_coolness) dX5_appetiteOf_70 ml_X5_104 (md_0 hm) (by decide) (md_8 hm) rfl rfl rfl rfl rfl rfl rfl rfl (ac_M.imp (o_X5_coolness _ a (s 6 p1.toNatClampNeg) (s 7 p1.toNatClampNeg) hm H) ?_)
              rintro _ _ ⟨r70, s70, rfl, rfl, H⟩
              refine ax_istore (pc' := 75) dX5_appetiteOf_73 rfl rfl rfl ?_
              refine ax_aload_n (pc' := 76) dX5_appetiteOf_75 rfl rfl ?_
              refine ax_getR (pc' := 79) dX5_appetiteOf_76 fl_X5_47 (md_0 hm) rfl (md_8 hm) rfl ?_
              refine ax_aload_n (pc' := 80) dX5_appetiteOf_79 rfl rfl ?_
              refine ax_getR (pc' := 83) dX5_appetiteOf_80 fl_X5_15 (md_0 hm) rfl (md_8 hm) rfl ?_
              refine ax_iload_n (pc' := 84) dX5_appetiteOf_83 rfl rfl ?_
              obtain ⟨hj84, H⟩ := H
              refine ax_iald (pc' := 85) dX5_appetiteOf_84 (md_2 hm) hj84 (md_10 hm) rfl ?_
              refine ax_iload_n (pc' := 86) dX5_appetiteOf_85 rfl rfl ?_
              refine ax_if_eq (pc' := 89) (tgt := 96) dX5_appetiteOf_86 (by decide) rfl (fun hc86 => ?_) (fun hc86 => ?_)
              · have H := H.1 hc86
                refine ax_aload_n (pc' := 97) dX5_appetiteOf_96 rfl rfl ?_
                refine ax_getR (pc' := 100) dX5_appetiteOf_97 fl_X5_43 (md_0 hm) rfl (md_8 hm) rfl ?_
                refine ax_getR (pc' := 103) dX5_appetiteOf_100 fl_X5_126 sh_3 rfl rfl rfl ?_
                refine ax_iload_n (pc' := 104) dX5_appetiteOf_103 rfl rfl ?_
                obtain ⟨hj104, H⟩ := H
                refine ax_iald (pc' := 105) dX5_appetiteOf_104 sh_8 hj104 rfl rfl ?_
                refine ax_aload_n (pc' := 106) dX5_appetiteOf_105 rfl rfl ?_
                refine ax_getR (pc' := 109) dX5_appetiteOf_106 fl_X5_21 (md_0 hm) rfl (md_8 hm) rfl ?_
                refine ax_iload_n (pc' := 110) dX5_appetiteOf_109 rfl rfl ?_
                obtain ⟨hj110, H⟩ := H
                refine ax_iald (pc' := 111) dX5_appetiteOf_110 (md_4 hm) hj110 (md_12 hm) rfl ?_
                refine ax_iload_n (pc' := 112) dX5_appetiteOf_111 rfl rfl ?_
                refine ay_V4 (pc' := 115) (ce' := 0) (sl' := 0) (mc2 := 0) (ms2 := 0) (I2 := i_X4_tellBeast) dX5_appetiteOf_112 ml_X5_129 sh_25 (by decide) rfl rfl rfl rfl rfl rfl rfl rfl rfl (ac_M.imp (o_X4_tellBeast _ (s70 (a + 2) p1.toNatClampNeg) (s70 8 p1.toNatClampNeg) (s70 (a + 4) p1.toNatClampNeg) p1 H) ?_)
                rintro _ _ ⟨s112, rfl, rfl, H⟩
                refine ax_aload_n (pc' := 116) dX5_appetiteOf_115 rfl rfl ?_
                refine ax_getR (pc' := 119) dX5_appetiteOf_116 fl_X5_47 (md_0 hm) rfl (md_8 hm) rfl ?_
                refine ax_aload_n (pc' := 120) dX5_appetiteOf_119 rfl rfl ?_
                refine ax_getR (pc' := 123) dX5_appetiteOf_120 fl_X5_9 (md_0 hm) rfl (md_8 hm) rfl ?_
                refine ax_iload_n (pc' := 124) dX5_appetiteOf_123 rfl rfl ?_
                obtain ⟨hj124, H⟩ := H
                refine ax_iald (pc' := 125) dX5_appetiteOf_124 (md_1 hm) hj124 (md_9 hm) rfl ?_
                refine ax_aload_n (pc' := 126) dX5_appetiteOf_125 rfl rfl ?_
                refine ax_getR (pc' := 129) dX5_appetiteOf_126 fl_X5_27 (md_0 hm) rfl (md_8 hm) rfl ?_
                refine ax_iload_n (pc' := 130) dX5_appetiteOf_129 rfl rfl ?_
                obtain ⟨hj130, H⟩ := H
                refine ax_iald (pc' := 131) dX5_appetiteOf_130 (md_6 hm) hj130 (md_14 hm) rfl ?_
                refine ax_iconst (pc' := 132) (v := (1 : Int32)) dX5_appetiteOf_131 (by decide) rfl ?_
                refine ax_isub (pc' := 133) dX5_appetiteOf_132 rfl ?_
                refine ax_iload (pc' := 135) dX5_appetiteOf_133 rfl rfl ?_
                refine ax_aload_n (pc' := 136) dX5_appetiteOf_135 rfl rfl ?_
                refine ax_getI (pc' := 139) dX5_appetiteOf_136 fl_X5_37 (md_0 hm) rfl (md_8 hm) rfl ?_
                refine ay_V4 (pc' := 142) (ce' := 0) (sl' := 0) (mc2 := 0) (ms2 := 0) (I2 := i_X4_tellPlace) dX5_appetiteOf_139 ml_X5_135 sh_25 (by decide) rfl rfl rfl rfl rfl rfl rfl rfl rfl (ac_M.imp (o_X4_tellPlace _ (s112 (a + 1) (s (a + 3) p1.toNatClampNeg).toNatClampNeg) ((s112 (a + 6) (s (a + 3) p1.toNatClampNeg).toNatClampNeg) - (1 : Int32)) r70 (s112 a 10) H) ?_)
                rintro _ _ ⟨s139, rfl, rfl, H⟩
                refine ax_aload_n (pc' := 143) dX5_appetiteOf_142 rfl rfl ?_
                refine ax_getR (pc' := 146) dX5_appetiteOf_143 fl_X5_47 (md_0 hm) rfl (md_8 hm) rfl ?_
                refine ay_V0 (pc' := 149) (ce' := 0) (sl' := 0) (mc2 := 0) (ms2 := 0) (I2 := i_X4_eaten) dX5_appetiteOf_146 ml_X5_138 sh_25 (by decide) rfl rfl rfl rfl rfl rfl rfl rfl rfl (ac_M.imp (o_X4_eaten _  H) ?_)
                rintro _ _ ⟨r146, s146, rfl, rfl, H⟩
                exact ax_iret dX5_appetiteOf_149 rfl rfl rfl ⟨_, _, rfl, rfl, H⟩
              · have H := H.2 hc86
                refine ax_aload_n (pc' := 90) dX5_appetiteOf_89 rfl rfl ?_
                refine ax_getI (pc' := 93) dX5_appetiteOf_90 fl_X5_33 (md_0 hm) rfl (md_8 hm) rfl ?_
                refine ax_goto (tgt := 105) dX5_appetiteOf_93 (by decide) ?_
                refine ax_aload_n (pc' := 106) dX5_appetiteOf_105 rfl rfl ?_
                refine ax_getR (pc' := 109) dX5_appetiteOf_106 fl_X5_21 (md_0 hm) rfl (md_8 hm) rfl ?_
                refine ax_iload_n (pc' := 110) dX5_appetiteOf_109 rfl rfl ?_
                obtain ⟨hj110, H⟩ := H
                refine ax_iald (pc' := 111) dX5_appetiteOf_110 (md_4 hm) hj110 (md_12 hm) rfl ?_
                refine ax_iload_n (pc' := 112) dX5_appetiteOf_111 rfl rfl ?_
                refine ay_V4 (pc' := 115) (ce' := 0) (sl' := 0) (mc2 := 0) (ms2 := 0) (I2 := i_X4_tellBeast) dX5_appetiteOf_112 ml_X5_129 sh_25 (by decide) rfl rfl rfl rfl rfl rfl rfl rfl rfl (ac_M.imp (o_X4_tellBeast _ (s70 (a + 2) p1.toNatClampNeg) (s70 a 9) (s70 (a + 4) p1.toNatClampNeg) p1 H) ?_)
                rintro _ _ ⟨s112, rfl, rfl, H⟩
                refine ax_aload_n (pc' := 116) dX5_appetiteOf_115 rfl rfl ?_
                refine ax_getR (pc' := 119) dX5_appetiteOf_116 fl_X5_47 (md_0 hm) rfl (md_8 hm) rfl ?_
                refine ax_aload_n (pc' := 120) dX5_appetiteOf_119 rfl rfl ?_
                refine ax_getR (pc' := 123) dX5_appetiteOf_120 fl_X5_9 (md_0 hm) rfl (md_8 hm) rfl ?_
                refine ax_iload_n (pc' := 124) dX5_appetiteOf_123 rfl rfl ?_
                obtain ⟨hj124, H⟩ := H
                refine ax_iald (pc' := 125) dX5_appetiteOf_124 (md_1 hm) hj124 (md_9 hm) rfl ?_
                refine ax_aload_n (pc' := 126) dX5_appetiteOf_125 rfl rfl ?_
                refine ax_getR (pc' := 129) dX5_appetiteOf_126 fl_X5_27 (md_0 hm) rfl (md_8 hm) rfl ?_
                refine ax_iload_n (pc' := 130) dX5_appetiteOf_129 rfl rfl ?_
                obtain ⟨hj130, H⟩ := H
                refine ax_iald (pc' := 131) dX5_appetiteOf_130 (md_6 hm) hj130 (md_14 hm) rfl ?_
                refine ax_iconst (pc' := 132) (v := (1 : Int32)) dX5_appetiteOf_131 (by decide) rfl ?_
                refine ax_isub (pc' := 133) dX5_appetiteOf_132 rfl ?_
                refine ax_iload (pc' := 135) dX5_appetiteOf_133 rfl rfl ?_
                refine ax_aload_n (pc' := 136) dX5_appetiteOf_135 rfl rfl ?_
                refine ax_getI (pc' := 139) dX5_appetiteOf_136 fl_X5_37 (md_0 hm) rfl (md_8 hm) rfl ?_
                refine ay_V4 (pc' := 142) (ce' := 0) (sl' := 0) (mc2 := 0) (ms2 := 0) (I2 := i_X4_tellPlace) dX5_appetiteOf_139 ml_X5_135 sh_25 (by decide) rfl rfl rfl rfl rfl rfl rfl rfl rfl (ac_M.imp (o_X4_tellPlace _ (s112 (a + 1) (s (a + 3) p1.toNatClampNeg).toNatClampNeg) ((s112 (a + 6) (s (a + 3) p1.toNatClampNeg).toNatClampNeg) - (1 : Int32)) r70 (s112 a 10) H) ?_)
                rintro _ _ ⟨s139, rfl, rfl, H⟩
                refine ax_aload_n (pc' := 143) dX5_appetiteOf_142 rfl rfl ?_
                refine ax_getR (pc' := 146) dX5_appetiteOf_143 fl_X5_47 (md_0 hm) rfl (md_8 hm) rfl ?_
                refine ay_V0 (pc' := 149) (ce' := 0) (sl' := 0) (mc2 := 0) (ms2 := 0) (I2 := i_X4_eaten) dX5_appetiteOf_146 ml_X5_138 sh_25 (by decide) rfl rfl rfl rfl rfl rfl rfl rfl rfl (ac_M.imp (o_X4_eaten _  H) ?_)
                rintro _ _ ⟨r146, s146, rfl, rfl, H⟩
                exact ax_iret dX5_appetiteOf_149 rfl rfl rfl ⟨_, _, rfl, rfl, H⟩
            · have H := H.2 hc44
              refine ax_iconst (pc' := 48) (v := (0 : Int32)) dX5_appetiteOf_47 (by decide) rfl ?_
              refine ax_goto (tgt := 73) dX5_appetiteOf_48 (by decide) ?_
              refine ax_istore (pc' := 75) dX5_appetiteOf_73 rfl rfl rfl ?_
              refine ax_aload_n (pc' := 76) dX5_appetiteOf_75 rfl rfl ?_
              refine ax_getR (pc' := 79) dX5_appetiteOf_76 fl_X5_47 (md_0 hm) rfl (md_8 hm) rfl ?_
              refine ax_aload_n (pc' := 80) dX5_appetiteOf_79 rfl rfl ?_
              refine ax_getR (pc' := 83) dX5_appetiteOf_80 fl_X5_15 (md_0 hm) rfl (md_8 hm) rfl ?_
              refine ax_iload_n (pc' := 84) dX5_appetiteOf_83 rfl rfl ?_
              obtain ⟨hj84, H⟩ := H
              refine ax_iald (pc' := 85) dX5_appetiteOf_84 (md_2 hm) hj84 (md_10 hm) rfl ?_
              refine ax_iload_n (pc' := 86) dX5_appetiteOf_85 rfl rfl ?_
              refine ax_if_eq (pc' := 89) (tgt := 96) dX5_appetiteOf_86 (by decide) rfl (fun hc86 => ?_) (fun hc86 => ?_)
              · have H := H.1 hc86
                refine ax_aload_n (pc' := 97) dX5_appetiteOf_96 rfl rfl ?_
                refine ax_getR (pc' := 100) dX5_appetiteOf_97 fl_X5_43 (md_0 hm) rfl (md_8 hm) rfl ?_
                refine ax_getR (pc' := 103) dX5_appetiteOf_100 fl_X5_126 sh_3 rfl rfl rfl ?_
                refine ax_iload_n (pc' := 104) dX5_appetiteOf_103 rfl rfl ?_
                obtain ⟨hj104, H⟩ := H
                refine ax_iald (pc' := 105) dX5_appetiteOf_104 sh_8 hj104 rfl rfl ?_
                refine ax_aload_n (pc' := 106) dX5_appetiteOf_105 rfl rfl ?_
                refine ax_getR (pc' := 109) dX5_appetiteOf_106 fl_X5_21 (md_0 hm) rfl (md_8 hm) rfl ?_
                refine ax_iload_n (pc' := 110) dX5_appetiteOf_109 rfl rfl ?_
                obtain ⟨hj110, H⟩ := H
                refine ax_iald (pc' := 111) dX5_appetiteOf_110 (md_4 hm) hj110 (md_12 hm) rfl ?_
                refine ax_iload_n (pc' := 112) dX5_appetiteOf_111 rfl rfl ?_
                refine ay_V4 (pc' := 115) (ce' := 0) (sl' := 0) (mc2 := 0) (ms2 := 0) (I2 := i_X4_tellBeast) dX5_appetiteOf_112 ml_X5_129 sh_25 (by decide) rfl rfl rfl rfl rfl rfl rfl rfl rfl (ac_M.imp (o_X4_tellBeast _ (s (a + 2) p1.toNatClampNeg) (s 8 p1.toNatClampNeg) (s (a + 4) p1.toNatClampNeg) p1 H) ?_)
                rintro _ _ ⟨s112, rfl, rfl, H⟩
                refine ax_aload_n (pc' := 116) dX5_appetiteOf_115 rfl rfl ?_
                refine ax_getR (pc' := 119) dX5_appetiteOf_116 fl_X5_47 (md_0 hm) rfl (md_8 hm) rfl ?_
                refine ax_aload_n (pc' := 120) dX5_appetiteOf_119 rfl rfl ?_
                refine ax_getR (pc' := 123) dX5_appetiteOf_120 fl_X5_9 (md_0 hm) rfl (md_8 hm) rfl ?_
                refine ax_iload_n (pc' := 124) dX5_appetiteOf_123 rfl rfl ?_
                obtain ⟨hj124, H⟩ := H
                refine ax_iald (pc' := 125) dX5_appetiteOf_124 (md_1 hm) hj124 (md_9 hm) rfl ?_
                refine ax_aload_n (pc' := 126) dX5_appetiteOf_125 rfl rfl ?_
                refine ax_getR (pc' := 129) dX5_appetiteOf_126 fl_X5_27 (md_0 hm) rfl (md_8 hm) rfl ?_
                refine ax_iload_n (pc' := 130) dX5_appetiteOf_129 rfl rfl ?_
                obtain ⟨hj130, H⟩ := H
                refine ax_iald (pc' := 131) dX5_appetiteOf_130 (md_6 hm) hj130 (md_14 hm) rfl ?_
                refine ax_iconst (pc' := 132) (v := (1 : Int32)) dX5_appetiteOf_131 (by decide) rfl ?_
                refine ax_isub (pc' := 133) dX5_appetiteOf_132 rfl ?_
                refine ax_iload (pc' := 135) dX5_appetiteOf_133 rfl rfl ?_
                refine ax_aload_n (pc' := 136) dX5_appetiteOf_135 rfl rfl ?_
                refine ax_getI (pc' := 139) dX5_appetiteOf_136 fl_X5_37 (md_0 hm) rfl (md_8 hm) rfl ?_
                refine ay_V4 (pc' := 142) (ce' := 0) (sl' := 0) (mc2 := 0) (ms2 := 0) (I2 := i_X4_tellPlace) dX5_appetiteOf_139 ml_X5_135 sh_25 (by decide) rfl rfl rfl rfl rfl rfl rfl rfl rfl (ac_M.imp (o_X4_tellPlace _ (s112 (a + 1) (s (a + 3) p1.toNatClampNeg).toNatClampNeg) ((s112 (a + 6) (s (a + 3) p1.toNatClampNeg).toNatClampNeg) - (1 : Int32)) (0 : Int32) (s112 a 10) H) ?_)
                rintro _ _ ⟨s139, rfl, rfl, H⟩
                refine ax_aload_n (pc' := 143) dX5_appetiteOf_142 rfl rfl ?_
                refine ax_getR (pc' := 146) dX5_appetiteOf_143 fl_X5_47 (md_0 hm) rfl (md_8 hm) rfl ?_
                refine ay_V0 (pc' := 149) (ce' := 0) (sl' := 0) (mc2 := 0) (ms2 := 0) (I2 := i_X4_eaten) dX5_appetiteOf_146 ml_X5_138 sh_25 (by decide) rfl rfl rfl rfl rfl rfl rfl rfl rfl (ac_M.imp (o_X4_eaten _  H) ?_)
                rintro _ _ ⟨r146, s146, rfl, rfl, H⟩
                exact ax_iret dX5_appetiteOf_149 rfl rfl rfl ⟨_, _, rfl, rfl, H⟩
              · have H := H.2 hc86
                refine ax_aload_n (pc' := 90) dX5_appetiteOf_89 rfl rfl ?_
                refine ax_getI (pc' := 93) dX5_appetiteOf_90 fl_X5_33 (md_0 hm) rfl (md_8 hm) rfl ?_
                refine ax_goto (tgt := 105) dX5_appetiteOf_93 (by decide) ?_
                refine ax_aload_n (pc' := 106) dX5_appetiteOf_105 rfl rfl ?_
                refine ax_getR (pc' := 109) dX5_appetiteOf_106 fl_X5_21 (md_0 hm) rfl (md_8 hm) rfl ?_
                refine ax_iload_n (pc' := 110) dX5_appetiteOf_109 rfl rfl ?_
                obtain ⟨hj110, H⟩ := H
                refine ax_iald (pc' := 111) dX5_appetiteOf_110 (md_4 hm) hj110 (md_12 hm) rfl ?_
                refine ax_iload_n (pc' := 112) dX5_appetiteOf_111 rfl rfl ?_
                refine ay_V4 (pc' := 115) (ce' := 0) (sl' := 0) (mc2 := 0) (ms2 := 0) (I2 := i_X4_tellBeast) dX5_appetiteOf_112 ml_X5_129 sh_25 (by decide) rfl rfl rfl rfl rfl rfl rfl rfl rfl (ac_M.imp (o_X4_tellBeast _ (s (a + 2) p1.toNatClampNeg) (s a 9) (s (a + 4) p1.toNatClampNeg) p1 H) ?_)
                rintro _ _ ⟨s112, rfl, rfl, H⟩
                refine ax_aload_n (pc' := 116) dX5_appetiteOf_115 rfl rfl ?_
                refine ax_getR (pc' := 119) dX5_appetiteOf_116 fl_X5_47 (md_0 hm) rfl (md_8 hm) rfl ?_
                refine ax_aload_n (pc' := 120) dX5_appetiteOf_119 rfl rfl ?_
                refine ax_getR (pc' := 123) dX5_appetiteOf_120 fl_X5_9 (md_0 hm) rfl (md_8 hm) rfl ?_
                refine ax_iload_n (pc' := 124) dX5_appetiteOf_123 rfl rfl ?_
                obtain ⟨hj124, H⟩ := H
                refine ax_iald (pc' := 125) dX5_appetiteOf_124 (md_1 hm) hj124 (md_9 hm) rfl ?_
                refine ax_aload_n (pc' := 126) dX5_appetiteOf_125 rfl rfl ?_
                refine ax_getR (pc' := 129) dX5_appetiteOf_126 fl_X5_27 (md_0 hm) rfl (md_8 hm) rfl ?_
                refine ax_iload_n (pc' := 130) dX5_appetiteOf_129 rfl rfl ?_
                obtain ⟨hj130, H⟩ := H
                refine ax_iald (pc' := 131) dX5_appetiteOf_130 (md_6 hm) hj130 (md_14 hm) rfl ?_
                refine ax_iconst (pc' := 132) (v := (1 : Int32)) dX5_appetiteOf_131 (by decide) rfl ?_
                refine ax_isub (pc' := 133) dX5_appetiteOf_132 rfl ?_
                refine ax_iload (pc' := 135) dX5_appetiteOf_133 rfl rfl ?_
                refine ax_aload_n (pc' := 136) dX5_appetiteOf_135 rfl rfl ?_
                refine ax_getI (pc' := 139) dX5_appetiteOf_136 fl_X5_37 (md_0 hm) rfl (md_8 hm) rfl ?_
                refine ay_V4 (pc' := 142) (ce' := 0) (sl' := 0) (mc2 := 0) (ms2 := 0) (I2 := i_X4_tellPlace) dX5_appetiteOf_139 ml_X5_135 sh_25 (by decide) rfl rfl rfl rfl rfl rfl rfl rfl rfl (ac_M.imp (o_X4_tellPlace _ (s112 (a + 1) (s (a + 3) p1.toNatClampNeg).toNatClampNeg) ((s112 (a + 6) (s (a + 3) p1.toNatClampNeg).toNatClampNeg) - (1 : Int32)) (0 : Int32) (s112 a 10) H) ?_)
                rintro _ _ ⟨s139, rfl, rfl, H⟩
                refine ax_aload_n (pc' := 143) dX5_appetiteOf_142 rfl rfl ?_
                refine ax_getR (pc' := 146) dX5_appetiteOf_143 fl_X5_47 (md_0 hm) rfl (md_8 hm) rfl ?_
                refine ay_V0 (pc' := 149) (ce' := 0) (sl' := 0) (mc2 := 0) (ms2 := 0) (I2 := i_X4_eaten) dX5_appetiteOf_146 ml_X5_138 sh_25 (by decide) rfl rfl rfl rfl rfl rfl rfl rfl rfl (ac_M.imp (o_X4_eaten _  H) ?_)
                rintro _ _ ⟨r146, s146, rfl, rfl, H⟩
                exact ax_iret dX5_appetiteOf_149 rfl rfl rfl ⟨_, _, rfl, rfl, H⟩
        · have H := H.2 hc26
          refine ax_iconst (pc' := 30) (v := (0 : Int32)) dX5_appetiteOf_29 (by decide) rfl ?_
          exact ax_iret dX5_appetiteOf_30 rfl rfl rfl ⟨_, _, rfl, rfl, H⟩
    · have H := H.2 hc7
      refine ax_iconst (pc' := 11) (v := (0 : Int32)) dX5_appetiteOf_10 (by decide) rfl ?_
      exact ax_iret dX5_appetiteOf_11 rfl rfl rfl ⟨_, _, rfl, rfl, H⟩
theorem ol_X5_reckonAppetites_51 {g : ac_G} {τ : Nat → Nat → Int64} (d : Nat) (a : Nat) (hm : is_Md a) {Q : ac_m → Prop}    {x1 : Int32} {s : ac_m} (H : l_X5_reckonAppetites_51 a Q    x1 s) : ac_X g i_X5_reckonAppetites (d + 3) 0 0 (liV τ Q) 0 0 51 [some (.ref a), some (.int x1), none] [] (false, 586, SH, s, τ) := by
  refine H (fun x1 s => ac_X g i_X5_reckonAppetites (d + 3) 0 0 (liV τ Q) 0 0 51 [some (.ref a), some (.int x1), none] [] (false, 586, SH, s, τ)) ?_
  intro x1 s H
  refine ax_iload_n (pc' := 52) dX5_reckonAppetites_51 rfl rfl ?_
  refine ax_bipush (pc' := 54) (v := (13 : Int32)) dX5_reckonAppetites_52 (by decide) rfl ?_
  refine ax_icmp_ge (pc' := 57) (tgt := 87) dX5_reckonAppetites_54 (by decide) rfl (fun hc54 => ?_) (fun hc54 => ?_)
  · have H := H.1 hc54
    exact ax_vret dX5_reckonAppetites_87 rfl rfl rfl ⟨_, rfl, rfl, H⟩
  · have H := H.2 hc54
    refine ax_aload_n (pc' := 58) dX5_reckonAppetites_57 rfl rfl ?_
    refine ax_getR (pc' := 61) dX5_reckonAppetites_58 fl_X5_30 (md_0 hm) rfl (md_8 hm) rfl ?_
    refine ax_iload_n (pc' := 62) dX5_reckonAppetites_61 rfl rfl ?_
    refine ax_aload_n (pc' := 63) dX5_reckonAppetites_62 rfl rfl ?_
    refine ax_getR (pc' := 66) dX5_reckonAppetites_63 fl_X5_15 (md_0 hm) rfl (md_8 hm) rfl ?_
    refine ax_iload_n (pc' := 67) dX5_reckonAppetites_66 rfl rfl ?_
    obtain ⟨hj67, H⟩ := H
    refine ax_iald (pc' := 68) dX5_reckonAppetites_67 (md_2 hm) hj67 (md_10 hm) rfl ?_
    refine ax_if_le (pc' := 71) (tgt := 79) dX5_reckonAppetites_68 (by decide) rfl (fun hc68 => ?_) (fun hc68 => ?_)
    · have H := H.1 hc68
      refine ax_iconst (pc' := 80) (v := (0 : Int32)) dX5_reckonAppetites_79 (by decide) rfl ?_
      obtain ⟨hj80, H⟩ := H
      refine ax_iast (pc' := 81) dX5_reckonAppetites_80 (md_7 hm) hj80 (md_15 hm) rfl ?_
      refine ax_iinc (pc' := 84) (v := (x1 + (1 : Int32))) dX5_reckonAppetites_81 rfl rfl rfl rfl rfl ?_
      refine ax_goto (tgt := 51) dX5_reckonAppetites_84 (by decide) ?_
      exact H
    · have H := H.2 hc68
      refine ax_aload_n (pc' := 72) dX5_reckonAppetites_71 rfl rfl ?_
      refine ax_iload_n (pc' := 73) dX5_reckonAppetites_72 rfl rfl ?_
      refine ay_V1 (pc' := 76) (ce' := 0) (sl' := 0) (mc2 := 0) (ms2 := 0) (I2 := i_X5_appetiteOf) dX5_reckonAppetites_73 ml_X5_120 (md_0 hm) (by decide) (md_8 hm) rfl rfl rfl rfl rfl rfl rfl rfl (ac_M.imp (o_X5_appetiteOf _ a x1 hm H) ?_)
      rintro _ _ ⟨r73, s73, rfl, rfl, H⟩
      refine ax_goto (tgt := 80) dX5_reckonAppetites_76 (by decide) ?_
      obtain ⟨hj80, H⟩ := H
      refine ax_iast (pc' := 81) dX5_reckonAppetites_80 (md_7 hm) hj80 (md_15 hm) rfl ?_
      refine ax_iinc (pc' := 84) (v := (x1 + (1 : Int32))) dX5_reckonAppetites_81 rfl rfl rfl rfl rfl ?_
      refine ax_goto (tgt := 51) dX5_reckonAppetites_84 (by decide) ?_
      exact H
theorem ol_X5_reckonAppetites_10 {g : ac_G} {τ : Nat → Nat → Int64} (d : Nat) (a : Nat) (hm : is_Md a) {Q : ac_m → Prop}    {x1 : Int32} {s : ac_m} (H : l_X5_reckonAppetites_10 a Q    x1 s) : ac_X g i_X5_reckonAppetites (d + 3) 0 0 (liV τ Q) 0 0 10 [some (.ref a), some (.int x1), none] [] (false, 586, SH, s, τ) := by
  refine H (fun x1 s => ac_X g i_X5_reckonAppetites (d + 3) 0 0 (liV τ Q) 0 0 10 [some (.ref a), some (.int x1), none] [] (false, 586, SH, s, τ)) ?_
  intro x1 s H
  refine ax_iload_n (pc' := 11) dX5_reckonAppetites_10 rfl rfl ?_
  refine ax_bipush (pc' := 13) (v := (13 : Int32)) dX5_reckonAppetites_11 (by decide) rfl ?_
  refine ax_icmp_ge (pc' := 16) (tgt := 49) dX5_reckonAppetites_13 (by decide) rfl (fun hc13 => ?_) (fun hc13 => ?_)
  · have H := H.1 hc13
    refine ax_iconst (pc' := 50) (v := (0 : Int32)) dX5_reckonAppetites_49 (by decide) rfl ?_
    refine ax_istore_n (pc' := 51) dX5_reckonAppetites_50 rfl rfl rfl ?_
    refine ol_X5_reckonAppetites_51 d a hm     H
  · have H := H.2 hc13
    refine ax_aload_n (pc' := 17) dX5_reckonAppetites_16 rfl rfl ?_
    refine ax_getR (pc' := 20) dX5_reckonAppetites_17 fl_X5_18 (md_0 hm) rfl (md_8 hm) rfl ?_
    refine ax_iload_n (pc' := 21) dX5_reckonAppetites_20 rfl rfl ?_
    obtain ⟨hj21, H⟩ := H
    refine ax_iald (pc' := 22) dX5_reckonAppetites_21 (md_3 hm) hj21 (md_11 hm) rfl ?_
    refine ax_istore_n (pc' := 23) dX5_reckonAppetites_22 rfl rfl rfl ?_
    refine ax_iload_n (pc' := 24) dX5_reckonAppetites_23 rfl rfl ?_
    refine ax_if_lt (pc' := 27) (tgt := 43) dX5_reckonAppetites_24 (by decide) rfl (fun hc24 => ?_) (fun hc24 => ?_)
    · have H := H.1 hc24
      refine ax_iinc (pc' := 46) (v := (x1 + (1 : Int32))) dX5_reckonAppetites_43 rfl rfl rfl rfl rfl ?_
      refine ax_goto (tgt := 10) dX5_reckonAppetites_46 (by decide) ?_
      refine ax_drop 2 rfl ?_
      exact H
    · have H := H.2 hc24
      refine ax_iload_n (pc' := 28) dX5_reckonAppetites_27 rfl rfl ?_
      refine ax_bipush (pc' := 30) (v := (6 : Int32)) dX5_reckonAppetites_28 (by decide) rfl ?_
      refine ax_icmp_ge (pc' := 33) (tgt := 43) dX5_reckonAppetites_30 (by decide) rfl (fun hc30 => ?_) (fun hc30 => ?_)
      · have H := H.1 hc30
        refine ax_iinc (pc' := 46) (v := (x1 + (1 : Int32))) dX5_reckonAppetites_43 rfl rfl rfl rfl rfl ?_
        refine ax_goto (tgt := 10) dX5_reckonAppetites_46 (by decide) ?_
        refine ax_drop 2 rfl ?_
        exact H
      · have H := H.2 hc30
        refine ax_aload_n (pc' := 34) dX5_reckonAppetites_33 rfl rfl ?_
        refine ax_getR (pc' := 37) dX5_reckonAppetites_34 fl_X5_27 (md_0 hm) rfl (md_8 hm) rfl ?_
        refine ax_iload_n (pc' := 38) dX5_reckonAppetites_37 rfl rfl ?_
        refine ax_dup2 (pc' := 39) dX5_reckonAppetites_38 rfl rfl rfl ?_
        obtain ⟨hj39, H⟩ := H
        refine ax_iald (pc' := 40) dX5_reckonAppetites_39 (md_6 hm) hj39 (md_14 hm) rfl ?_
        refine ax_iconst (pc' := 41) (v := (1 : Int32)) dX5_reckonAppetites_40 (by decide) rfl ?_
        refine ax_iadd (pc' := 42) dX5_reckonAppetites_41 rfl ?_
        obtain ⟨hj42, H⟩ := H
        refine ax_iast (pc' := 43) dX5_reckonAppetites_42 (md_6 hm) hj42 (md_14 hm) rfl ?_
        refine ax_iinc (pc' := 46) (v := (x1 + (1 : Int32))) dX5_reckonAppetites_43 rfl rfl rfl rfl rfl ?_
        refine ax_goto (tgt := 10) dX5_reckonAppetites_46 (by decide) ?_
        refine ax_drop 2 rfl ?_
        exact H
theorem o_X5_reckonAppetites {g : ac_G} {τ : Nat → Nat → Int64} (d : Nat) (a : Nat) (hm : is_Md a) {Q : ac_m → Prop} {s : ac_m} (H : w_X5_reckonAppetites a Q s) : ac_M g i_X5_reckonAppetites (d + 3) 0 0 [.ref a] (false, 586, SH, s, τ) (liV τ Q) := by
  refine ac_ofX (by decide +kernel) rfl rfl rfl ?_
  refine ax_aload_n (pc' := 1) dX5_reckonAppetites_0 rfl rfl ?_
  refine ax_getR (pc' := 4) dX5_reckonAppetites_1 fl_X5_27 (md_0 hm) rfl (md_8 hm) rfl ?_
  refine ax_iconst (pc' := 5) (v := (0 : Int32)) dX5_reckonAppetites_4 (by decide) rfl ?_
  refine ay_S2 (pc' := 8) (ce' := 0) (sl' := 0) (mc2 := 0) (ms2 := 0) (I2 := i_J7_fill_53178) dX5_reckonAppetites_5 ml_X5_51 rfl rfl rfl rfl rfl rfl rfl rfl (ac_M.imp (o_J7_fill_53178 _ (a + 6) 6 (0 : Int32) (md_6 hm) (md_14 hm) H) ?_)
  rintro _ _ ⟨s5, rfl, rfl, H⟩
  refine ax_iconst (pc' := 9) (v := (0 : Int32)) dX5_reckonAppetites_8 (by decide) rfl ?_
  refine ax_istore_n (pc' := 10) dX5_reckonAppetites_9 rfl rfl rfl ?_
  refine ol_X5_reckonAppetites_10 d a hm     H
theorem o_X5_graze {g : ac_G} {τ : Nat → Nat → Int64} (d : Nat) (a : Nat) (p1 : Int32) (hm : is_Md a) {Q : ac_m → Prop} {s : ac_m} (H : w_X5_graze a p1 Q s) : ac_M g i_X5_graze (d + 1) 0 0 [.ref a, .int p1] (false, 586, SH, s, τ) (liV τ Q) := by
  refine ac_ofX (by decide +kernel) rfl rfl rfl ?_
  refine ax_iload_n (pc' := 1) dX5_graze_0 rfl rfl ?_
  refine ax_if_lt (pc' := 4) (tgt := 10) dX5_graze_1 (by decide) rfl (fun hc1 => ?_) (fun hc1 => ?_)
  · have H := H.1 hc1
    exact ax_vret dX5_graze_10 rfl rfl rfl ⟨_, rfl, rfl, H⟩
  · have H := H.2 hc1
    refine ax_iload_n (pc' := 5) dX5_graze_4 rfl rfl ?_
    refine ax_bipush (pc' := 7) (v := (13 : Int32)) dX5_graze_5 (by decide) rfl ?_
    refine ax_icmp_lt (pc' := 10) (tgt := 11) dX5_graze_7 (by decide) rfl (fun hc7 => ?_) (fun hc7 => ?_)
    · have H := H.1 hc7
      refine ax_aload_n (pc' := 12) dX5_graze_11 rfl rfl ?_
      refine ax_getR (pc' := 15) dX5_graze_12 fl_X5_18 (md_0 hm) rfl (md_8 hm) rfl ?_
      refine ax_iload_n (pc' := 16) dX5_graze_15 rfl rfl ?_
      obtain ⟨hj16, H⟩ := H
      refine ax_iald (pc' := 17) dX5_graze_16 (md_3 hm) hj16 (md_11 hm) rfl ?_
      refine ax_istore_n (pc' := 18) dX5_graze_17 rfl rfl rfl ?_
      refine ax_iload_n (pc' := 19) dX5_graze_18 rfl rfl ?_
      refine ax_if_lt (pc' := 22) (tgt := 28) dX5_graze_19 (by decide) rfl (fun hc19 => ?_) (fun hc19 => ?_)
      · have H := H.1 hc19
        exact ax_vret dX5_graze_28 rfl rfl rfl ⟨_, rfl, rfl, H⟩
      · have H := H.2 hc19
        refine ax_iload_n (pc' := 23) dX5_graze_22 rfl rfl ?_
        refine ax_bipush (pc' := 25) (v := (6 : Int32)) dX5_graze_23 (by decide) rfl ?_
        refine ax_icmp_lt (pc' := 28) (tgt := 29) dX5_graze_25 (by decide) rfl (fun hc25 => ?_) (fun hc25 => ?_)
        · have H := H.1 hc25
          refine ax_aload_n (pc' := 30) dX5_graze_29 rfl rfl ?_
          refine ax_getR (pc' := 33) dX5_graze_30 fl_X5_30 (md_0 hm) rfl (md_8 hm) rfl ?_
          refine ax_iload_n (pc' := 34) dX5_graze_33 rfl rfl ?_
          obtain ⟨hj34, H⟩ := H
          refine ax_iald (pc' := 35) dX5_graze_34 (md_7 hm) hj34 (md_15 hm) rfl ?_
          refine ax_aload_n (pc' := 36) dX5_graze_35 rfl rfl ?_
          refine ax_getR (pc' := 39) dX5_graze_36 fl_X5_9 (md_0 hm) rfl (md_8 hm) rfl ?_
          refine ax_iload_n (pc' := 40) dX5_graze_39 rfl rfl ?_
          obtain ⟨hj40, H⟩ := H
          refine ax_iald (pc' := 41) dX5_graze_40 (md_1 hm) hj40 (md_9 hm) rfl ?_
          refine ax_min (pc' := 44) dX5_graze_41 mj_X5_98 mk_min.1 mk_min.2.1 mk_min.2.2 rfl rfl rfl rfl ?_
          refine ax_topi (fun y44 hy44 => ?_)
          have H := H y44 hy44
          refine ax_istore_n (pc' := 45) dX5_graze_44 rfl rfl rfl ?_
          refine ax_aload_n (pc' := 46) dX5_graze_45 rfl rfl ?_
          refine ax_getR (pc' := 49) dX5_graze_46 fl_X5_9 (md_0 hm) rfl (md_8 hm) rfl ?_
          refine ax_iload_n (pc' := 50) dX5_graze_49 rfl rfl ?_
          refine ax_dup2 (pc' := 51) dX5_graze_50 rfl rfl rfl ?_
          obtain ⟨hj51, H⟩ := H
          refine ax_iald (pc' := 52) dX5_graze_51 (md_1 hm) hj51 (md_9 hm) rfl ?_
          refine ax_iload_n (pc' := 53) dX5_graze_52 rfl rfl ?_
          refine ax_isub (pc' := 54) dX5_graze_53 rfl ?_
          obtain ⟨hj54, H⟩ := H
          refine ax_iast (pc' := 55) dX5_graze_54 (md_1 hm) hj54 (md_9 hm) rfl ?_
          refine ax_aload_n (pc' := 56) dX5_graze_55 rfl rfl ?_
          refine ax_getR (pc' := 59) dX5_graze_56 fl_X5_15 (md_0 hm) rfl (md_8 hm) rfl ?_
          refine ax_iload_n (pc' := 60) dX5_graze_59 rfl rfl ?_
          refine ax_dup2 (pc' := 61) dX5_graze_60 rfl rfl rfl ?_
          obtain ⟨hj61, H⟩ := H
          refine ax_iald (pc' := 62) dX5_graze_61 (md_2 hm) hj61 (md_10 hm) rfl ?_
          refine ax_aload_n (pc' := 63) dX5_graze_62 rfl rfl ?_
          refine ax_getR (pc' := 66) dX5_graze_63 fl_X5_30 (md_0 hm) rfl (md_8 hm) rfl ?_
          refine ax_iload_n (pc' := 67) dX5_graze_66 rfl rfl ?_
          obtain ⟨hj67, H⟩ := H
          refine ax_iald (pc' := 68) dX5_graze_67 (md_7 hm) hj67 (md_15 hm) rfl ?_
          refine ax_iload_n (pc' := 69) dX5_graze_68 rfl rfl ?_
          refine ax_isub (pc' := 70) dX5_graze_69 rfl ?_
          refine ax_isub (pc' := 71) dX5_graze_70 rfl ?_
          obtain ⟨hj71, H⟩ := H
          refine ax_iast (pc' := 72) dX5_graze_71 (md_2 hm) hj71 (md_10 hm) rfl ?_
          refine ax_aload_n (pc' := 73) dX5_graze_72 rfl rfl ?_
          refine ax_getR (pc' := 76) dX5_graze_73 fl_X5_21 (md_0 hm) rfl (md_8 hm) rfl ?_
          refine ax_iload_n (pc' := 77) dX5_graze_76 rfl rfl ?_
          refine ax_dup2 (pc' := 78) dX5_graze_77 rfl rfl rfl ?_
          obtain ⟨hj78, H⟩ := H
          refine ax_iald (pc' := 79) dX5_graze_78 (md_4 hm) hj78 (md_12 hm) rfl ?_
          refine ax_iconst (pc' := 80) (v := (1 : Int32)) dX5_graze_79 (by decide) rfl ?_
          refine ax_iadd (pc' := 81) dX5_graze_80 rfl ?_
          obtain ⟨hj81, H⟩ := H
          refine ax_iast (pc' := 82) dX5_graze_81 (md_4 hm) hj81 (md_12 hm) rfl ?_
          refine ax_aload_n (pc' := 83) dX5_graze_82 rfl rfl ?_
          refine ax_getR (pc' := 86) dX5_graze_83 fl_X5_15 (md_0 hm) rfl (md_8 hm) rfl ?_
          refine ax_iload_n (pc' := 87) dX5_graze_86 rfl rfl ?_
          obtain ⟨hj87, H⟩ := H
          refine ax_iald (pc' := 88) dX5_graze_87 (md_2 hm) hj87 (md_10 hm) rfl ?_
          refine ax_if_gt (pc' := 91) (tgt := 106) dX5_graze_88 (by decide) rfl (fun hc88 => ?_) (fun hc88 => ?_)
          · have H := H.1 hc88
            exact ax_vret dX5_graze_106 rfl rfl rfl ⟨_, rfl, rfl, H⟩
          · have H := H.2 hc88
            refine ax_aload_n (pc' := 92) dX5_graze_91 rfl rfl ?_
            refine ax_iload_n (pc' := 93) dX5_graze_92 rfl rfl ?_
            refine ay_V1 (pc' := 96) (ce' := 0) (sl' := 0) (mc2 := 0) (ms2 := 0) (I2 := i_X5_remove) dX5_graze_93 ml_X5_66 (md_0 hm) (by decide) (md_8 hm) rfl rfl rfl rfl rfl rfl rfl rfl (ac_M.imp (o_X5_remove _ a p1 hm H) ?_)
            rintro _ _ ⟨s93, rfl, rfl, H⟩
            refine ax_aload_n (pc' := 97) dX5_graze_96 rfl rfl ?_
            refine ax_dup (pc' := 98) dX5_graze_97 rfl rfl ?_
            refine ax_getI (pc' := 101) dX5_graze_98 fl_X5_40 (md_0 hm) rfl (md_8 hm) rfl ?_
            refine ax_iconst (pc' := 102) (v := (1 : Int32)) dX5_graze_101 (by decide) rfl ?_
            refine ax_iadd (pc' := 103) dX5_graze_102 rfl ?_
            refine ax_putI (pc' := 106) dX5_graze_103 fp_X5_40 (md_0 hm) rfl (md_8 hm) rfl ?_
            exact ax_vret dX5_graze_106 rfl rfl rfl ⟨_, rfl, rfl, H⟩
        · have H := H.2 hc25
          exact ax_vret dX5_graze_28 rfl rfl rfl ⟨_, rfl, rfl, H⟩
    · have H := H.2 hc7
      exact ax_vret dX5_graze_10 rfl rfl rfl ⟨_, rfl, rfl, H⟩
theorem ol_X5_passDay_34 {g : ac_G} {τ : Nat → Nat → Int64} (d : Nat) (a : Nat) (hm : is_Md a) {Q : ac_m → Prop}    {x1 : Int32} {s : ac_m} (H : l_X5_passDay_34 a Q    x1 s) : ac_X g i_X5_passDay (d + 4) 0 0 (liV τ Q) 0 0 34 [some (.ref a), some (.int x1)] [] (false, 586, SH, s, τ) := by
  refine H (fun x1 s => ac_X g i_X5_passDay (d + 4) 0 0 (liV τ Q) 0 0 34 [some (.ref a), some (.int x1)] [] (false, 586, SH, s, τ)) ?_
  intro x1 s H
  refine ax_iload_n (pc' := 35) dX5_passDay_34 rfl rfl ?_
  refine ax_bipush (pc' := 37) (v := (6 : Int32)) dX5_passDay_35 (by decide) rfl ?_
  refine ax_icmp_ge (pc' := 40) (tgt := 73) dX5_passDay_37 (by decide) rfl (fun hc37 => ?_) (fun hc37 => ?_)
  · have H := H.1 hc37
    refine ax_aload_n (pc' := 74) dX5_passDay_73 rfl rfl ?_
    refine ax_dup (pc' := 75) dX5_passDay_74 rfl rfl ?_
    refine ax_getI (pc' := 78) dX5_passDay_75 fl_X5_37 (md_0 hm) rfl (md_8 hm) rfl ?_
    refine ax_iconst (pc' := 79) (v := (1 : Int32)) dX5_passDay_78 (by decide) rfl ?_
    refine ax_iadd (pc' := 80) dX5_passDay_79 rfl ?_
    refine ax_putI (pc' := 83) dX5_passDay_80 fp_X5_37 (md_0 hm) rfl (md_8 hm) rfl ?_
    exact ax_vret dX5_passDay_83 rfl rfl rfl ⟨_, rfl, rfl, H⟩
  · have H := H.2 hc37
    refine ax_aload_n (pc' := 41) dX5_passDay_40 rfl rfl ?_
    refine ax_getR (pc' := 44) dX5_passDay_41 fl_X5_9 (md_0 hm) rfl (md_8 hm) rfl ?_
    refine ax_iload_n (pc' := 45) dX5_passDay_44 rfl rfl ?_
    refine ax_bipush (pc' := 47) (v := (99 : Int32)) dX5_passDay_45 (by decide) rfl ?_
    refine ax_aload_n (pc' := 48) dX5_passDay_47 rfl rfl ?_
    refine ax_getR (pc' := 51) dX5_passDay_48 fl_X5_9 (md_0 hm) rfl (md_8 hm) rfl ?_
    refine ax_iload_n (pc' := 52) dX5_passDay_51 rfl rfl ?_
    obtain ⟨hj52, H⟩ := H
    refine ax_iald (pc' := 53) dX5_passDay_52 (md_1 hm) hj52 (md_9 hm) rfl ?_
    refine ax_aload_n (pc' := 54) dX5_passDay_53 rfl rfl ?_
    refine ax_getR (pc' := 57) dX5_passDay_54 fl_X5_43 (md_0 hm) rfl (md_8 hm) rfl ?_
    refine ax_getR (pc' := 60) dX5_passDay_57 fl_X5_117 sh_3 rfl rfl rfl ?_
    refine ax_iload_n (pc' := 61) dX5_passDay_60 rfl rfl ?_
    obtain ⟨hj61, H⟩ := H
    refine ax_iald (pc' := 62) dX5_passDay_61 sh_5 hj61 rfl rfl ?_
    refine ax_iadd (pc' := 63) dX5_passDay_62 rfl ?_
    refine ax_min (pc' := 66) dX5_passDay_63 mj_X5_98 mk_min.1 mk_min.2.1 mk_min.2.2 rfl rfl rfl rfl ?_
    obtain ⟨hj66, H⟩ := H
    refine ax_iast (pc' := 67) dX5_passDay_66 (md_1 hm) hj66 (md_9 hm) rfl ?_
    refine ax_iinc (pc' := 70) (v := (x1 + (1 : Int32))) dX5_passDay_67 rfl rfl rfl rfl rfl ?_
    refine ax_goto (tgt := 34) dX5_passDay_70 (by decide) ?_
    exact H
theorem ol_X5_passDay_6 {g : ac_G} {τ : Nat → Nat → Int64} (d : Nat) (a : Nat) (hm : is_Md a) {Q : ac_m → Prop}    {x1 : Int32} {s : ac_m} (H : l_X5_passDay_6 a Q    x1 s) : ac_X g i_X5_passDay (d + 4) 0 0 (liV τ Q) 0 0 6 [some (.ref a), some (.int x1)] [] (false, 586, SH, s, τ) := by
  refine H (fun x1 s => ac_X g i_X5_passDay (d + 4) 0 0 (liV τ Q) 0 0 6 [some (.ref a), some (.int x1)] [] (false, 586, SH, s, τ)) ?_
  intro x1 s H
  refine ax_iload_n (pc' := 7) dX5_passDay_6 rfl rfl ?_
  refine ax_bipush (pc' := 9) (v := (13 : Int32)) dX5_passDay_7 (by decide) rfl ?_
  refine ax_icmp_ge (pc' := 12) (tgt := 32) dX5_passDay_9 (by decide) rfl (fun hc9 => ?_) (fun hc9 => ?_)
  · have H := H.1 hc9
    refine ax_iconst (pc' := 33) (v := (0 : Int32)) dX5_passDay_32 (by decide) rfl ?_
    refine ax_istore_n (pc' := 34) dX5_passDay_33 rfl rfl rfl ?_
    refine ol_X5_passDay_34 d a hm     H
  · have H := H.2 hc9
    refine ax_aload_n (pc' := 13) dX5_passDay_12 rfl rfl ?_
    refine ax_getR (pc' := 16) dX5_passDay_13 fl_X5_15 (md_0 hm) rfl (md_8 hm) rfl ?_
    refine ax_iload_n (pc' := 17) dX5_passDay_16 rfl rfl ?_
    obtain ⟨hj17, H⟩ := H
    refine ax_iald (pc' := 18) dX5_passDay_17 (md_2 hm) hj17 (md_10 hm) rfl ?_
    refine ax_if_le (pc' := 21) (tgt := 26) dX5_passDay_18 (by decide) rfl (fun hc18 => ?_) (fun hc18 => ?_)
    · have H := H.1 hc18
      refine ax_iinc (pc' := 29) (v := (x1 + (1 : Int32))) dX5_passDay_26 rfl rfl rfl rfl rfl ?_
      refine ax_goto (tgt := 6) dX5_passDay_29 (by decide) ?_
      exact H
    · have H := H.2 hc18
      refine ax_aload_n (pc' := 22) dX5_passDay_21 rfl rfl ?_
      refine ax_iload_n (pc' := 23) dX5_passDay_22 rfl rfl ?_
      refine ay_V1 (pc' := 26) (ce' := 0) (sl' := 0) (mc2 := 0) (ms2 := 0) (I2 := i_X5_graze) dX5_passDay_23 ml_X5_114 (md_0 hm) (by decide) (md_8 hm) rfl rfl rfl rfl rfl rfl rfl rfl (ac_M.imp (o_X5_graze _ a x1 hm H) ?_)
      rintro _ _ ⟨s23, rfl, rfl, H⟩
      refine ax_iinc (pc' := 29) (v := (x1 + (1 : Int32))) dX5_passDay_26 rfl rfl rfl rfl rfl ?_
      refine ax_goto (tgt := 6) dX5_passDay_29 (by decide) ?_
      exact H
theorem o_X5_passDay {g : ac_G} {τ : Nat → Nat → Int64} (d : Nat) (a : Nat) (hm : is_Md a) {Q : ac_m → Prop} {s : ac_m} (H : w_X5_passDay a Q s) : ac_M g i_X5_passDay (d + 4) 0 0 [.ref a] (false, 586, SH, s, τ) (liV τ Q) := by
  refine ac_ofX (by decide +kernel) rfl rfl rfl ?_
  refine ax_aload_n (pc' := 1) dX5_passDay_0 rfl rfl ?_
  refine ay_V0 (pc' := 4) (ce' := 0) (sl' := 0) (mc2 := 0) (ms2 := 0) (I2 := i_X5_reckonAppetites) dX5_passDay_1 ml_X5_111 (md_0 hm) (by decide) (md_8 hm) rfl rfl rfl rfl rfl rfl rfl rfl (ac_M.imp (o_X5_reckonAppetites _ a hm H) ?_)
  rintro _ _ ⟨s1, rfl, rfl, H⟩
  refine ax_iconst (pc' := 5) (v := (0 : Int32)) dX5_passDay_4 (by decide) rfl ?_
  refine ax_istore_n (pc' := 6) dX5_passDay_5 rfl rfl rfl ?_
  refine ol_X5_passDay_6 d a hm     H
theorem ol_X5_keepOnly_2 {g : ac_G} {τ : Nat → Nat → Int64} (d : Nat) (p1 : Int32) {Q : ac_m → Prop}  (f1 : Int32)  {x2 : Int32} {s : ac_m} (H : l_X5_keepOnly_2 p1 Q  f1  x2 s) : ac_X g i_X5_keepOnly (d + 1) 0 0 (liV τ Q) 0 0 2 [some (.ref 50), some (.int f1), some (.int x2)] [] (false, 586, SH, s, τ) := by
  refine H (fun x2 s => ac_X g i_X5_keepOnly (d + 1) 0 0 (liV τ Q) 0 0 2 [some (.ref 50), some (.int f1), some (.int x2)] [] (false, 586, SH, s, τ)) ?_
  intro x2 s H
  refine ax_iload_n (pc' := 3) dX5_keepOnly_2 rfl rfl ?_
  refine ax_bipush (pc' := 5) (v := (13 : Int32)) dX5_keepOnly_3 (by decide) rfl ?_
  refine ax_icmp_ge (pc' := 8) (tgt := 29) dX5_keepOnly_5 (by decide) rfl (fun hc5 => ?_) (fun hc5 => ?_)
  · have H := H.1 hc5
    exact ax_vret dX5_keepOnly_29 rfl rfl rfl ⟨_, rfl, rfl, H⟩
  · have H := H.2 hc5
    refine ax_aload_n (pc' := 9) dX5_keepOnly_8 rfl rfl ?_
    refine ax_getR (pc' := 12) dX5_keepOnly_9 fl_X5_18 sh_50 rfl rfl rfl ?_
    refine ax_iload_n (pc' := 13) dX5_keepOnly_12 rfl rfl ?_
    obtain ⟨hj13, H⟩ := H
    refine ax_iald (pc' := 14) dX5_keepOnly_13 sh_53 hj13 rfl rfl ?_
    refine ax_iload_n (pc' := 15) dX5_keepOnly_14 rfl rfl ?_
    refine ax_icmp_eq (pc' := 18) (tgt := 23) dX5_keepOnly_15 (by decide) rfl (fun hc15 => ?_) (fun hc15 => ?_)
    · have H := H.1 hc15
      refine ax_iinc (pc' := 26) (v := (x2 + (1 : Int32))) dX5_keepOnly_23 rfl rfl rfl rfl rfl ?_
      refine ax_goto (tgt := 2) dX5_keepOnly_26 (by decide) ?_
      exact H
    · have H := H.2 hc15
      refine ax_aload_n (pc' := 19) dX5_keepOnly_18 rfl rfl ?_
      refine ax_iload_n (pc' := 20) dX5_keepOnly_19 rfl rfl ?_
      refine ay_V1 (pc' := 23) (ce' := 0) (sl' := 0) (mc2 := 0) (ms2 := 0) (I2 := i_X5_remove) dX5_keepOnly_20 ml_X5_66 sh_50 (by decide) rfl rfl rfl rfl rfl rfl rfl rfl rfl (ac_M.imp (o_X5_remove _ 50 x2 is_trial H) ?_)
      rintro _ _ ⟨s20, rfl, rfl, H⟩
      refine ax_iinc (pc' := 26) (v := (x2 + (1 : Int32))) dX5_keepOnly_23 rfl rfl rfl rfl rfl ?_
      refine ax_goto (tgt := 2) dX5_keepOnly_26 (by decide) ?_
      exact H
theorem o_X5_keepOnly {g : ac_G} {τ : Nat → Nat → Int64} (d : Nat) (p1 : Int32) {Q : ac_m → Prop} {s : ac_m} (H : w_X5_keepOnly p1 Q s) : ac_M g i_X5_keepOnly (d + 1) 0 0 [.ref 50, .int p1] (false, 586, SH, s, τ) (liV τ Q) := by
  refine ac_ofX (by decide +kernel) rfl rfl rfl ?_
  refine ax_iconst (pc' := 1) (v := (0 : Int32)) dX5_keepOnly_0 (by decide) rfl ?_
  refine ax_istore_n (pc' := 2) dX5_keepOnly_1 rfl rfl rfl ?_
  refine ol_X5_keepOnly_2 d p1  _    H
theorem o_X5_addStranger {g : ac_G} {τ : Nat → Nat → Int64} (d : Nat) (p1 : Int32) (p2 : Int32) (p3 : Int32) {Q : ac_m → Prop} {s : ac_m} (H : w_X5_addStranger p1 p2 p3 Q s) : ac_M g i_X5_addStranger d 0 0 [.ref 50, .int p1, .int p2, .int p3] (false, 586, SH, s, τ) (liV τ Q) := by
  refine ac_ofX (by decide +kernel) rfl rfl rfl ?_
  refine ax_aload_n (pc' := 1) dX5_addStranger_0 rfl rfl ?_
  refine ax_getR (pc' := 4) dX5_addStranger_1 fl_X5_15 sh_50 rfl rfl rfl ?_
  refine ax_bipush (pc' := 6) (v := (12 : Int32)) dX5_addStranger_4 (by decide) rfl ?_
  refine ax_iload_n (pc' := 7) dX5_addStranger_6 rfl rfl ?_
  refine ax_iast (pc' := 8) dX5_addStranger_7 sh_52 (ac_in (by decide)) rfl rfl ?_
  refine ax_aload_n (pc' := 9) dX5_addStranger_8 rfl rfl ?_
  refine ax_getR (pc' := 12) dX5_addStranger_9 fl_X5_18 sh_50 rfl rfl rfl ?_
  refine ax_bipush (pc' := 14) (v := (12 : Int32)) dX5_addStranger_12 (by decide) rfl ?_
  refine ax_iload_n (pc' := 15) dX5_addStranger_14 rfl rfl ?_
  refine ax_iast (pc' := 16) dX5_addStranger_15 sh_53 (ac_in (by decide)) rfl rfl ?_
  refine ax_aload_n (pc' := 17) dX5_addStranger_16 rfl rfl ?_
  refine ax_getR (pc' := 20) dX5_addStranger_17 fl_X5_21 sh_50 rfl rfl rfl ?_
  refine ax_bipush (pc' := 22) (v := (12 : Int32)) dX5_addStranger_20 (by decide) rfl ?_
  refine ax_iconst (pc' := 23) (v := (0 : Int32)) dX5_addStranger_22 (by decide) rfl ?_
  refine ax_iast (pc' := 24) dX5_addStranger_23 sh_54 (ac_in (by decide)) rfl rfl ?_
  refine ax_aload_n (pc' := 25) dX5_addStranger_24 rfl rfl ?_
  refine ax_iload_n (pc' := 26) dX5_addStranger_25 rfl rfl ?_
  refine ax_putI (pc' := 29) dX5_addStranger_26 fp_X5_33 sh_50 rfl rfl rfl ?_
  exact ax_vret dX5_addStranger_29 rfl rfl rfl ⟨_, rfl, rfl, H⟩
theorem o_X5_pastureOf {g : ac_G} {τ : Nat → Nat → Int64} (d : Nat) (a : Nat) (p1 : Int32) (hm : is_Md a) {Q : Int32 → ac_m → Prop} {s : ac_m} (H : w_X5_pastureOf a p1 Q s) : ac_M g i_X5_pastureOf (d + 1) 0 0 [.ref a, .int p1] (false, 586, SH, s, τ) (liI τ Q) := by
  refine ac_ofX (by decide +kernel) rfl rfl rfl ?_
  refine ax_aload_n (pc' := 1) dX5_pastureOf_0 rfl rfl ?_
  refine ax_iload_n (pc' := 2) dX5_pastureOf_1 rfl rfl ?_
  refine ay_V1 (pc' := 5) (ce' := 0) (sl' := 0) (mc2 := 0) (ms2 := 0) (I2 := i_X5_isThere) dX5_pastureOf_2 ml_X5_74 (md_0 hm) (by decide) (md_8 hm) rfl rfl rfl rfl rfl rfl rfl rfl (ac_M.imp (o_X5_isThere _ a p1 hm H) ?_)
  rintro _ _ ⟨r2, s2, rfl, rfl, H⟩
  refine ax_if_eq (pc' := 8) (tgt := 17) dX5_pastureOf_5 (by decide) rfl (fun hc5 => ?_) (fun hc5 => ?_)
  · have H := H.1 hc5
    refine ax_iconst (pc' := 18) (v := (-1 : Int32)) dX5_pastureOf_17 (by decide) rfl ?_
    exact ax_iret dX5_pastureOf_18 rfl rfl rfl ⟨_, _, rfl, rfl, H⟩
  · have H := H.2 hc5
    refine ax_aload_n (pc' := 9) dX5_pastureOf_8 rfl rfl ?_
    refine ax_getR (pc' := 12) dX5_pastureOf_9 fl_X5_18 (md_0 hm) rfl (md_8 hm) rfl ?_
    refine ax_iload_n (pc' := 13) dX5_pastureOf_12 rfl rfl ?_
    obtain ⟨hj13, H⟩ := H
    refine ax_iald (pc' := 14) dX5_pastureOf_13 (md_3 hm) hj13 (md_11 hm) rfl ?_
    refine ax_goto (tgt := 18) dX5_pastureOf_14 (by decide) ?_
    exact ax_iret dX5_pastureOf_18 rfl rfl rfl ⟨_, _, rfl, rfl, H⟩
theorem o_X5_ageOf {g : ac_G} {τ : Nat → Nat → Int64} (d : Nat) (a : Nat) (p1 : Int32) (hm : is_Md a) {Q : Int32 → ac_m → Prop} {s : ac_m} (H : w_X5_ageOf a p1 Q s) : ac_M g i_X5_ageOf (d + 1) 0 0 [.ref a, .int p1] (false, 586, SH, s, τ) (liI τ Q) := by
  refine ac_ofX (by decide +kernel) rfl rfl rfl ?_
  refine ax_aload_n (pc' := 1) dX5_ageOf_0 rfl rfl ?_
  refine ax_iload_n (pc' := 2) dX5_ageOf_1 rfl rfl ?_
  refine ay_V1 (pc' := 5) (ce' := 0) (sl' := 0) (mc2 := 0) (ms2 := 0) (I2 := i_X5_isThere) dX5_ageOf_2 ml_X5_74 (md_0 hm) (by decide) (md_8 hm) rfl rfl rfl rfl rfl rfl rfl rfl (ac_M.imp (o_X5_isThere _ a p1 hm H) ?_)
  rintro _ _ ⟨r2, s2, rfl, rfl, H⟩
  refine ax_if_eq (pc' := 8) (tgt := 17) dX5_ageOf_5 (by decide) rfl (fun hc5 => ?_) (fun hc5 => ?_)
  · have H := H.1 hc5
    refine ax_iconst (pc' := 18) (v := (0 : Int32)) dX5_ageOf_17 (by decide) rfl ?_
    exact ax_iret dX5_ageOf_18 rfl rfl rfl ⟨_, _, rfl, rfl, H⟩
  · have H := H.2 hc5
    refine ax_aload_n (pc' := 9) dX5_ageOf_8 rfl rfl ?_
    refine ax_getR (pc' := 12) dX5_ageOf_9 fl_X5_21 (md_0 hm) rfl (md_8 hm) rfl ?_
    refine ax_iload_n (pc' := 13) dX5_ageOf_12 rfl rfl ?_
    obtain ⟨hj13, H⟩ := H
    refine ax_iald (pc' := 14) dX5_ageOf_13 (md_4 hm) hj13 (md_12 hm) rfl ?_
    refine ax_goto (tgt := 18) dX5_ageOf_14 (by decide) ?_
    exact ax_iret dX5_ageOf_18 rfl rfl rfl ⟨_, _, rfl, rfl, H⟩
theorem o_X5_grassOf {g : ac_G} {τ : Nat → Nat → Int64} (d : Nat) (a : Nat) (p1 : Int32) (hm : is_Md a) {Q : Int32 → ac_m → Prop} {s : ac_m} (H : w_X5_grassOf a p1 Q s) : ac_M g i_X5_grassOf d 0 0 [.ref a, .int p1] (false, 586, SH, s, τ) (liI τ Q) := by
  refine ac_ofX (by decide +kernel) rfl rfl rfl ?_
  refine ax_iload_n (pc' := 1) dX5_grassOf_0 rfl rfl ?_
  refine ax_if_lt (pc' := 4) (tgt := 19) dX5_grassOf_1 (by decide) rfl (fun hc1 => ?_) (fun hc1 => ?_)
  · have H := H.1 hc1
    refine ax_iconst (pc' := 20) (v := (0 : Int32)) dX5_grassOf_19 (by decide) rfl ?_
    exact ax_iret dX5_grassOf_20 rfl rfl rfl ⟨_, _, rfl, rfl, H⟩
  · have H := H.2 hc1
    refine ax_iload_n (pc' := 5) dX5_grassOf_4 rfl rfl ?_
    refine ax_bipush (pc' := 7) (v := (6 : Int32)) dX5_grassOf_5 (by decide) rfl ?_
    refine ax_icmp_ge (pc' := 10) (tgt := 19) dX5_grassOf_7 (by decide) rfl (fun hc7 => ?_) (fun hc7 => ?_)
    · have H := H.1 hc7
      refine ax_iconst (pc' := 20) (v := (0 : Int32)) dX5_grassOf_19 (by decide) rfl ?_
      exact ax_iret dX5_grassOf_20 rfl rfl rfl ⟨_, _, rfl, rfl, H⟩
    · have H := H.2 hc7
      refine ax_aload_n (pc' := 11) dX5_grassOf_10 rfl rfl ?_
      refine ax_getR (pc' := 14) dX5_grassOf_11 fl_X5_9 (md_0 hm) rfl (md_8 hm) rfl ?_
      refine ax_iload_n (pc' := 15) dX5_grassOf_14 rfl rfl ?_
      obtain ⟨hj15, H⟩ := H
      refine ax_iald (pc' := 16) dX5_grassOf_15 (md_1 hm) hj15 (md_9 hm) rfl ?_
      refine ax_goto (tgt := 20) dX5_grassOf_16 (by decide) ?_
      exact ax_iret dX5_grassOf_20 rfl rfl rfl ⟨_, _, rfl, rfl, H⟩
theorem ol_X5_thereBits_4 {g : ac_G} {τ : Nat → Nat → Int64} (d : Nat) (a : Nat) (hm : is_Md a) {Q : Int32 → ac_m → Prop}    {x1 : Int32} {x2 : Int32} {s : ac_m} (H : l_X5_thereBits_4 a Q    x1 x2 s) : ac_X g i_X5_thereBits d 0 0 (liI τ Q) 0 0 4 [some (.ref a), some (.int x1), some (.int x2)] [] (false, 586, SH, s, τ) := by
  refine H (fun x1 x2 s => ac_X g i_X5_thereBits d 0 0 (liI τ Q) 0 0 4 [some (.ref a), some (.int x1), some (.int x2)] [] (false, 586, SH, s, τ)) ?_
  intro x1 x2 s H
  refine ax_iload_n (pc' := 5) dX5_thereBits_4 rfl rfl ?_
  refine ax_bipush (pc' := 7) (v := (12 : Int32)) dX5_thereBits_5 (by decide) rfl ?_
  refine ax_icmp_ge (pc' := 10) (tgt := 31) dX5_thereBits_7 (by decide) rfl (fun hc7 => ?_) (fun hc7 => ?_)
  · have H := H.1 hc7
    refine ax_iload_n (pc' := 32) dX5_thereBits_31 rfl rfl ?_
    exact ax_iret dX5_thereBits_32 rfl rfl rfl ⟨_, _, rfl, rfl, H⟩
  · have H := H.2 hc7
    refine ax_aload_n (pc' := 11) dX5_thereBits_10 rfl rfl ?_
    refine ax_getR (pc' := 14) dX5_thereBits_11 fl_X5_15 (md_0 hm) rfl (md_8 hm) rfl ?_
    refine ax_iload_n (pc' := 15) dX5_thereBits_14 rfl rfl ?_
    obtain ⟨hj15, H⟩ := H
    refine ax_iald (pc' := 16) dX5_thereBits_15 (md_2 hm) hj15 (md_10 hm) rfl ?_
    refine ax_if_le (pc' := 19) (tgt := 25) dX5_thereBits_16 (by decide) rfl (fun hc16 => ?_) (fun hc16 => ?_)
    · have H := H.1 hc16
      refine ax_iinc (pc' := 28) (v := (x2 + (1 : Int32))) dX5_thereBits_25 rfl rfl rfl rfl rfl ?_
      refine ax_goto (tgt := 4) dX5_thereBits_28 (by decide) ?_
      exact H
    · have H := H.2 hc16
      refine ax_iload_n (pc' := 20) dX5_thereBits_19 rfl rfl ?_
      refine ax_iconst (pc' := 21) (v := (1 : Int32)) dX5_thereBits_20 (by decide) rfl ?_
      refine ax_iload_n (pc' := 22) dX5_thereBits_21 rfl rfl ?_
      refine ax_ishl (pc' := 23) dX5_thereBits_22 rfl ?_
      refine ax_ior (pc' := 24) dX5_thereBits_23 rfl ?_
      refine ax_istore_n (pc' := 25) dX5_thereBits_24 rfl rfl rfl ?_
      refine ax_iinc (pc' := 28) (v := (x2 + (1 : Int32))) dX5_thereBits_25 rfl rfl rfl rfl rfl ?_
      refine ax_goto (tgt := 4) dX5_thereBits_28 (by decide) ?_
      exact H
theorem o_X5_thereBits {g : ac_G} {τ : Nat → Nat → Int64} (d : Nat) (a : Nat) (hm : is_Md a) {Q : Int32 → ac_m → Prop} {s : ac_m} (H : w_X5_thereBits a Q s) : ac_M g i_X5_thereBits d 0 0 [.ref a] (false, 586, SH, s, τ) (liI τ Q) := by
  refine ac_ofX (by decide +kernel) rfl rfl rfl ?_
  refine ax_iconst (pc' := 1) (v := (0 : Int32)) dX5_thereBits_0 (by decide) rfl ?_
  refine ax_istore_n (pc' := 2) dX5_thereBits_1 rfl rfl rfl ?_
  refine ax_iconst (pc' := 3) (v := (0 : Int32)) dX5_thereBits_2 (by decide) rfl ?_
  refine ax_istore_n (pc' := 4) dX5_thereBits_3 rfl rfl rfl ?_
  refine ol_X5_thereBits_4 d a hm     H
theorem ol_X5_grazingBits_4 {g : ac_G} {τ : Nat → Nat → Int64} (d : Nat) (a : Nat) (p1 : Int32) (hm : is_Md a) {Q : Int32 → ac_m → Prop}  (f1 : Int32)  {x2 : Int32} {x3 : Int32} {s : ac_m} (H : l_X5_grazingBits_4 a p1 Q  f1  x2 x3 s) : ac_X g i_X5_grazingBits d 0 0 (liI τ Q) 0 0 4 [some (.ref a), some (.int f1), some (.int x2), some (.int x3)] [] (false, 586, SH, s, τ) := by
  refine H (fun x2 x3 s => ac_X g i_X5_grazingBits d 0 0 (liI τ Q) 0 0 4 [some (.ref a), some (.int f1), some (.int x2), some (.int x3)] [] (false, 586, SH, s, τ)) ?_
  intro x2 x3 s H
  refine ax_iload_n (pc' := 5) dX5_grazingBits_4 rfl rfl ?_
  refine ax_bipush (pc' := 7) (v := (12 : Int32)) dX5_grazingBits_5 (by decide) rfl ?_
  refine ax_icmp_ge (pc' := 10) (tgt := 41) dX5_grazingBits_7 (by decide) rfl (fun hc7 => ?_) (fun hc7 => ?_)
  · have H := H.1 hc7
    refine ax_iload_n (pc' := 42) dX5_grazingBits_41 rfl rfl ?_
    exact ax_iret dX5_grazingBits_42 rfl rfl rfl ⟨_, _, rfl, rfl, H⟩
  · have H := H.2 hc7
    refine ax_aload_n (pc' := 11) dX5_grazingBits_10 rfl rfl ?_
    refine ax_getR (pc' := 14) dX5_grazingBits_11 fl_X5_15 (md_0 hm) rfl (md_8 hm) rfl ?_
    refine ax_iload_n (pc' := 15) dX5_grazingBits_14 rfl rfl ?_
    obtain ⟨hj15, H⟩ := H
    refine ax_iald (pc' := 16) dX5_grazingBits_15 (md_2 hm) hj15 (md_10 hm) rfl ?_
    refine ax_if_le (pc' := 19) (tgt := 35) dX5_grazingBits_16 (by decide) rfl (fun hc16 => ?_) (fun hc16 => ?_)
    · have H := H.1 hc16
      refine ax_iinc (pc' := 38) (v := (x3 + (1 : Int32))) dX5_grazingBits_35 rfl rfl rfl rfl rfl ?_
      refine ax_goto (tgt := 4) dX5_grazingBits_38 (by decide) ?_
      exact H
    · have H := H.2 hc16
      refine ax_aload_n (pc' := 20) dX5_grazingBits_19 rfl rfl ?_
      refine ax_getR (pc' := 23) dX5_grazingBits_20 fl_X5_18 (md_0 hm) rfl (md_8 hm) rfl ?_
      refine ax_iload_n (pc' := 24) dX5_grazingBits_23 rfl rfl ?_
      obtain ⟨hj24, H⟩ := H
      refine ax_iald (pc' := 25) dX5_grazingBits_24 (md_3 hm) hj24 (md_11 hm) rfl ?_
      refine ax_iload_n (pc' := 26) dX5_grazingBits_25 rfl rfl ?_
      refine ax_icmp_ne (pc' := 29) (tgt := 35) dX5_grazingBits_26 (by decide) rfl (fun hc26 => ?_) (fun hc26 => ?_)
      · have H := H.1 hc26
        refine ax_iinc (pc' := 38) (v := (x3 + (1 : Int32))) dX5_grazingBits_35 rfl rfl rfl rfl rfl ?_
        refine ax_goto (tgt := 4) dX5_grazingBits_38 (by decide) ?_
        exact H
      · have H := H.2 hc26
        refine ax_iload_n (pc' := 30) dX5_grazingBits_29 rfl rfl ?_
        refine ax_iconst (pc' := 31) (v := (1 : Int32)) dX5_grazingBits_30 (by decide) rfl ?_
        refine ax_iload_n (pc' := 32) dX5_grazingBits_31 rfl rfl ?_
        refine ax_ishl (pc' := 33) dX5_grazingBits_32 rfl ?_
        refine ax_ior (pc' := 34) dX5_grazingBits_33 rfl ?_
        refine ax_istore_n (pc' := 35) dX5_grazingBits_34 rfl rfl rfl ?_
        refine ax_iinc (pc' := 38) (v := (x3 + (1 : Int32))) dX5_grazingBits_35 rfl rfl rfl rfl rfl ?_
        refine ax_goto (tgt := 4) dX5_grazingBits_38 (by decide) ?_
        exact H
theorem o_X5_grazingBits {g : ac_G} {τ : Nat → Nat → Int64} (d : Nat) (a : Nat) (p1 : Int32) (hm : is_Md a) {Q : Int32 → ac_m → Prop} {s : ac_m} (H : w_X5_grazingBits a p1 Q s) : ac_M g i_X5_grazingBits d 0 0 [.ref a, .int p1] (false, 586, SH, s, τ) (liI τ Q) := by
  refine ac_ofX (by decide +kernel) rfl rfl rfl ?_
  refine ax_iconst (pc' := 1) (v := (0 : Int32)) dX5_grazingBits_0 (by decide) rfl ?_
  refine ax_istore_n (pc' := 2) dX5_grazingBits_1 rfl rfl rfl ?_
  refine ax_iconst (pc' := 3) (v := (0 : Int32)) dX5_grazingBits_2 (by decide) rfl ?_
  refine ax_istore_n (pc' := 4) dX5_grazingBits_3 rfl rfl rfl ?_
  refine ol_X5_grazingBits_4 d a p1 hm _    H
theorem ol_X5_drivenBits_4 {g : ac_G} {τ : Nat → Nat → Int64} (d : Nat) (a : Nat) (hm : is_Md a) {Q : Int32 → ac_m → Prop}    {x1 : Int32} {x2 : Int32} {s : ac_m} (H : l_X5_drivenBits_4 a Q    x1 x2 s) : ac_X g i_X5_drivenBits d 0 0 (liI τ Q) 0 0 4 [some (.ref a), some (.int x1), some (.int x2)] [] (false, 586, SH, s, τ) := by
  refine H (fun x1 x2 s => ac_X g i_X5_drivenBits d 0 0 (liI τ Q) 0 0 4 [some (.ref a), some (.int x1), some (.int x2)] [] (false, 586, SH, s, τ)) ?_
  intro x1 x2 s H
  refine ax_iload_n (pc' := 5) dX5_drivenBits_4 rfl rfl ?_
  refine ax_bipush (pc' := 7) (v := (12 : Int32)) dX5_drivenBits_5 (by decide) rfl ?_
  refine ax_icmp_ge (pc' := 10) (tgt := 49) dX5_drivenBits_7 (by decide) rfl (fun hc7 => ?_) (fun hc7 => ?_)
  · have H := H.1 hc7
    refine ax_iload_n (pc' := 50) dX5_drivenBits_49 rfl rfl ?_
    exact ax_iret dX5_drivenBits_50 rfl rfl rfl ⟨_, _, rfl, rfl, H⟩
  · have H := H.2 hc7
    refine ax_aload_n (pc' := 11) dX5_drivenBits_10 rfl rfl ?_
    refine ax_getR (pc' := 14) dX5_drivenBits_11 fl_X5_15 (md_0 hm) rfl (md_8 hm) rfl ?_
    refine ax_iload_n (pc' := 15) dX5_drivenBits_14 rfl rfl ?_
    obtain ⟨hj15, H⟩ := H
    refine ax_iald (pc' := 16) dX5_drivenBits_15 (md_2 hm) hj15 (md_10 hm) rfl ?_
    refine ax_if_le (pc' := 19) (tgt := 43) dX5_drivenBits_16 (by decide) rfl (fun hc16 => ?_) (fun hc16 => ?_)
    · have H := H.1 hc16
      refine ax_iinc (pc' := 46) (v := (x2 + (1 : Int32))) dX5_drivenBits_43 rfl rfl rfl rfl rfl ?_
      refine ax_goto (tgt := 4) dX5_drivenBits_46 (by decide) ?_
      exact H
    · have H := H.2 hc16
      refine ax_aload_n (pc' := 20) dX5_drivenBits_19 rfl rfl ?_
      refine ax_getR (pc' := 23) dX5_drivenBits_20 fl_X5_18 (md_0 hm) rfl (md_8 hm) rfl ?_
      refine ax_iload_n (pc' := 24) dX5_drivenBits_23 rfl rfl ?_
      obtain ⟨hj24, H⟩ := H
      refine ax_iald (pc' := 25) dX5_drivenBits_24 (md_3 hm) hj24 (md_11 hm) rfl ?_
      refine ax_aload_n (pc' := 26) dX5_drivenBits_25 rfl rfl ?_
      refine ax_getR (pc' := 29) dX5_drivenBits_26 fl_X5_43 (md_0 hm) rfl (md_8 hm) rfl ?_
      refine ax_getR (pc' := 32) dX5_drivenBits_29 fl_X5_95 sh_3 rfl rfl rfl ?_
      refine ax_iload_n (pc' := 33) dX5_drivenBits_32 rfl rfl ?_
      obtain ⟨hj33, H⟩ := H
      refine ax_iald (pc' := 34) dX5_drivenBits_33 sh_6 hj33 rfl rfl ?_
      refine ax_icmp_eq (pc' := 37) (tgt := 43) dX5_drivenBits_34 (by decide) rfl (fun hc34 => ?_) (fun hc34 => ?_)
      · have H := H.1 hc34
        refine ax_iinc (pc' := 46) (v := (x2 + (1 : Int32))) dX5_drivenBits_43 rfl rfl rfl rfl rfl ?_
        refine ax_goto (tgt := 4) dX5_drivenBits_46 (by decide) ?_
        exact H
      · have H := H.2 hc34
        refine ax_iload_n (pc' := 38) dX5_drivenBits_37 rfl rfl ?_
        refine ax_iconst (pc' := 39) (v := (1 : Int32)) dX5_drivenBits_38 (by decide) rfl ?_
        refine ax_iload_n (pc' := 40) dX5_drivenBits_39 rfl rfl ?_
        refine ax_ishl (pc' := 41) dX5_drivenBits_40 rfl ?_
        refine ax_ior (pc' := 42) dX5_drivenBits_41 rfl ?_
        refine ax_istore_n (pc' := 43) dX5_drivenBits_42 rfl rfl rfl ?_
        refine ax_iinc (pc' := 46) (v := (x2 + (1 : Int32))) dX5_drivenBits_43 rfl rfl rfl rfl rfl ?_
        refine ax_goto (tgt := 4) dX5_drivenBits_46 (by decide) ?_
        exact H
theorem o_X5_drivenBits {g : ac_G} {τ : Nat → Nat → Int64} (d : Nat) (a : Nat) (hm : is_Md a) {Q : Int32 → ac_m → Prop} {s : ac_m} (H : w_X5_drivenBits a Q s) : ac_M g i_X5_drivenBits d 0 0 [.ref a] (false, 586, SH, s, τ) (liI τ Q) := by
  refine ac_ofX (by decide +kernel) rfl rfl rfl ?_
  refine ax_iconst (pc' := 1) (v := (0 : Int32)) dX5_drivenBits_0 (by decide) rfl ?_
  refine ax_istore_n (pc' := 2) dX5_drivenBits_1 rfl rfl rfl ?_
  refine ax_iconst (pc' := 3) (v := (0 : Int32)) dX5_drivenBits_2 (by decide) rfl ?_
  refine ax_istore_n (pc' := 4) dX5_drivenBits_3 rfl rfl rfl ?_
  refine ol_X5_drivenBits_4 d a hm     H
theorem ol_X5_allGrass_4 {g : ac_G} {τ : Nat → Nat → Int64} (d : Nat) (a : Nat) (hm : is_Md a) {Q : Int32 → ac_m → Prop}    {x1 : Int32} {x2 : Int32} {s : ac_m} (H : l_X5_allGrass_4 a Q    x1 x2 s) : ac_X g i_X5_allGrass d 0 0 (liI τ Q) 0 0 4 [some (.ref a), some (.int x1), some (.int x2)] [] (false, 586, SH, s, τ) := by
  refine H (fun x1 x2 s => ac_X g i_X5_allGrass d 0 0 (liI τ Q) 0 0 4 [some (.ref a), some (.int x1), some (.int x2)] [] (false, 586, SH, s, τ)) ?_
  intro x1 x2 s H
  refine ax_iload_n (pc' := 5) dX5_allGrass_4 rfl rfl ?_
  refine ax_bipush (pc' := 7) (v := (6 : Int32)) dX5_allGrass_5 (by decide) rfl ?_
  refine ax_icmp_ge (pc' := 10) (tgt := 25) dX5_allGrass_7 (by decide) rfl (fun hc7 => ?_) (fun hc7 => ?_)
  · have H := H.1 hc7
    refine ax_iload_n (pc' := 26) dX5_allGrass_25 rfl rfl ?_
    exact ax_iret dX5_allGrass_26 rfl rfl rfl ⟨_, _, rfl, rfl, H⟩
  · have H := H.2 hc7
    refine ax_iload_n (pc' := 11) dX5_allGrass_10 rfl rfl ?_
    refine ax_aload_n (pc' := 12) dX5_allGrass_11 rfl rfl ?_
    refine ax_getR (pc' := 15) dX5_allGrass_12 fl_X5_9 (md_0 hm) rfl (md_8 hm) rfl ?_
    refine ax_iload_n (pc' := 16) dX5_allGrass_15 rfl rfl ?_
    obtain ⟨hj16, H⟩ := H
    refine ax_iald (pc' := 17) dX5_allGrass_16 (md_1 hm) hj16 (md_9 hm) rfl ?_
    refine ax_iadd (pc' := 18) dX5_allGrass_17 rfl ?_
    refine ax_istore_n (pc' := 19) dX5_allGrass_18 rfl rfl rfl ?_
    refine ax_iinc (pc' := 22) (v := (x2 + (1 : Int32))) dX5_allGrass_19 rfl rfl rfl rfl rfl ?_
    refine ax_goto (tgt := 4) dX5_allGrass_22 (by decide) ?_
    exact H
theorem o_X5_allGrass {g : ac_G} {τ : Nat → Nat → Int64} (d : Nat) (a : Nat) (hm : is_Md a) {Q : Int32 → ac_m → Prop} {s : ac_m} (H : w_X5_allGrass a Q s) : ac_M g i_X5_allGrass d 0 0 [.ref a] (false, 586, SH, s, τ) (liI τ Q) := by
  refine ac_ofX (by decide +kernel) rfl rfl rfl ?_
  refine ax_iconst (pc' := 1) (v := (0 : Int32)) dX5_allGrass_0 (by decide) rfl ?_
  refine ax_istore_n (pc' := 2) dX5_allGrass_1 rfl rfl rfl ?_
  refine ax_iconst (pc' := 3) (v := (0 : Int32)) dX5_allGrass_2 (by decide) rfl ?_
  refine ax_istore_n (pc' := 4) dX5_allGrass_3 rfl rfl rfl ?_
  refine ol_X5_allGrass_4 d a hm     H
theorem ol_X5_weightOf_4 {g : ac_G} {τ : Nat → Nat → Int64} (d : Nat) (a : Nat) (p1 : Int32) (hm : is_Md a) {Q : Int32 → ac_m → Prop}  (f1 : Int32)  {x2 : Int32} {x3 : Int32} {s : ac_m} (H : l_X5_weightOf_4 a p1 Q  f1  x2 x3 s) : ac_X g i_X5_weightOf d 0 0 (liI τ Q) 0 0 4 [some (.ref a), some (.int f1), some (.int x2), some (.int x3)] [] (false, 586, SH, s, τ) := by
  refine H (fun x2 x3 s => ac_X g i_X5_weightOf d 0 0 (liI τ Q) 0 0 4 [some (.ref a), some (.int f1), some (.int x2), some (.int x3)] [] (false, 586, SH, s, τ)) ?_
  intro x2 x3 s H
  refine ax_iload_n (pc' := 5) dX5_weightOf_4 rfl rfl ?_
  refine ax_bipush (pc' := 7) (v := (12 : Int32)) dX5_weightOf_5 (by decide) rfl ?_
  refine ax_icmp_ge (pc' := 10) (tgt := 37) dX5_weightOf_7 (by decide) rfl (fun hc7 => ?_) (fun hc7 => ?_)
  · have H := H.1 hc7
    refine ax_iload_n (pc' := 38) dX5_weightOf_37 rfl rfl ?_
    exact ax_iret dX5_weightOf_38 rfl rfl rfl ⟨_, _, rfl, rfl, H⟩
  · have H := H.2 hc7
    refine ax_iload_n (pc' := 11) dX5_weightOf_10 rfl rfl ?_
    refine ax_iload_n (pc' := 12) dX5_weightOf_11 rfl rfl ?_
    refine ax_iconst (pc' := 13) (v := (1 : Int32)) dX5_weightOf_12 (by decide) rfl ?_
    refine ax_iload_n (pc' := 14) dX5_weightOf_13 rfl rfl ?_
    refine ax_ishl (pc' := 15) dX5_weightOf_14 rfl ?_
    refine ax_iand (pc' := 16) dX5_weightOf_15 rfl ?_
    refine ax_if_eq (pc' := 19) (tgt := 28) dX5_weightOf_16 (by decide) rfl (fun hc16 => ?_) (fun hc16 => ?_)
    · have H := H.1 hc16
      refine ax_iconst (pc' := 29) (v := (0 : Int32)) dX5_weightOf_28 (by decide) rfl ?_
      refine ax_iadd (pc' := 30) dX5_weightOf_29 rfl ?_
      refine ax_istore_n (pc' := 31) dX5_weightOf_30 rfl rfl rfl ?_
      refine ax_iinc (pc' := 34) (v := (x3 + (1 : Int32))) dX5_weightOf_31 rfl rfl rfl rfl rfl ?_
      refine ax_goto (tgt := 4) dX5_weightOf_34 (by decide) ?_
      exact H
    · have H := H.2 hc16
      refine ax_aload_n (pc' := 20) dX5_weightOf_19 rfl rfl ?_
      refine ax_getR (pc' := 23) dX5_weightOf_20 fl_X5_15 (md_0 hm) rfl (md_8 hm) rfl ?_
      refine ax_iload_n (pc' := 24) dX5_weightOf_23 rfl rfl ?_
      obtain ⟨hj24, H⟩ := H
      refine ax_iald (pc' := 25) dX5_weightOf_24 (md_2 hm) hj24 (md_10 hm) rfl ?_
      refine ax_goto (tgt := 29) dX5_weightOf_25 (by decide) ?_
      refine ax_iadd (pc' := 30) dX5_weightOf_29 rfl ?_
      refine ax_istore_n (pc' := 31) dX5_weightOf_30 rfl rfl rfl ?_
      refine ax_iinc (pc' := 34) (v := (x3 + (1 : Int32))) dX5_weightOf_31 rfl rfl rfl rfl rfl ?_
      refine ax_goto (tgt := 4) dX5_weightOf_34 (by decide) ?_
      exact H
theorem o_X5_weightOf {g : ac_G} {τ : Nat → Nat → Int64} (d : Nat) (a : Nat) (p1 : Int32) (hm : is_Md a) {Q : Int32 → ac_m → Prop} {s : ac_m} (H : w_X5_weightOf a p1 Q s) : ac_M g i_X5_weightOf d 0 0 [.ref a, .int p1] (false, 586, SH, s, τ) (liI τ Q) := by
  refine ac_ofX (by decide +kernel) rfl rfl rfl ?_
  refine ax_iconst (pc' := 1) (v := (0 : Int32)) dX5_weightOf_0 (by decide) rfl ?_
  refine ax_istore_n (pc' := 2) dX5_weightOf_1 rfl rfl rfl ?_
  refine ax_iconst (pc' := 3) (v := (0 : Int32)) dX5_weightOf_2 (by decide) rfl ?_
  refine ax_istore_n (pc' := 4) dX5_weightOf_3 rfl rfl rfl ?_
  refine ol_X5_weightOf_4 d a p1 hm _    H
theorem ol_X5_appetiteSum_4 {g : ac_G} {τ : Nat → Nat → Int64} (d : Nat) (a : Nat) (p1 : Int32) (hm : is_Md a) {Q : Int32 → ac_m → Prop}  (f1 : Int32)  {x2 : Int32} {x3 : Int32} {s : ac_m} (H : l_X5_appetiteSum_4 a p1 Q  f1  x2 x3 s) : ac_X g i_X5_appetiteSum d 0 0 (liI τ Q) 0 0 4 [some (.ref a), some (.int f1), some (.int x2), some (.int x3)] [] (false, 586, SH, s, τ) := by
  refine H (fun x2 x3 s => ac_X g i_X5_appetiteSum d 0 0 (liI τ Q) 0 0 4 [some (.ref a), some (.int f1), some (.int x2), some (.int x3)] [] (false, 586, SH, s, τ)) ?_
  intro x2 x3 s H
  refine ax_iload_n (pc' := 5) dX5_appetiteSum_4 rfl rfl ?_
  refine ax_bipush (pc' := 7) (v := (12 : Int32)) dX5_appetiteSum_5 (by decide) rfl ?_
  refine ax_icmp_ge (pc' := 10) (tgt := 37) dX5_appetiteSum_7 (by decide) rfl (fun hc7 => ?_) (fun hc7 => ?_)
  · have H := H.1 hc7
    refine ax_iload_n (pc' := 38) dX5_appetiteSum_37 rfl rfl ?_
    exact ax_iret dX5_appetiteSum_38 rfl rfl rfl ⟨_, _, rfl, rfl, H⟩
  · have H := H.2 hc7
    refine ax_iload_n (pc' := 11) dX5_appetiteSum_10 rfl rfl ?_
    refine ax_iload_n (pc' := 12) dX5_appetiteSum_11 rfl rfl ?_
    refine ax_iconst (pc' := 13) (v := (1 : Int32)) dX5_appetiteSum_12 (by decide) rfl ?_
    refine ax_iload_n (pc' := 14) dX5_appetiteSum_13 rfl rfl ?_
    refine ax_ishl (pc' := 15) dX5_appetiteSum_14 rfl ?_
    refine ax_iand (pc' := 16) dX5_appetiteSum_15 rfl ?_
    refine ax_if_eq (pc' := 19) (tgt := 28) dX5_appetiteSum_16 (by decide) rfl (fun hc16 => ?_) (fun hc16 => ?_)
    · have H := H.1 hc16
      refine ax_iconst (pc' := 29) (v := (0 : Int32)) dX5_appetiteSum_28 (by decide) rfl ?_
      refine ax_iadd (pc' := 30) dX5_appetiteSum_29 rfl ?_
      refine ax_istore_n (pc' := 31) dX5_appetiteSum_30 rfl rfl rfl ?_
      refine ax_iinc (pc' := 34) (v := (x3 + (1 : Int32))) dX5_appetiteSum_31 rfl rfl rfl rfl rfl ?_
      refine ax_goto (tgt := 4) dX5_appetiteSum_34 (by decide) ?_
      exact H
    · have H := H.2 hc16
      refine ax_aload_n (pc' := 20) dX5_appetiteSum_19 rfl rfl ?_
      refine ax_getR (pc' := 23) dX5_appetiteSum_20 fl_X5_30 (md_0 hm) rfl (md_8 hm) rfl ?_
      refine ax_iload_n (pc' := 24) dX5_appetiteSum_23 rfl rfl ?_
      obtain ⟨hj24, H⟩ := H
      refine ax_iald (pc' := 25) dX5_appetiteSum_24 (md_7 hm) hj24 (md_15 hm) rfl ?_
      refine ax_goto (tgt := 29) dX5_appetiteSum_25 (by decide) ?_
      refine ax_iadd (pc' := 30) dX5_appetiteSum_29 rfl ?_
      refine ax_istore_n (pc' := 31) dX5_appetiteSum_30 rfl rfl rfl ?_
      refine ax_iinc (pc' := 34) (v := (x3 + (1 : Int32))) dX5_appetiteSum_31 rfl rfl rfl rfl rfl ?_
      refine ax_goto (tgt := 4) dX5_appetiteSum_34 (by decide) ?_
      exact H
theorem o_X5_appetiteSum {g : ac_G} {τ : Nat → Nat → Int64} (d : Nat) (a : Nat) (p1 : Int32) (hm : is_Md a) {Q : Int32 → ac_m → Prop} {s : ac_m} (H : w_X5_appetiteSum a p1 Q s) : ac_M g i_X5_appetiteSum d 0 0 [.ref a, .int p1] (false, 586, SH, s, τ) (liI τ Q) := by
  refine ac_ofX (by decide +kernel) rfl rfl rfl ?_
  refine ax_iconst (pc' := 1) (v := (0 : Int32)) dX5_appetiteSum_0 (by decide) rfl ?_
  refine ax_istore_n (pc' := 2) dX5_appetiteSum_1 rfl rfl rfl ?_
  refine ax_iconst (pc' := 3) (v := (0 : Int32)) dX5_appetiteSum_2 (by decide) rfl ?_
  refine ax_istore_n (pc' := 4) dX5_appetiteSum_3 rfl rfl rfl ?_
  refine ol_X5_appetiteSum_4 d a p1 hm _    H
theorem o_X5_eatenBy {g : ac_G} {τ : Nat → Nat → Int64} (d : Nat) (a : Nat) (p1 : Int32) (hm : is_Md a) {Q : Int32 → ac_m → Prop} {s : ac_m} (H : w_X5_eatenBy a p1 Q s) : ac_M g i_X5_eatenBy (d + 4) 0 0 [.ref a, .int p1] (false, 586, SH, s, τ) (liI τ Q) := by
  refine ac_ofX (by decide +kernel) rfl rfl rfl ?_
  refine ax_aload_n (pc' := 1) dX5_eatenBy_0 rfl rfl ?_
  refine ay_V0 (pc' := 4) (ce' := 0) (sl' := 0) (mc2 := 0) (ms2 := 0) (I2 := i_X5_reckonAppetites) dX5_eatenBy_1 ml_X5_111 (md_0 hm) (by decide) (md_8 hm) rfl rfl rfl rfl rfl rfl rfl rfl (ac_M.imp (o_X5_reckonAppetites _ a hm H) ?_)
  rintro _ _ ⟨s1, rfl, rfl, H⟩
  refine ax_aload_n (pc' := 5) dX5_eatenBy_4 rfl rfl ?_
  refine ax_iload_n (pc' := 6) dX5_eatenBy_5 rfl rfl ?_
  refine ay_V1 (pc' := 9) (ce' := 0) (sl' := 0) (mc2 := 0) (ms2 := 0) (I2 := i_X5_appetiteSum) dX5_eatenBy_6 ml_X5_142 (md_0 hm) (by decide) (md_8 hm) rfl rfl rfl rfl rfl rfl rfl rfl (ac_M.imp (o_X5_appetiteSum _ a p1 hm H) ?_)
  rintro _ _ ⟨r6, s6, rfl, rfl, H⟩
  exact ax_iret dX5_eatenBy_9 rfl rfl rfl ⟨_, _, rfl, rfl, H⟩
theorem ol_X5_overrunBits_8 {g : ac_G} {τ : Nat → Nat → Int64} (d : Nat) (a : Nat) (hm : is_Md a) {Q : Int32 → ac_m → Prop}    {x1 : Int32} {x2 : Int32} {s : ac_m} (H : l_X5_overrunBits_8 a Q    x1 x2 s) : ac_X g i_X5_overrunBits (d + 4) 0 0 (liI τ Q) 0 0 8 [some (.ref a), some (.int x1), some (.int x2)] [] (false, 586, SH, s, τ) := by
  refine H (fun x1 x2 s => ac_X g i_X5_overrunBits (d + 4) 0 0 (liI τ Q) 0 0 8 [some (.ref a), some (.int x1), some (.int x2)] [] (false, 586, SH, s, τ)) ?_
  intro x1 x2 s H
  refine ax_iload_n (pc' := 9) dX5_overrunBits_8 rfl rfl ?_
  refine ax_bipush (pc' := 11) (v := (6 : Int32)) dX5_overrunBits_9 (by decide) rfl ?_
  refine ax_icmp_ge (pc' := 14) (tgt := 44) dX5_overrunBits_11 (by decide) rfl (fun hc11 => ?_) (fun hc11 => ?_)
  · have H := H.1 hc11
    refine ax_iload_n (pc' := 45) dX5_overrunBits_44 rfl rfl ?_
    exact ax_iret dX5_overrunBits_45 rfl rfl rfl ⟨_, _, rfl, rfl, H⟩
  · have H := H.2 hc11
    refine ax_aload_n (pc' := 15) dX5_overrunBits_14 rfl rfl ?_
    refine ax_aload_n (pc' := 16) dX5_overrunBits_15 rfl rfl ?_
    refine ax_iload_n (pc' := 17) dX5_overrunBits_16 rfl rfl ?_
    refine ay_V1 (pc' := 20) (ce' := 0) (sl' := 0) (mc2 := 0) (ms2 := 0) (I2 := i_X5_grazingBits) dX5_overrunBits_17 ml_X5_145 (md_0 hm) (by decide) (md_8 hm) rfl rfl rfl rfl rfl rfl rfl rfl (ac_M.imp (o_X5_grazingBits _ a x2 hm H) ?_)
    rintro _ _ ⟨r17, s17, rfl, rfl, H⟩
    refine ay_V1 (pc' := 23) (ce' := 0) (sl' := 0) (mc2 := 0) (ms2 := 0) (I2 := i_X5_appetiteSum) dX5_overrunBits_20 ml_X5_142 (md_0 hm) (by decide) (md_8 hm) rfl rfl rfl rfl rfl rfl rfl rfl (ac_M.imp (o_X5_appetiteSum _ a r17 hm H) ?_)
    rintro _ _ ⟨r20, s20, rfl, rfl, H⟩
    refine ax_aload_n (pc' := 24) dX5_overrunBits_23 rfl rfl ?_
    refine ax_getR (pc' := 27) dX5_overrunBits_24 fl_X5_9 (md_0 hm) rfl (md_8 hm) rfl ?_
    refine ax_iload_n (pc' := 28) dX5_overrunBits_27 rfl rfl ?_
    obtain ⟨hj28, H⟩ := H
    refine ax_iald (pc' := 29) dX5_overrunBits_28 (md_1 hm) hj28 (md_9 hm) rfl ?_
    refine ax_icmp_le (pc' := 32) (tgt := 38) dX5_overrunBits_29 (by decide) rfl (fun hc29 => ?_) (fun hc29 => ?_)
    · have H := H.1 hc29
      refine ax_iinc (pc' := 41) (v := (x2 + (1 : Int32))) dX5_overrunBits_38 rfl rfl rfl rfl rfl ?_
      refine ax_goto (tgt := 8) dX5_overrunBits_41 (by decide) ?_
      exact H
    · have H := H.2 hc29
      refine ax_iload_n (pc' := 33) dX5_overrunBits_32 rfl rfl ?_
      refine ax_iconst (pc' := 34) (v := (1 : Int32)) dX5_overrunBits_33 (by decide) rfl ?_
      refine ax_iload_n (pc' := 35) dX5_overrunBits_34 rfl rfl ?_
      refine ax_ishl (pc' := 36) dX5_overrunBits_35 rfl ?_
      refine ax_ior (pc' := 37) dX5_overrunBits_36 rfl ?_
      refine ax_istore_n (pc' := 38) dX5_overrunBits_37 rfl rfl rfl ?_
      refine ax_iinc (pc' := 41) (v := (x2 + (1 : Int32))) dX5_overrunBits_38 rfl rfl rfl rfl rfl ?_
      refine ax_goto (tgt := 8) dX5_overrunBits_41 (by decide) ?_
      exact H
theorem o_X5_overrunBits {g : ac_G} {τ : Nat → Nat → Int64} (d : Nat) (a : Nat) (hm : is_Md a) {Q : Int32 → ac_m → Prop} {s : ac_m} (H : w_X5_overrunBits a Q s) : ac_M g i_X5_overrunBits (d + 4) 0 0 [.ref a] (false, 586, SH, s, τ) (liI τ Q) := by
  refine ac_ofX (by decide +kernel) rfl rfl rfl ?_
  refine ax_aload_n (pc' := 1) dX5_overrunBits_0 rfl rfl ?_
  refine ay_V0 (pc' := 4) (ce' := 0) (sl' := 0) (mc2 := 0) (ms2 := 0) (I2 := i_X5_reckonAppetites) dX5_overrunBits_1 ml_X5_111 (md_0 hm) (by decide) (md_8 hm) rfl rfl rfl rfl rfl rfl rfl rfl (ac_M.imp (o_X5_reckonAppetites _ a hm H) ?_)
  rintro _ _ ⟨s1, rfl, rfl, H⟩
  refine ax_iconst (pc' := 5) (v := (0 : Int32)) dX5_overrunBits_4 (by decide) rfl ?_
  refine ax_istore_n (pc' := 6) dX5_overrunBits_5 rfl rfl rfl ?_
  refine ax_iconst (pc' := 7) (v := (0 : Int32)) dX5_overrunBits_6 (by decide) rfl ?_
  refine ax_istore_n (pc' := 8) dX5_overrunBits_7 rfl rfl rfl ?_
  refine ol_X5_overrunBits_8 d a hm     H
theorem ol_X5_allCoolness_14 {g : ac_G} {τ : Nat → Nat → Int64} (d : Nat) (a : Nat) (hm : is_Md a) {Q : Int32 → ac_m → Prop} {K35 : Int32 → ac_m → Prop} (f2 : Int32)  {x1 : Int32} {x3 : Int32} {s : ac_m} (hK35 : ∀ (x1 : Int32) (s : ac_m), K35 x1 s → ac_X g i_X5_allCoolness (d + 1) 0 0 (liI τ Q) 0 0 35 [some (.ref a), some (.int x1), some (.int f2), none] [] (false, 586, SH, s, τ)) (H : l_X5_allCoolness_14 a Q K35 f2  x1 x3 s) : ac_X g i_X5_allCoolness (d + 1) 0 0 (liI τ Q) 0 0 14 [some (.ref a), some (.int x1), some (.int f2), some (.int x3)] [] (false, 586, SH, s, τ) := by
  refine H (fun x1 x3 s => ac_X g i_X5_allCoolness (d + 1) 0 0 (liI τ Q) 0 0 14 [some (.ref a), some (.int x1), some (.int f2), some (.int x3)] [] (false, 586, SH, s, τ)) ?_
  intro x1 x3 s H
  refine ax_iload_n (pc' := 15) dX5_allCoolness_14 rfl rfl ?_
  refine ax_bipush (pc' := 17) (v := (6 : Int32)) dX5_allCoolness_15 (by decide) rfl ?_
  refine ax_icmp_ge (pc' := 20) (tgt := 35) dX5_allCoolness_17 (by decide) rfl (fun hc17 => ?_) (fun hc17 => ?_)
  · have H := H.1 hc17
    refine ax_drop 3 rfl ?_
    exact hK35 _ _ H
  · have H := H.2 hc17
    refine ax_iload_n (pc' := 21) dX5_allCoolness_20 rfl rfl ?_
    refine ax_aload_n (pc' := 22) dX5_allCoolness_21 rfl rfl ?_
    refine ax_iload_n (pc' := 23) dX5_allCoolness_22 rfl rfl ?_
    refine ax_iload_n (pc' := 24) dX5_allCoolness_23 rfl rfl ?_
    refine ay_V2 (pc' := 27) (ce' := 0) (sl' := 0) (mc2 := 0) (ms2 := 0) (I2 := i_X5_coolness) dX5_allCoolness_24 ml_X5_104 (md_0 hm) (by decide) (md_8 hm) rfl rfl rfl rfl rfl rfl rfl rfl (ac_M.imp (o_X5_coolness _ a f2 x3 hm H) ?_)
    rintro _ _ ⟨r24, s24, rfl, rfl, H⟩
    refine ax_iadd (pc' := 28) dX5_allCoolness_27 rfl ?_
    refine ax_istore_n (pc' := 29) dX5_allCoolness_28 rfl rfl rfl ?_
    refine ax_iinc (pc' := 32) (v := (x3 + (1 : Int32))) dX5_allCoolness_29 rfl rfl rfl rfl rfl ?_
    refine ax_goto (tgt := 14) dX5_allCoolness_32 (by decide) ?_
    exact H
theorem ol_X5_allCoolness_4 {g : ac_G} {τ : Nat → Nat → Int64} (d : Nat) (a : Nat) (hm : is_Md a) {Q : Int32 → ac_m → Prop}    {x1 : Int32} {x2 : Int32} {s : ac_m} (H : l_X5_allCoolness_4 a Q    x1 x2 s) : ac_X g i_X5_allCoolness (d + 1) 0 0 (liI τ Q) 0 0 4 [some (.ref a), some (.int x1), some (.int x2), none] [] (false, 586, SH, s, τ) := by
  refine H (fun x1 x2 s => ac_X g i_X5_allCoolness (d + 1) 0 0 (liI τ Q) 0 0 4 [some (.ref a), some (.int x1), some (.int x2), none] [] (false, 586, SH, s, τ)) ?_
  intro x1 x2 s H
  refine ax_iload_n (pc' := 5) dX5_allCoolness_4 rfl rfl ?_
  refine ax_bipush (pc' := 7) (v := (6 : Int32)) dX5_allCoolness_5 (by decide) rfl ?_
  refine ax_icmp_ge (pc' := 10) (tgt := 41) dX5_allCoolness_7 (by decide) rfl (fun hc7 => ?_) (fun hc7 => ?_)
  · have H := H.1 hc7
    refine ax_iload_n (pc' := 42) dX5_allCoolness_41 rfl rfl ?_
    exact ax_iret dX5_allCoolness_42 rfl rfl rfl ⟨_, _, rfl, rfl, H⟩
  · have H := H.2 hc7
    refine ax_iload_n (pc' := 11) dX5_allCoolness_10 rfl rfl ?_
    refine ax_iconst (pc' := 12) (v := (1 : Int32)) dX5_allCoolness_11 (by decide) rfl ?_
    refine ax_iadd (pc' := 13) dX5_allCoolness_12 rfl ?_
    refine ax_istore_n (pc' := 14) dX5_allCoolness_13 rfl rfl rfl ?_
    refine ol_X5_allCoolness_14 d a hm _   ?_ H
    · intro z14_1 sk14 H
      refine ax_iinc (pc' := 38) (v := (x2 + (1 : Int32))) dX5_allCoolness_35 rfl rfl rfl rfl rfl ?_
      refine ax_goto (tgt := 4) dX5_allCoolness_38 (by decide) ?_
      exact H
theorem o_X5_allCoolness {g : ac_G} {τ : Nat → Nat → Int64} (d : Nat) (a : Nat) (hm : is_Md a) {Q : Int32 → ac_m → Prop} {s : ac_m} (H : w_X5_allCoolness a Q s) : ac_M g i_X5_allCoolness (d + 1) 0 0 [.ref a] (false, 586, SH, s, τ) (liI τ Q) := by
  refine ac_ofX (by decide +kernel) rfl rfl rfl ?_
  refine ax_iconst (pc' := 1) (v := (0 : Int32)) dX5_allCoolness_0 (by decide) rfl ?_
  refine ax_istore_n (pc' := 2) dX5_allCoolness_1 rfl rfl rfl ?_
  refine ax_iconst (pc' := 3) (v := (0 : Int32)) dX5_allCoolness_2 (by decide) rfl ?_
  refine ax_istore_n (pc' := 4) dX5_allCoolness_3 rfl rfl rfl ?_
  refine ol_X5_allCoolness_4 d a hm     H
theorem ol_X5_firstCoolest_17 {g : ac_G} {τ : Nat → Nat → Int64} (d : Nat) (a : Nat) (hm : is_Md a) {Q : Int32 → ac_m → Prop} {K57 : Int32 → Int32 → ac_m → Prop} (f3 : Int32)  {x1 : Int32} {x2 : Int32} {x4 : Int32} {s : ac_m} (hK57 : ∀ (x1 : Int32) (x2 : Int32) (s : ac_m), K57 x1 x2 s → ac_X g i_X5_firstCoolest (d + 1) 0 0 (liI τ Q) 0 0 57 [some (.ref a), some (.int x1), some (.int x2), some (.int f3), none] [] (false, 586, SH, s, τ)) (H : l_X5_firstCoolest_17 a Q K57 f3  x1 x2 x4 s) : ac_X g i_X5_firstCoolest (d + 1) 0 0 (liI τ Q) 0 0 17 [some (.ref a), some (.int x1), some (.int x2), some (.int f3), some (.int x4)] [] (false, 586, SH, s, τ) := by
  refine H (fun x1 x2 x4 s => ac_X g i_X5_firstCoolest (d + 1) 0 0 (liI τ Q) 0 0 17 [some (.ref a), some (.int x1), some (.int x2), some (.int f3), some (.int x4)] [] (false, 586, SH, s, τ)) ?_
  intro x1 x2 x4 s H
  refine ax_iload (pc' := 19) dX5_firstCoolest_17 rfl rfl ?_
  refine ax_bipush (pc' := 21) (v := (6 : Int32)) dX5_firstCoolest_19 (by decide) rfl ?_
  refine ax_icmp_ge (pc' := 24) (tgt := 57) dX5_firstCoolest_21 (by decide) rfl (fun hc21 => ?_) (fun hc21 => ?_)
  · have H := H.1 hc21
    refine ax_drop 4 rfl ?_
    exact hK57 _ _ _ H
  · have H := H.2 hc21
    refine ax_aload_n (pc' := 25) dX5_firstCoolest_24 rfl rfl ?_
    refine ax_iload_n (pc' := 26) dX5_firstCoolest_25 rfl rfl ?_
    refine ax_iload (pc' := 28) dX5_firstCoolest_26 rfl rfl ?_
    refine ay_V2 (pc' := 31) (ce' := 0) (sl' := 0) (mc2 := 0) (ms2 := 0) (I2 := i_X5_coolness) dX5_firstCoolest_28 ml_X5_104 (md_0 hm) (by decide) (md_8 hm) rfl rfl rfl rfl rfl rfl rfl rfl (ac_M.imp (o_X5_coolness _ a f3 x4 hm H) ?_)
    rintro _ _ ⟨r28, s28, rfl, rfl, H⟩
    refine ax_iload_n (pc' := 32) dX5_firstCoolest_31 rfl rfl ?_
    refine ax_icmp_le (pc' := 35) (tgt := 51) dX5_firstCoolest_32 (by decide) rfl (fun hc32 => ?_) (fun hc32 => ?_)
    · have H := H.1 hc32
      refine ax_iinc (pc' := 54) (v := (x4 + (1 : Int32))) dX5_firstCoolest_51 rfl rfl rfl rfl rfl ?_
      refine ax_goto (tgt := 17) dX5_firstCoolest_54 (by decide) ?_
      exact H
    · have H := H.2 hc32
      refine ax_aload_n (pc' := 36) dX5_firstCoolest_35 rfl rfl ?_
      refine ax_iload_n (pc' := 37) dX5_firstCoolest_36 rfl rfl ?_
      refine ax_iload (pc' := 39) dX5_firstCoolest_37 rfl rfl ?_
      refine ay_V2 (pc' := 42) (ce' := 0) (sl' := 0) (mc2 := 0) (ms2 := 0) (I2 := i_X5_coolness) dX5_firstCoolest_39 ml_X5_104 (md_0 hm) (by decide) (md_8 hm) rfl rfl rfl rfl rfl rfl rfl rfl (ac_M.imp (o_X5_coolness _ a f3 x4 hm H) ?_)
      rintro _ _ ⟨r39, s39, rfl, rfl, H⟩
      refine ax_istore_n (pc' := 43) dX5_firstCoolest_42 rfl rfl rfl ?_
      refine ax_bipush (pc' := 45) (v := (10 : Int32)) dX5_firstCoolest_43 (by decide) rfl ?_
      refine ax_iload_n (pc' := 46) dX5_firstCoolest_45 rfl rfl ?_
      refine ax_imul (pc' := 47) dX5_firstCoolest_46 rfl ?_
      refine ax_iload (pc' := 49) dX5_firstCoolest_47 rfl rfl ?_
      refine ax_iadd (pc' := 50) dX5_firstCoolest_49 rfl ?_
      refine ax_istore_n (pc' := 51) dX5_firstCoolest_50 rfl rfl rfl ?_
      refine ax_iinc (pc' := 54) (v := (x4 + (1 : Int32))) dX5_firstCoolest_51 rfl rfl rfl rfl rfl ?_
      refine ax_goto (tgt := 17) dX5_firstCoolest_54 (by decide) ?_
      exact H
theorem ol_X5_firstCoolest_6 {g : ac_G} {τ : Nat → Nat → Int64} (d : Nat) (a : Nat) (hm : is_Md a) {Q : Int32 → ac_m → Prop}    {x1 : Int32} {x2 : Int32} {x3 : Int32} {s : ac_m} (H : l_X5_firstCoolest_6 a Q    x1 x2 x3 s) : ac_X g i_X5_firstCoolest (d + 1) 0 0 (liI τ Q) 0 0 6 [some (.ref a), some (.int x1), some (.int x2), some (.int x3), none] [] (false, 586, SH, s, τ) := by
  refine H (fun x1 x2 x3 s => ac_X g i_X5_firstCoolest (d + 1) 0 0 (liI τ Q) 0 0 6 [some (.ref a), some (.int x1), some (.int x2), some (.int x3), none] [] (false, 586, SH, s, τ)) ?_
  intro x1 x2 x3 s H
  refine ax_iload_n (pc' := 7) dX5_firstCoolest_6 rfl rfl ?_
  refine ax_bipush (pc' := 9) (v := (6 : Int32)) dX5_firstCoolest_7 (by decide) rfl ?_
  refine ax_icmp_ge (pc' := 12) (tgt := 63) dX5_firstCoolest_9 (by decide) rfl (fun hc9 => ?_) (fun hc9 => ?_)
  · have H := H.1 hc9
    refine ax_iload_n (pc' := 64) dX5_firstCoolest_63 rfl rfl ?_
    exact ax_iret dX5_firstCoolest_64 rfl rfl rfl ⟨_, _, rfl, rfl, H⟩
  · have H := H.2 hc9
    refine ax_iload_n (pc' := 13) dX5_firstCoolest_12 rfl rfl ?_
    refine ax_iconst (pc' := 14) (v := (1 : Int32)) dX5_firstCoolest_13 (by decide) rfl ?_
    refine ax_iadd (pc' := 15) dX5_firstCoolest_14 rfl ?_
    refine ax_istore (pc' := 17) dX5_firstCoolest_15 rfl rfl rfl ?_
    refine ol_X5_firstCoolest_17 d a hm _   ?_ H
    · intro z17_1 z17_2 sk17 H
      refine ax_iinc (pc' := 60) (v := (x3 + (1 : Int32))) dX5_firstCoolest_57 rfl rfl rfl rfl rfl ?_
      refine ax_goto (tgt := 6) dX5_firstCoolest_60 (by decide) ?_
      exact H
theorem o_X5_firstCoolest {g : ac_G} {τ : Nat → Nat → Int64} (d : Nat) (a : Nat) (hm : is_Md a) {Q : Int32 → ac_m → Prop} {s : ac_m} (H : w_X5_firstCoolest a Q s) : ac_M g i_X5_firstCoolest (d + 1) 0 0 [.ref a] (false, 586, SH, s, τ) (liI τ Q) := by
  refine ac_ofX (by decide +kernel) rfl rfl rfl ?_
  refine ax_iconst (pc' := 1) (v := (-1 : Int32)) dX5_firstCoolest_0 (by decide) rfl ?_
  refine ax_istore_n (pc' := 2) dX5_firstCoolest_1 rfl rfl rfl ?_
  refine ax_iconst (pc' := 3) (v := (0 : Int32)) dX5_firstCoolest_2 (by decide) rfl ?_
  refine ax_istore_n (pc' := 4) dX5_firstCoolest_3 rfl rfl rfl ?_
  refine ax_iconst (pc' := 5) (v := (0 : Int32)) dX5_firstCoolest_4 (by decide) rfl ?_
  refine ax_istore_n (pc' := 6) dX5_firstCoolest_5 rfl rfl rfl ?_
  refine ol_X5_firstCoolest_6 d a hm     H
theorem ol_X5_firstBy_8 {g : ac_G} {τ : Nat → Nat → Int64} (d : Nat) (a : Nat) (r1 : Nat) (p2 : Int32) (hm : is_Md a) (hr1 : SH r1 = .inl (0, 13, 0)) (hn1 : Nat.blt r1 586 = true) {Q : Int32 → ac_m → Prop}  (f2 : Int32)  {x3 : Int32} {x4 : Int32} {x5 : Int32} {s : ac_m} (H : l_X5_firstBy_8 a r1 p2 Q  f2  x3 x4 x5 s) : ac_X g i_X5_firstBy d 0 0 (liI τ Q) 0 0 8 [some (.ref a), some (.ref r1), some (.int f2), some (.int x3), some (.int x4), some (.int x5), none] [] (false, 586, SH, s, τ) := by
  refine H (fun x3 x4 x5 s => ac_X g i_X5_firstBy d 0 0 (liI τ Q) 0 0 8 [some (.ref a), some (.ref r1), some (.int f2), some (.int x3), some (.int x4), some (.int x5), none] [] (false, 586, SH, s, τ)) ?_
  intro x3 x4 x5 s H
  refine ax_iload (pc' := 10) dX5_firstBy_8 rfl rfl ?_
  refine ax_bipush (pc' := 12) (v := (12 : Int32)) dX5_firstBy_10 (by decide) rfl ?_
  refine ax_icmp_ge (pc' := 15) (tgt := 65) dX5_firstBy_12 (by decide) rfl (fun hc12 => ?_) (fun hc12 => ?_)
  · have H := H.1 hc12
    refine ax_iload_n (pc' := 66) dX5_firstBy_65 rfl rfl ?_
    exact ax_iret dX5_firstBy_66 rfl rfl rfl ⟨_, _, rfl, rfl, H⟩
  · have H := H.2 hc12
    refine ax_iload (pc' := 17) dX5_firstBy_15 rfl rfl ?_
    refine ax_aload_n (pc' := 18) dX5_firstBy_17 rfl rfl ?_
    refine ax_alen (pc' := 19) (v := (13 : Int32)) dX5_firstBy_18 hr1 rfl (by decide) hn1 rfl ?_
    refine ax_icmp_ge (pc' := 22) (tgt := 65) dX5_firstBy_19 (by decide) rfl (fun hc19 => ?_) (fun hc19 => ?_)
    · have H := H.1 hc19
      refine ax_iload_n (pc' := 66) dX5_firstBy_65 rfl rfl ?_
      exact ax_iret dX5_firstBy_66 rfl rfl rfl ⟨_, _, rfl, rfl, H⟩
    · have H := H.2 hc19
      refine ax_iload_n (pc' := 23) dX5_firstBy_22 rfl rfl ?_
      refine ax_aload_n (pc' := 24) dX5_firstBy_23 rfl rfl ?_
      refine ax_iload (pc' := 26) dX5_firstBy_24 rfl rfl ?_
      obtain ⟨hj26, H⟩ := H
      refine ax_iald (pc' := 27) dX5_firstBy_26 hr1 hj26 hn1 rfl ?_
      refine ax_imul (pc' := 28) dX5_firstBy_27 rfl ?_
      refine ax_istore (pc' := 30) dX5_firstBy_28 rfl rfl rfl ?_
      refine ax_aload_n (pc' := 31) dX5_firstBy_30 rfl rfl ?_
      refine ax_getR (pc' := 34) dX5_firstBy_31 fl_X5_15 (md_0 hm) rfl (md_8 hm) rfl ?_
      refine ax_iload (pc' := 36) dX5_firstBy_34 rfl rfl ?_
      obtain ⟨hj36, H⟩ := H
      refine ax_iald (pc' := 37) dX5_firstBy_36 (md_2 hm) hj36 (md_10 hm) rfl ?_
      refine ax_if_le (pc' := 40) (tgt := 59) dX5_firstBy_37 (by decide) rfl (fun hc37 => ?_) (fun hc37 => ?_)
      · have H := H.1 hc37
        refine ax_iinc (pc' := 62) (v := (x5 + (1 : Int32))) dX5_firstBy_59 rfl rfl rfl rfl rfl ?_
        refine ax_goto (tgt := 8) dX5_firstBy_62 (by decide) ?_
        refine ax_drop 6 rfl ?_
        exact H
      · have H := H.2 hc37
        refine ax_iload_n (pc' := 41) dX5_firstBy_40 rfl rfl ?_
        refine ax_iconst (pc' := 42) (v := (-1 : Int32)) dX5_firstBy_41 (by decide) rfl ?_
        refine ax_icmp_eq (pc' := 45) (tgt := 52) dX5_firstBy_42 (by decide) rfl (fun hc42 => ?_) (fun hc42 => ?_)
        · have H := H.1 hc42
          refine ax_iload (pc' := 54) dX5_firstBy_52 rfl rfl ?_
          refine ax_istore_n (pc' := 55) dX5_firstBy_54 rfl rfl rfl ?_
          refine ax_iload (pc' := 57) dX5_firstBy_55 rfl rfl ?_
          refine ax_istore (pc' := 59) dX5_firstBy_57 rfl rfl rfl ?_
          refine ax_iinc (pc' := 62) (v := (x5 + (1 : Int32))) dX5_firstBy_59 rfl rfl rfl rfl rfl ?_
          refine ax_goto (tgt := 8) dX5_firstBy_62 (by decide) ?_
          refine ax_drop 6 rfl ?_
          exact H
        · have H := H.2 hc42
          refine ax_iload (pc' := 47) dX5_firstBy_45 rfl rfl ?_
          refine ax_iload (pc' := 49) dX5_firstBy_47 rfl rfl ?_
          refine ax_icmp_le (pc' := 52) (tgt := 59) dX5_firstBy_49 (by decide) rfl (fun hc49 => ?_) (fun hc49 => ?_)
          · have H := H.1 hc49
            refine ax_iinc (pc' := 62) (v := (x5 + (1 : Int32))) dX5_firstBy_59 rfl rfl rfl rfl rfl ?_
            refine ax_goto (tgt := 8) dX5_firstBy_62 (by decide) ?_
            refine ax_drop 6 rfl ?_
            exact H
          · have H := H.2 hc49
            refine ax_iload (pc' := 54) dX5_firstBy_52 rfl rfl ?_
            refine ax_istore_n (pc' := 55) dX5_firstBy_54 rfl rfl rfl ?_
            refine ax_iload (pc' := 57) dX5_firstBy_55 rfl rfl ?_
            refine ax_istore (pc' := 59) dX5_firstBy_57 rfl rfl rfl ?_
            refine ax_iinc (pc' := 62) (v := (x5 + (1 : Int32))) dX5_firstBy_59 rfl rfl rfl rfl rfl ?_
            refine ax_goto (tgt := 8) dX5_firstBy_62 (by decide) ?_
            refine ax_drop 6 rfl ?_
            exact H
theorem o_X5_firstBy {g : ac_G} {τ : Nat → Nat → Int64} (d : Nat) (a : Nat) (r1 : Nat) (p2 : Int32) (hm : is_Md a) (hr1 : SH r1 = .inl (0, 13, 0)) (hn1 : Nat.blt r1 586 = true) {Q : Int32 → ac_m → Prop} {s : ac_m} (H : w_X5_firstBy a r1 p2 Q s) : ac_M g i_X5_firstBy d 0 0 [.ref a, .ref r1, .int p2] (false, 586, SH, s, τ) (liI τ Q) := by
  refine ac_ofX (by decide +kernel) rfl rfl rfl ?_
  refine ax_iconst (pc' := 1) (v := (-1 : Int32)) dX5_firstBy_0 (by decide) rfl ?_
  refine ax_istore_n (pc' := 2) dX5_firstBy_1 rfl rfl rfl ?_
  refine ax_iconst (pc' := 3) (v := (0 : Int32)) dX5_firstBy_2 (by decide) rfl ?_
  refine ax_istore (pc' := 5) dX5_firstBy_3 rfl rfl rfl ?_
  refine ax_iconst (pc' := 6) (v := (0 : Int32)) dX5_firstBy_5 (by decide) rfl ?_
  refine ax_istore (pc' := 8) dX5_firstBy_6 rfl rfl rfl ?_
  refine ol_X5_firstBy_8 d a r1 p2 hm hr1 hn1 _    H
theorem o_X5_firstHeaviest {g : ac_G} {τ : Nat → Nat → Int64} (d : Nat) (a : Nat) (hm : is_Md a) {Q : Int32 → ac_m → Prop} {s : ac_m} (H : w_X5_firstHeaviest a Q s) : ac_M g i_X5_firstHeaviest (d + 1) 0 0 [.ref a] (false, 586, SH, s, τ) (liI τ Q) := by
  refine ac_ofX (by decide +kernel) rfl rfl rfl ?_
  refine ax_aload_n (pc' := 1) dX5_firstHeaviest_0 rfl rfl ?_
  refine ax_aload_n (pc' := 2) dX5_firstHeaviest_1 rfl rfl ?_
  refine ax_getR (pc' := 5) dX5_firstHeaviest_2 fl_X5_15 (md_0 hm) rfl (md_8 hm) rfl ?_
  refine ax_iconst (pc' := 6) (v := (1 : Int32)) dX5_firstHeaviest_5 (by decide) rfl ?_
  refine ay_V2 (pc' := 9) (ce' := 0) (sl' := 0) (mc2 := 0) (ms2 := 0) (I2 := i_X5_firstBy) dX5_firstHeaviest_6 ml_X5_148 (md_0 hm) (by decide) (md_8 hm) rfl rfl rfl rfl rfl rfl rfl rfl (ac_M.imp (o_X5_firstBy _ a (a + 2) (1 : Int32) hm (md_2 hm) (md_10 hm) H) ?_)
  rintro _ _ ⟨r6, s6, rfl, rfl, H⟩
  exact ax_iret dX5_firstHeaviest_9 rfl rfl rfl ⟨_, _, rfl, rfl, H⟩
theorem o_X5_firstLightest {g : ac_G} {τ : Nat → Nat → Int64} (d : Nat) (a : Nat) (hm : is_Md a) {Q : Int32 → ac_m → Prop} {s : ac_m} (H : w_X5_firstLightest a Q s) : ac_M g i_X5_firstLightest (d + 1) 0 0 [.ref a] (false, 586, SH, s, τ) (liI τ Q) := by
  refine ac_ofX (by decide +kernel) rfl rfl rfl ?_
  refine ax_aload_n (pc' := 1) dX5_firstLightest_0 rfl rfl ?_
  refine ax_aload_n (pc' := 2) dX5_firstLightest_1 rfl rfl ?_
  refine ax_getR (pc' := 5) dX5_firstLightest_2 fl_X5_15 (md_0 hm) rfl (md_8 hm) rfl ?_
  refine ax_iconst (pc' := 6) (v := (-1 : Int32)) dX5_firstLightest_5 (by decide) rfl ?_
  refine ay_V2 (pc' := 9) (ce' := 0) (sl' := 0) (mc2 := 0) (ms2 := 0) (I2 := i_X5_firstBy) dX5_firstLightest_6 ml_X5_148 (md_0 hm) (by decide) (md_8 hm) rfl rfl rfl rfl rfl rfl rfl rfl (ac_M.imp (o_X5_firstBy _ a (a + 2) (-1 : Int32) hm (md_2 hm) (md_10 hm) H) ?_)
  rintro _ _ ⟨r6, s6, rfl, rfl, H⟩
  exact ax_iret dX5_firstLightest_9 rfl rfl rfl ⟨_, _, rfl, rfl, H⟩
theorem o_X5_firstOldest {g : ac_G} {τ : Nat → Nat → Int64} (d : Nat) (a : Nat) (hm : is_Md a) {Q : Int32 → ac_m → Prop} {s : ac_m} (H : w_X5_firstOldest a Q s) : ac_M g i_X5_firstOldest (d + 1) 0 0 [.ref a] (false, 586, SH, s, τ) (liI τ Q) := by
  refine ac_ofX (by decide +kernel) rfl rfl rfl ?_
  refine ax_aload_n (pc' := 1) dX5_firstOldest_0 rfl rfl ?_
  refine ax_aload_n (pc' := 2) dX5_firstOldest_1 rfl rfl ?_
  refine ax_getR (pc' := 5) dX5_firstOldest_2 fl_X5_21 (md_0 hm) rfl (md_8 hm) rfl ?_
  refine ax_iconst (pc' := 6) (v := (1 : Int32)) dX5_firstOldest_5 (by decide) rfl ?_
  refine ay_V2 (pc' := 9) (ce' := 0) (sl' := 0) (mc2 := 0) (ms2 := 0) (I2 := i_X5_firstBy) dX5_firstOldest_6 ml_X5_148 (md_0 hm) (by decide) (md_8 hm) rfl rfl rfl rfl rfl rfl rfl rfl (ac_M.imp (o_X5_firstBy _ a (a + 4) (1 : Int32) hm (md_4 hm) (md_12 hm) H) ?_)
  rintro _ _ ⟨r6, s6, rfl, rfl, H⟩
  exact ax_iret dX5_firstOldest_9 rfl rfl rfl ⟨_, _, rfl, rfl, H⟩
theorem ol_X5_givenBelow_5 {g : ac_G} {τ : Nat → Nat → Int64} (d : Nat) (a : Nat) (p1 : Int32) (p2 : Int32) (hm : is_Md a) {Q : Int32 → ac_m → Prop}  (f1 : Int32) (f2 : Int32)  {x3 : Int32} {x4 : Int32} {s : ac_m} (H : l_X5_givenBelow_5 a p1 p2 Q  f1 f2  x3 x4 s) : ac_X g i_X5_givenBelow d 0 0 (liI τ Q) 0 0 5 [some (.ref a), some (.int f1), some (.int f2), some (.int x3), some (.int x4)] [] (false, 586, SH, s, τ) := by
  refine H (fun x3 x4 s => ac_X g i_X5_givenBelow d 0 0 (liI τ Q) 0 0 5 [some (.ref a), some (.int f1), some (.int f2), some (.int x3), some (.int x4)] [] (false, 586, SH, s, τ)) ?_
  intro x3 x4 s H
  refine ax_iload (pc' := 7) dX5_givenBelow_5 rfl rfl ?_
  refine ax_bipush (pc' := 9) (v := (6 : Int32)) dX5_givenBelow_7 (by decide) rfl ?_
  refine ax_icmp_ge (pc' := 12) (tgt := 44) dX5_givenBelow_9 (by decide) rfl (fun hc9 => ?_) (fun hc9 => ?_)
  · have H := H.1 hc9
    refine ax_iload_n (pc' := 45) dX5_givenBelow_44 rfl rfl ?_
    exact ax_iret dX5_givenBelow_45 rfl rfl rfl ⟨_, _, rfl, rfl, H⟩
  · have H := H.2 hc9
    refine ax_iload_n (pc' := 13) dX5_givenBelow_12 rfl rfl ?_
    refine ax_iconst (pc' := 14) (v := (1 : Int32)) dX5_givenBelow_13 (by decide) rfl ?_
    refine ax_iload (pc' := 16) dX5_givenBelow_14 rfl rfl ?_
    refine ax_ishl (pc' := 17) dX5_givenBelow_16 rfl ?_
    refine ax_iand (pc' := 18) dX5_givenBelow_17 rfl ?_
    refine ax_if_eq (pc' := 21) (tgt := 38) dX5_givenBelow_18 (by decide) rfl (fun hc18 => ?_) (fun hc18 => ?_)
    · have H := H.1 hc18
      refine ax_iinc (pc' := 41) (v := (x4 + (1 : Int32))) dX5_givenBelow_38 rfl rfl rfl rfl rfl ?_
      refine ax_goto (tgt := 5) dX5_givenBelow_41 (by decide) ?_
      exact H
    · have H := H.2 hc18
      refine ax_iload_n (pc' := 22) dX5_givenBelow_21 rfl rfl ?_
      refine ax_iload_n (pc' := 23) dX5_givenBelow_22 rfl rfl ?_
      refine ax_bipush (pc' := 25) (v := (99 : Int32)) dX5_givenBelow_23 (by decide) rfl ?_
      refine ax_aload_n (pc' := 26) dX5_givenBelow_25 rfl rfl ?_
      refine ax_getR (pc' := 29) dX5_givenBelow_26 fl_X5_9 (md_0 hm) rfl (md_8 hm) rfl ?_
      refine ax_iload (pc' := 31) dX5_givenBelow_29 rfl rfl ?_
      obtain ⟨hj31, H⟩ := H
      refine ax_iald (pc' := 32) dX5_givenBelow_31 (md_1 hm) hj31 (md_9 hm) rfl ?_
      refine ax_isub (pc' := 33) dX5_givenBelow_32 rfl ?_
      refine ax_min (pc' := 36) dX5_givenBelow_33 mj_X5_98 mk_min.1 mk_min.2.1 mk_min.2.2 rfl rfl rfl rfl ?_
      refine ax_iadd (pc' := 37) dX5_givenBelow_36 rfl ?_
      refine ax_topi (fun y37 hy37 => ?_)
      have H := H y37 hy37
      refine ax_istore_n (pc' := 38) dX5_givenBelow_37 rfl rfl rfl ?_
      refine ax_iinc (pc' := 41) (v := (x4 + (1 : Int32))) dX5_givenBelow_38 rfl rfl rfl rfl rfl ?_
      refine ax_goto (tgt := 5) dX5_givenBelow_41 (by decide) ?_
      exact H
theorem o_X5_givenBelow {g : ac_G} {τ : Nat → Nat → Int64} (d : Nat) (a : Nat) (p1 : Int32) (p2 : Int32) (hm : is_Md a) {Q : Int32 → ac_m → Prop} {s : ac_m} (H : w_X5_givenBelow a p1 p2 Q s) : ac_M g i_X5_givenBelow d 0 0 [.ref a, .int p1, .int p2] (false, 586, SH, s, τ) (liI τ Q) := by
  refine ac_ofX (by decide +kernel) rfl rfl rfl ?_
  refine ax_iconst (pc' := 1) (v := (0 : Int32)) dX5_givenBelow_0 (by decide) rfl ?_
  refine ax_istore_n (pc' := 2) dX5_givenBelow_1 rfl rfl rfl ?_
  refine ax_iconst (pc' := 3) (v := (0 : Int32)) dX5_givenBelow_2 (by decide) rfl ?_
  refine ax_istore (pc' := 5) dX5_givenBelow_3 rfl rfl rfl ?_
  refine ol_X5_givenBelow_5 d a p1 p2 hm _ _    H
