/-! String.length and String.charAt of the constants, by the JDK's own code -/
theorem sf_38 : Cond.fieldLink RJ0 38 "java/lang/String" "COMPACT_STRINGS" "Z" ∈ ac_tb := ac_at 787 (by decide +kernel) (by decide +kernel)
theorem sf_1053 : Cond.fieldLink RJ0 1053 "jdk/internal/util/Preconditions" "SIOOBE_FORMATTER" "Ljava/util/function/BiFunction;" ∈ ac_tb := ac_at 807 (by decide +kernel) (by decide +kernel)
theorem sf_9 : Cond.fieldLink RJ0 9 "java/lang/String" "value" "[B" ∈ ac_tb := ac_at 2175 (by decide +kernel) (by decide +kernel)
theorem sf_15 : Cond.fieldLink RJ0 15 "java/lang/String" "coder" "B" ∈ ac_tb := ac_at 2176 (by decide +kernel) (by decide +kernel)
theorem ac_sb_all : ∀ i, i < 22 → ((ac_sb i).length < 100 ∧ ∀ b ∈ ac_sb i, ((b &&& 255).toUInt32 % 65536).toInt32 = b ∧ narrow .char (.int b) = .int b) := by decide +kernel
theorem ac_sb_at {i k : Nat} (hi : i < 22) (hk : k < (ac_sb i).length) : (((ac_sb i).getD k 0 &&& 255).toUInt32 % 65536).toInt32 = (ac_sb i).getD k 0 ∧ narrow .char (.int ((ac_sb i).getD k 0)) = .int ((ac_sb i).getD k 0) := by
  have h : (ac_sb i).getD k 0 ∈ ac_sb i := by
    rw [List.getD_eq_getElem?_getD, List.getElem?_eq_getElem hk]
    exact List.getElem_mem hk
  exact (ac_sb_all i hi).2 _ h
section AXS
variable {g : ac_G} {I : ac_I} {d mc ms ce sl pc pc' idx i : Nat} {Q : ac_O → ac_W → Prop} {L : List (Option Value)} {S : List Value} {w : ac_W}
theorem so_coder (hi : i < 22) (H : Q (.inl (some (.int 0))) w) : ac_M g i_J0_coder_7d493 d 0 0 [.ref (1000000 + (1 + i))] w Q := by
  refine ac_ofX (by decide +kernel) rfl rfl rfl ?_
  refine ax_getCS (pc' := 3) dJ0_coder_7d493_0 sf_38 rfl ?_
  refine ax_if_eq (pc' := 6) (tgt := 13) dJ0_coder_7d493_3 (by decide) rfl (fun h => absurd h (by decide)) (fun _ => ?_)
  refine ax_aload_n (pc' := 7) dJ0_coder_7d493_6 rfl rfl ?_
  refine ax_getSC (pc' := 10) hi dJ0_coder_7d493_7 sf_15 rfl ?_
  refine ax_goto (tgt := 14) dJ0_coder_7d493_10 (by decide) ?_
  exact ax_zret dJ0_coder_7d493_14 rfl rfl rfl rfl H
theorem so_isLatin1 (hi : i < 22) (H : Q (.inl (some (.int 1))) w) : ac_M g i_J0_isLatin1_aae02 d 0 0 [.ref (1000000 + (1 + i))] w Q := by
  refine ac_ofX (by decide +kernel) rfl rfl rfl ?_
  refine ax_getCS (pc' := 3) dJ0_isLatin1_aae02_0 sf_38 rfl ?_
  refine ax_if_eq (pc' := 6) (tgt := 17) dJ0_isLatin1_aae02_3 (by decide) rfl (fun h => absurd h (by decide)) (fun _ => ?_)
  refine ax_aload_n (pc' := 7) dJ0_isLatin1_aae02_6 rfl rfl ?_
  refine ax_getSC (pc' := 10) hi dJ0_isLatin1_aae02_7 sf_15 rfl ?_
  refine ax_if_ne (pc' := 13) (tgt := 17) dJ0_isLatin1_aae02_10 (by decide) rfl (fun h => absurd rfl h) (fun _ => ?_)
  refine ax_iconst (pc' := 14) (v := 1) dJ0_isLatin1_aae02_13 (by decide) rfl ?_
  refine ax_goto (tgt := 18) dJ0_isLatin1_aae02_14 (by decide) ?_
  exact ax_zret dJ0_isLatin1_aae02_18 rfl rfl rfl rfl H
theorem so_length (hi : i < 22) (H : Q (.inl (some (.int (nI (ac_sb i).length)))) w) : ac_M g i_J0_length_8abf5 (d + 1) 0 0 [.ref (1000000 + (1 + i))] w Q := by
  refine ac_ofX (by decide +kernel) rfl rfl rfl ?_
  refine ax_aload_n (pc' := 1) dJ0_length_8abf5_0 rfl rfl ?_
  refine ax_getSV (pc' := 4) hi dJ0_length_8abf5_1 sf_9 rfl ?_
  refine ax_lenS (pc' := 5) hi dJ0_length_8abf5_4 rfl ?_
  refine ax_aload_n (pc' := 6) dJ0_length_8abf5_5 rfl rfl ?_
  refine ax_invVs (As := []) (I2 := i_J0_coder_7d493) rfl hi dJ0_length_8abf5_6 ml_J0_335 rfl rfl rfl rfl rfl rfl rfl (so_coder hi ?_)
  refine ax_ishr (pc' := 10) dJ0_length_8abf5_9 rfl ?_
  refine ax_eq rfl (S' := [.int (nI (ac_sb i).length)]) (by rw [sc_shr0 (by have := (ac_sb_all i hi).1; omega)]) rfl ?_
  exact ax_iret dJ0_length_8abf5_10 rfl rfl rfl H
theorem so_check3 {j n : Int32} {v : Value} (hv : v.category = 1) (h0 : ¬ j < 0) (h1 : j < n) (H : Q (.inl (some (.int j))) w) : ac_M g i_J3_checkIndex_8e157 d 0 0 [.int j, .int n, v] w Q := by
  refine ac_ofX (by decide +kernel) (by simp only [List.all_cons, List.all_nil, hv]; rfl) rfl rfl ?_
  refine ax_iload_n (pc' := 1) dJ3_checkIndex_8e157_0 rfl rfl ?_
  refine ax_if_lt (pc' := 4) (tgt := 9) dJ3_checkIndex_8e157_1 (by decide) rfl (fun h => absurd h h0) (fun _ => ?_)
  refine ax_iload_n (pc' := 5) dJ3_checkIndex_8e157_4 rfl rfl ?_
  refine ax_iload_n (pc' := 6) dJ3_checkIndex_8e157_5 rfl rfl ?_
  refine ax_icmp_lt (pc' := 9) (tgt := 16) dJ3_checkIndex_8e157_6 (by decide) rfl (fun _ => ?_) (fun h => absurd h1 h)
  refine ax_iload_n (pc' := 17) dJ3_checkIndex_8e157_16 rfl rfl ?_
  exact ax_iret dJ3_checkIndex_8e157_17 rfl rfl rfl H
theorem so_check {j n : Int32} (h0 : ¬ j < 0) (h1 : j < n) (H : Q (.inl none) w) : ac_M g i_J0_checkIndex_df160 (d + 1) 0 0 [.int j, .int n] w Q := by
  refine ac_ofX (by decide +kernel) rfl rfl rfl ?_
  refine ax_iload_n (pc' := 1) dJ0_checkIndex_df160_0 rfl rfl ?_
  refine ax_iload_n (pc' := 2) dJ0_checkIndex_df160_1 rfl rfl ?_
  refine ax_getFM (pc' := 5) dJ0_checkIndex_df160_2 sf_1053 rfl (fun v hv => ?_)
  refine ax_S3 (pc' := 8) (I2 := i_J3_checkIndex_8e157) dJ0_checkIndex_df160_5 ml_J0_1059 rfl rfl rfl rfl rfl rfl (so_check3 hv h0 h1 ?_)
  refine ax_pop (pc' := 9) (v := .int j) dJ0_checkIndex_df160_8 rfl rfl ?_
  exact ax_vret dJ0_checkIndex_df160_9 rfl rfl rfl H
theorem so_charAt1 {j : Int32} (hi : i < 22) (hj : vp_in j (ac_sb i).length) (H : Q (.inl (some (.int ((ac_sb i).getD j.toNatClampNeg 0)))) w) : ac_M g i_J1_charAt_3b067 (d + 2) 0 0 [.ref (1000000 + (101 + i)), .int j] w Q := by
  have hl := (ac_sb_all i hi).1
  have hlt : j.toNatClampNeg < (ac_sb i).length := Nat.not_le.mp fun q => hj (Or.inr q)
  obtain ⟨k, hk, rfl⟩ := vp_in_of hj (by omega)
  have hb := ac_sb_at hi hlt
  refine ac_ofX (by decide +kernel) rfl rfl rfl ?_
  refine ax_iload_n (pc' := 1) dJ1_charAt_3b067_0 rfl rfl ?_
  refine ax_aload_n (pc' := 2) dJ1_charAt_3b067_1 rfl rfl ?_
  refine ax_lenS (pc' := 3) hi dJ1_charAt_3b067_2 rfl ?_
  refine ax_S2 (pc' := 6) (I2 := i_J0_checkIndex_df160) dJ1_charAt_3b067_3 ml_J1_9 rfl rfl rfl rfl rfl rfl (so_check (nI_pos (by omega)) (nI_lt hk (by omega)) ?_)
  refine ax_aload_n (pc' := 7) dJ1_charAt_3b067_6 rfl rfl ?_
  refine ax_iload_n (pc' := 8) dJ1_charAt_3b067_7 rfl rfl ?_
  refine ax_aldS (pc' := 9) hi dJ1_charAt_3b067_8 hj rfl ?_
  refine ax_sipush (pc' := 12) (v := 255) dJ1_charAt_3b067_9 (by decide) rfl ?_
  refine ax_iand (pc' := 13) dJ1_charAt_3b067_12 rfl ?_
  refine ax_i2c (pc' := 14) dJ1_charAt_3b067_13 rfl ?_
  refine ax_eq rfl (S' := [.int ((ac_sb i).getD (nI k).toNatClampNeg 0)]) (by rw [hb.1]; rfl) rfl ?_
  exact ax_zret dJ1_charAt_3b067_14 rfl hb.2 rfl rfl H
theorem so_charAt {j : Int32} (hi : i < 22) (hj : vp_in j (ac_sb i).length) (H : Q (.inl (some (.int ((ac_sb i).getD j.toNatClampNeg 0)))) w) : ac_M g i_J0_charAt_5068e (d + 3) 0 0 [.ref (1000000 + (1 + i)), .int j] w Q := by
  have hb := ac_sb_at hi (Nat.not_le.mp fun q => hj (Or.inr q))
  refine ac_ofX (by decide +kernel) rfl rfl rfl ?_
  refine ax_aload_n (pc' := 1) dJ0_charAt_5068e_0 rfl rfl ?_
  refine ax_invVs (As := []) (I2 := i_J0_isLatin1_aae02) rfl hi dJ0_charAt_5068e_1 ml_J0_492 rfl rfl rfl rfl rfl rfl rfl (so_isLatin1 hi ?_)
  refine ax_if_eq (pc' := 7) (tgt := 16) dJ0_charAt_5068e_4 (by decide) rfl (fun h => absurd h (by decide)) (fun _ => ?_)
  refine ax_aload_n (pc' := 8) dJ0_charAt_5068e_7 rfl rfl ?_
  refine ax_getSV (pc' := 11) hi dJ0_charAt_5068e_8 sf_9 rfl ?_
  refine ax_iload_n (pc' := 12) dJ0_charAt_5068e_11 rfl rfl ?_
  refine ax_S2 (pc' := 15) (I2 := i_J1_charAt_3b067) dJ0_charAt_5068e_12 ml_J0_495 rfl rfl rfl rfl rfl rfl (so_charAt1 hi hj ?_)
  exact ax_zret dJ0_charAt_5068e_15 rfl hb.2 rfl rfl H
/-- the two members as rules -/
theorem ax_strlen (hd : decode I.2.1 pc = .ok (.invokevirtual idx, 3)) (hV : ac_V I.1.cls idx i_J0_length_8abf5 0) (hi : i < 22) (hh : I.2.2.2.2 = []) (hw : Nat.ble ((S.map fun v => v.category).sum) 8 = true) (hb1 : Nat.ble (ce + 0) mc = true) (hb2 : Nat.ble (sl + 0) ms = true) (hp : pc' = pc + 3) (kk : ac_X g I (d + 2) mc ms Q ce sl pc' L (.int (nI (ac_sb i).length) :: S) w) : ac_X g I (d + 2) mc ms Q ce sl pc L (.ref (1000000 + (1 + i)) :: S) w := by
  subst hp
  exact ax_invVs (As := []) (I2 := i_J0_length_8abf5) (d := d + 1) rfl hi hd hV rfl rfl rfl hh hw hb1 hb2 (so_length hi kk)
theorem ax_strchar {j : Int32} (hd : decode I.2.1 pc = .ok (.invokevirtual idx, 3)) (hV : ac_V I.1.cls idx i_J0_charAt_5068e 1) (hi : i < 22) (hj : vp_in j (ac_sb i).length) (hh : I.2.2.2.2 = []) (hw : Nat.ble ((S.map fun v => v.category).sum) 8 = true) (hb1 : Nat.ble (ce + 0) mc = true) (hb2 : Nat.ble (sl + 0) ms = true) (hp : pc' = pc + 3) (kk : ac_X g I (d + 4) mc ms Q ce sl pc' L (.int ((ac_sb i).getD j.toNatClampNeg 0) :: S) w) : ac_X g I (d + 4) mc ms Q ce sl pc L (.int j :: .ref (1000000 + (1 + i)) :: S) w := by
  subst hp
  exact ax_invVs (As := [.int j]) (I2 := i_J0_charAt_5068e) (d := d + 3) rfl hi hd hV rfl rfl rfl hh hw hb1 hb2 (so_charAt hi hj kk)
theorem ax_ldcT {index : Nat} {text : String} {bytes : List Int32} (hd : decode I.2.1 pc = .ok (.ldc index, 2)) (hi : ac_str[i]? = some (I.1.cls, index, text, bytes)) (hp : pc' = pc + 2) (kk : ac_X g I d mc ms Q ce sl pc' L (.ref (1000000 + (1 + i)) :: S) w) : ac_X g I d mc ms Q ce sl pc L S w := by
  refine ax_ldcS hd hi hp ?_
  rw [show 1000001 + i = 1000000 + (1 + i) by omega]
  exact kk
end AXS
