theorem ol_X12_book_48 {g : ac_G} {τ : Nat → Nat → Int64} (d : Nat) (p1 : Int32) {Q : Int32 → ac_m → Prop}    {x2 : Int32} {x3 : Int32} {s : ac_m} (H : l_X12_book_48 p1 Q    x2 x3 s) : ac_X g i_X12_book (d + 3) 0 0 (liI τ Q) 0 0 48 [some (.ref 69), none, some (.int x2), some (.int x3), none, none, none] [] (false, 586, SH, s, τ) := by
  refine H (fun x2 x3 s => ac_X g i_X12_book (d + 3) 0 0 (liI τ Q) 0 0 48 [some (.ref 69), none, some (.int x2), some (.int x3), none, none, none] [] (false, 586, SH, s, τ)) ?_
  intro x2 x3 s H
  refine ax_aload_n (pc' := 49) dX12_book_48 rfl rfl ?_
  refine ax_getI (pc' := 52) dX12_book_49 fl_X12_120 sh_69 rfl rfl rfl ?_
  refine ax_if_ne (pc' := 55) (tgt := 183) dX12_book_52 (by decide) rfl (fun hc52 => ?_) (fun hc52 => ?_)
  · have H := H.1 hc52
    refine ax_aload_n (pc' := 184) dX12_book_183 rfl rfl ?_
    refine ax_getI (pc' := 187) dX12_book_184 fl_X12_120 sh_69 rfl rfl rfl ?_
    refine ax_if_eq (pc' := 190) (tgt := 195) dX12_book_187 (by decide) rfl (fun hc187 => ?_) (fun hc187 => ?_)
    · have H := H.1 hc187
      refine ax_aload_n (pc' := 196) dX12_book_195 rfl rfl ?_
      refine ax_iconst (pc' := 197) (v := (-1 : Int32)) dX12_book_196 (by decide) rfl ?_
      refine ax_putI (pc' := 200) dX12_book_197 fp_X12_9 sh_69 rfl rfl rfl ?_
      refine ax_aload_n (pc' := 201) dX12_book_200 rfl rfl ?_
      refine ax_iload_n (pc' := 202) dX12_book_201 rfl rfl ?_
      refine ax_putI (pc' := 205) dX12_book_202 fp_X12_207 sh_69 rfl rfl rfl ?_
      refine ax_aload_n (pc' := 206) dX12_book_205 rfl rfl ?_
      refine ax_getR (pc' := 209) dX12_book_206 fl_X12_55 sh_69 rfl rfl rfl ?_
      refine ax_aload_n (pc' := 210) dX12_book_209 rfl rfl ?_
      refine ax_getR (pc' := 213) dX12_book_210 fl_X12_52 sh_69 rfl rfl rfl ?_
      refine ax_iload_n (pc' := 214) dX12_book_213 rfl rfl ?_
      refine ay_S3 (pc' := 217) (ce' := 0) (sl' := 0) (mc2 := 0) (ms2 := 0) (I2 := i_X12_lays) dX12_book_214 ml_X12_196 rfl rfl rfl rfl rfl rfl rfl rfl (ac_M.imp (o_X12_lays _ 466 6 467 2 459 6 460 x2 sh_466 rfl sh_r_467 sh_n_467 sh_459 rfl sh_r_460 sh_n_460 H) ?_)
      rintro _ _ ⟨s214, rfl, rfl, H⟩
      refine ax_iload_n (pc' := 218) dX12_book_217 rfl rfl ?_
      exact ax_iret dX12_book_218 rfl rfl rfl ⟨_, _, rfl, rfl, H⟩
    · have H := H.2 hc187
      refine ax_aload_n (pc' := 191) dX12_book_190 rfl rfl ?_
      refine ay_V0 (pc' := 194) (ce' := 0) (sl' := 0) (mc2 := 0) (ms2 := 0) (I2 := i_X12_ends) dX12_book_191 ml_X12_193 sh_69 (by decide) rfl rfl rfl rfl rfl rfl rfl rfl rfl (ac_M.imp (o_X12_ends _  H) ?_)
      rintro _ _ ⟨r191, s191, rfl, rfl, H⟩
      exact ax_iret dX12_book_194 rfl rfl rfl ⟨_, _, rfl, rfl, H⟩
  · have H := H.2 hc52
    refine ax_aload_n (pc' := 56) dX12_book_55 rfl rfl ?_
    refine ax_getI (pc' := 59) dX12_book_56 fl_X12_113 sh_69 rfl rfl rfl ?_
    refine ax_aload_n (pc' := 60) dX12_book_59 rfl rfl ?_
    refine ax_getI (pc' := 63) dX12_book_60 fl_X12_110 sh_69 rfl rfl rfl ?_
    refine ax_icmp_ge (pc' := 66) (tgt := 183) dX12_book_63 (by decide) rfl (fun hc63 => ?_) (fun hc63 => ?_)
    · have H := H.1 hc63
      refine ax_aload_n (pc' := 184) dX12_book_183 rfl rfl ?_
      refine ax_getI (pc' := 187) dX12_book_184 fl_X12_120 sh_69 rfl rfl rfl ?_
      refine ax_if_eq (pc' := 190) (tgt := 195) dX12_book_187 (by decide) rfl (fun hc187 => ?_) (fun hc187 => ?_)
      · have H := H.1 hc187
        refine ax_aload_n (pc' := 196) dX12_book_195 rfl rfl ?_
        refine ax_iconst (pc' := 197) (v := (-1 : Int32)) dX12_book_196 (by decide) rfl ?_
        refine ax_putI (pc' := 200) dX12_book_197 fp_X12_9 sh_69 rfl rfl rfl ?_
        refine ax_aload_n (pc' := 201) dX12_book_200 rfl rfl ?_
        refine ax_iload_n (pc' := 202) dX12_book_201 rfl rfl ?_
        refine ax_putI (pc' := 205) dX12_book_202 fp_X12_207 sh_69 rfl rfl rfl ?_
        refine ax_aload_n (pc' := 206) dX12_book_205 rfl rfl ?_
        refine ax_getR (pc' := 209) dX12_book_206 fl_X12_55 sh_69 rfl rfl rfl ?_
        refine ax_aload_n (pc' := 210) dX12_book_209 rfl rfl ?_
        refine ax_getR (pc' := 213) dX12_book_210 fl_X12_52 sh_69 rfl rfl rfl ?_
        refine ax_iload_n (pc' := 214) dX12_book_213 rfl rfl ?_
        refine ay_S3 (pc' := 217) (ce' := 0) (sl' := 0) (mc2 := 0) (ms2 := 0) (I2 := i_X12_lays) dX12_book_214 ml_X12_196 rfl rfl rfl rfl rfl rfl rfl rfl (ac_M.imp (o_X12_lays _ 466 6 467 2 459 6 460 x2 sh_466 rfl sh_r_467 sh_n_467 sh_459 rfl sh_r_460 sh_n_460 H) ?_)
        rintro _ _ ⟨s214, rfl, rfl, H⟩
        refine ax_iload_n (pc' := 218) dX12_book_217 rfl rfl ?_
        exact ax_iret dX12_book_218 rfl rfl rfl ⟨_, _, rfl, rfl, H⟩
      · have H := H.2 hc187
        refine ax_aload_n (pc' := 191) dX12_book_190 rfl rfl ?_
        refine ay_V0 (pc' := 194) (ce' := 0) (sl' := 0) (mc2 := 0) (ms2 := 0) (I2 := i_X12_ends) dX12_book_191 ml_X12_193 sh_69 (by decide) rfl rfl rfl rfl rfl rfl rfl rfl rfl (ac_M.imp (o_X12_ends _  H) ?_)
        rintro _ _ ⟨r191, s191, rfl, rfl, H⟩
        exact ax_iret dX12_book_194 rfl rfl rfl ⟨_, _, rfl, rfl, H⟩
    · have H := H.2 hc63
      refine ax_aload_n (pc' := 67) dX12_book_66 rfl rfl ?_
      refine ax_getI (pc' := 70) dX12_book_67 fl_X12_113 sh_69 rfl rfl rfl ?_
      refine ax_istore (pc' := 72) dX12_book_70 rfl rfl rfl ?_
      refine ax_aload_n (pc' := 73) dX12_book_72 rfl rfl ?_
      refine ax_iconst (pc' := 74) (v := (1 : Int32)) dX12_book_73 (by decide) rfl ?_
      refine ax_bipush (pc' := 76) (v := (12 : Int32)) dX12_book_74 (by decide) rfl ?_
      refine ay_V2 (pc' := 79) (ce' := 0) (sl' := 0) (mc2 := 0) (ms2 := 0) (I2 := i_X12_number) dX12_book_76 ml_X12_166 sh_69 (by decide) rfl rfl rfl rfl rfl rfl rfl rfl rfl (ac_M.imp (o_X12_number _ (1 : Int32) (12 : Int32) H) ?_)
      rintro _ _ ⟨r76, s76, rfl, rfl, H⟩
      refine ax_istore (pc' := 81) dX12_book_79 rfl rfl rfl ?_
      refine ax_aload_n (pc' := 82) dX12_book_81 rfl rfl ?_
      refine ax_getI (pc' := 85) dX12_book_82 fl_X12_120 sh_69 rfl rfl rfl ?_
      refine ax_if_ne (pc' := 88) (tgt := 104) dX12_book_85 (by decide) rfl (fun hc85 => ?_) (fun hc85 => ?_)
      · have H := H.1 hc85
        refine ax_aload_n (pc' := 105) dX12_book_104 rfl rfl ?_
        refine ax_getI (pc' := 108) dX12_book_105 fl_X12_120 sh_69 rfl rfl rfl ?_
        refine ax_if_ne (pc' := 111) (tgt := 124) dX12_book_108 (by decide) rfl (fun hc108 => ?_) (fun hc108 => ?_)
        · have H := H.1 hc108
          refine ax_aload_n (pc' := 125) dX12_book_124 rfl rfl ?_
          refine ax_iconst (pc' := 126) (v := (0 : Int32)) dX12_book_125 (by decide) rfl ?_
          refine ax_bipush (pc' := 128) (v := (99 : Int32)) dX12_book_126 (by decide) rfl ?_
          refine ay_V2 (pc' := 131) (ce' := 0) (sl' := 0) (mc2 := 0) (ms2 := 0) (I2 := i_X12_number) dX12_book_128 ml_X12_166 sh_69 (by decide) rfl rfl rfl rfl rfl rfl rfl rfl rfl (ac_M.imp (o_X12_number _ (0 : Int32) (99 : Int32) H) ?_)
          rintro _ _ ⟨r128, s128, rfl, rfl, H⟩
          refine ax_istore (pc' := 133) dX12_book_131 rfl rfl rfl ?_
          refine ax_aload_n (pc' := 134) dX12_book_133 rfl rfl ?_
          refine ax_bipush (pc' := 136) (v := (59 : Int32)) dX12_book_134 (by decide) rfl ?_
          refine ay_V1 (pc' := 139) (ce' := 0) (sl' := 0) (mc2 := 0) (ms2 := 0) (I2 := i_X12_sign) dX12_book_136 ml_X12_179 sh_69 (by decide) rfl rfl rfl rfl rfl rfl rfl rfl rfl (ac_M.imp (o_X12_sign _ (59 : Int32) H) ?_)
          rintro _ _ ⟨s136, rfl, rfl, H⟩
          refine ax_aload_n (pc' := 140) dX12_book_139 rfl rfl ?_
          refine ax_getI (pc' := 143) dX12_book_140 fl_X12_120 sh_69 rfl rfl rfl ?_
          refine ax_if_ne (pc' := 146) (tgt := 176) dX12_book_143 (by decide) rfl (fun hc143 => ?_) (fun hc143 => ?_)
          · have H := H.1 hc143
            refine ax_aload_n (pc' := 177) dX12_book_176 rfl rfl ?_
            refine ay_V0 (pc' := 180) (ce' := 0) (sl' := 0) (mc2 := 0) (ms2 := 0) (I2 := i_X12_blanks) dX12_book_177 ml_X12_126 sh_69 (by decide) rfl rfl rfl rfl rfl rfl rfl rfl rfl (ac_M.imp (o_X12_blanks _  H) ?_)
            rintro _ _ ⟨s177, rfl, rfl, H⟩
            refine ax_goto (tgt := 48) dX12_book_180 (by decide) ?_
            refine ax_drop 4 rfl ?_
            refine ax_drop 5 rfl ?_
            refine ax_drop 6 rfl ?_
            exact H
          · have H := H.2 hc143
            refine ax_iload_n (pc' := 147) dX12_book_146 rfl rfl ?_
            refine ax_iconst (pc' := 148) (v := (1 : Int32)) dX12_book_147 (by decide) rfl ?_
            refine ax_iload (pc' := 150) dX12_book_148 rfl rfl ?_
            refine ax_ishl (pc' := 151) dX12_book_150 rfl ?_
            refine ax_ior (pc' := 152) dX12_book_151 rfl ?_
            refine ax_istore_n (pc' := 153) dX12_book_152 rfl rfl rfl ?_
            refine ax_aload_n (pc' := 154) dX12_book_153 rfl rfl ?_
            refine ax_getR (pc' := 157) dX12_book_154 fl_X12_55 sh_69 rfl rfl rfl ?_
            refine ax_iload_n (pc' := 158) dX12_book_157 rfl rfl ?_
            obtain ⟨hj158, H⟩ := H
            refine ax_aald (pc' := 159) dX12_book_158 sh_466 hj158 rfl rfl ?_
            refine ax_iconst (pc' := 160) (v := (0 : Int32)) dX12_book_159 (by decide) rfl ?_
            refine ax_iload (pc' := 162) dX12_book_160 rfl rfl ?_
            refine ax_iast (pc' := 163) dX12_book_162 (sh_r_467 _ (ac_lt hj158)) (ac_in (by decide)) (sh_n_467 _ (ac_lt hj158)) rfl ?_
            refine ax_aload_n (pc' := 164) dX12_book_163 rfl rfl ?_
            refine ax_getR (pc' := 167) dX12_book_164 fl_X12_55 sh_69 rfl rfl rfl ?_
            refine ax_iload_n (pc' := 168) dX12_book_167 rfl rfl ?_
            obtain ⟨hj168, H⟩ := H
            refine ax_aald (pc' := 169) dX12_book_168 sh_466 hj168 rfl rfl ?_
            refine ax_iconst (pc' := 170) (v := (1 : Int32)) dX12_book_169 (by decide) rfl ?_
            refine ax_iload (pc' := 172) dX12_book_170 rfl rfl ?_
            refine ax_iast (pc' := 173) dX12_book_172 (sh_r_467 _ (ac_lt hj168)) (ac_in (by decide)) (sh_n_467 _ (ac_lt hj168)) rfl ?_
            refine ax_iinc (pc' := 176) (v := (x2 + (1 : Int32))) dX12_book_173 rfl rfl rfl rfl rfl ?_
            refine ax_aload_n (pc' := 177) dX12_book_176 rfl rfl ?_
            refine ay_V0 (pc' := 180) (ce' := 0) (sl' := 0) (mc2 := 0) (ms2 := 0) (I2 := i_X12_blanks) dX12_book_177 ml_X12_126 sh_69 (by decide) rfl rfl rfl rfl rfl rfl rfl rfl rfl (ac_M.imp (o_X12_blanks _  H) ?_)
            rintro _ _ ⟨s177, rfl, rfl, H⟩
            refine ax_goto (tgt := 48) dX12_book_180 (by decide) ?_
            refine ax_drop 4 rfl ?_
            refine ax_drop 5 rfl ?_
            refine ax_drop 6 rfl ?_
            exact H
        · have H := H.2 hc108
          refine ax_iload_n (pc' := 112) dX12_book_111 rfl rfl ?_
          refine ax_bipush (pc' := 114) (v := (6 : Int32)) dX12_book_112 (by decide) rfl ?_
          refine ax_icmp_ne (pc' := 117) (tgt := 124) dX12_book_114 (by decide) rfl (fun hc114 => ?_) (fun hc114 => ?_)
          · have H := H.1 hc114
            refine ax_aload_n (pc' := 125) dX12_book_124 rfl rfl ?_
            refine ax_iconst (pc' := 126) (v := (0 : Int32)) dX12_book_125 (by decide) rfl ?_
            refine ax_bipush (pc' := 128) (v := (99 : Int32)) dX12_book_126 (by decide) rfl ?_
            refine ay_V2 (pc' := 131) (ce' := 0) (sl' := 0) (mc2 := 0) (ms2 := 0) (I2 := i_X12_number) dX12_book_128 ml_X12_166 sh_69 (by decide) rfl rfl rfl rfl rfl rfl rfl rfl rfl (ac_M.imp (o_X12_number _ (0 : Int32) (99 : Int32) H) ?_)
            rintro _ _ ⟨r128, s128, rfl, rfl, H⟩
            refine ax_istore (pc' := 133) dX12_book_131 rfl rfl rfl ?_
            refine ax_aload_n (pc' := 134) dX12_book_133 rfl rfl ?_
            refine ax_bipush (pc' := 136) (v := (59 : Int32)) dX12_book_134 (by decide) rfl ?_
            refine ay_V1 (pc' := 139) (ce' := 0) (sl' := 0) (mc2 := 0) (ms2 := 0) (I2 := i_X12_sign) dX12_book_136 ml_X12_179 sh_69 (by decide) rfl rfl rfl rfl rfl rfl rfl rfl rfl (ac_M.imp (o_X12_sign _ (59 : Int32) H) ?_)
            rintro _ _ ⟨s136, rfl, rfl, H⟩
            refine ax_aload_n (pc' := 140) dX12_book_139 rfl rfl ?_
            refine ax_getI (pc' := 143) dX12_book_140 fl_X12_120 sh_69 rfl rfl rfl ?_
            refine ax_if_ne (pc' := 146) (tgt := 176) dX12_book_143 (by decide) rfl (fun hc143 => ?_) (fun hc143 => ?_)
            · have H := H.1 hc143
              refine ax_aload_n (pc' := 177) dX12_book_176 rfl rfl ?_
              refine ay_V0 (pc' := 180) (ce' := 0) (sl' := 0) (mc2 := 0) (ms2 := 0) (I2 := i_X12_blanks) dX12_book_177 ml_X12_126 sh_69 (by decide) rfl rfl rfl rfl rfl rfl rfl rfl rfl (ac_M.imp (o_X12_blanks _  H) ?_)
              rintro _ _ ⟨s177, rfl, rfl, H⟩
              refine ax_goto (tgt := 48) dX12_book_180 (by decide) ?_
              refine ax_drop 4 rfl ?_
              refine ax_drop 5 rfl ?_
              refine ax_drop 6 rfl ?_
              exact H
            · have H := H.2 hc143
              refine ax_iload_n (pc' := 147) dX12_book_146 rfl rfl ?_
              refine ax_iconst (pc' := 148) (v := (1 : Int32)) dX12_book_147 (by decide) rfl ?_
              refine ax_iload (pc' := 150) dX12_book_148 rfl rfl ?_
              refine ax_ishl (pc' := 151) dX12_book_150 rfl ?_
              refine ax_ior (pc' := 152) dX12_book_151 rfl ?_
              refine ax_istore_n (pc' := 153) dX12_book_152 rfl rfl rfl ?_
              refine ax_aload_n (pc' := 154) dX12_book_153 rfl rfl ?_
              refine ax_getR (pc' := 157) dX12_book_154 fl_X12_55 sh_69 rfl rfl rfl ?_
              refine ax_iload_n (pc' := 158) dX12_book_157 rfl rfl ?_
              obtain ⟨hj158, H⟩ := H
              refine ax_aald (pc' := 159) dX12_book_158 sh_466 hj158 rfl rfl ?_
              refine ax_iconst (pc' := 160) (v := (0 : Int32)) dX12_book_159 (by decide) rfl ?_
              refine ax_iload (pc' := 162) dX12_book_160 rfl rfl ?_
              refine ax_iast (pc' := 163) dX12_book_162 (sh_r_467 _ (ac_lt hj158)) (ac_in (by decide)) (sh_n_467 _ (ac_lt hj158)) rfl ?_
              refine ax_aload_n (pc' := 164) dX12_book_163 rfl rfl ?_
              refine ax_getR (pc' := 167) dX12_book_164 fl_X12_55 sh_69 rfl rfl rfl ?_
              refine ax_iload_n (pc' := 168) dX12_book_167 rfl rfl ?_
              obtain ⟨hj168, H⟩ := H
              refine ax_aald (pc' := 169) dX12_book_168 sh_466 hj168 rfl rfl ?_
              refine ax_iconst (pc' := 170) (v := (1 : Int32)) dX12_book_169 (by decide) rfl ?_
              refine ax_iload (pc' := 172) dX12_book_170 rfl rfl ?_
              refine ax_iast (pc' := 173) dX12_book_172 (sh_r_467 _ (ac_lt hj168)) (ac_in (by decide)) (sh_n_467 _ (ac_lt hj168)) rfl ?_
              refine ax_iinc (pc' := 176) (v := (x2 + (1 : Int32))) dX12_book_173 rfl rfl rfl rfl rfl ?_
              refine ax_aload_n (pc' := 177) dX12_book_176 rfl rfl ?_
              refine ay_V0 (pc' := 180) (ce' := 0) (sl' := 0) (mc2 := 0) (ms2 := 0) (I2 := i_X12_blanks) dX12_book_177 ml_X12_126 sh_69 (by decide) rfl rfl rfl rfl rfl rfl rfl rfl rfl (ac_M.imp (o_X12_blanks _  H) ?_)
              rintro _ _ ⟨s177, rfl, rfl, H⟩
              refine ax_goto (tgt := 48) dX12_book_180 (by decide) ?_
              refine ax_drop 4 rfl ?_
              refine ax_drop 5 rfl ?_
              refine ax_drop 6 rfl ?_
              exact H
          · have H := H.2 hc114
            refine ax_aload_n (pc' := 118) dX12_book_117 rfl rfl ?_
            refine ax_iconst (pc' := 119) (v := (3 : Int32)) dX12_book_118 (by decide) rfl ?_
            refine ax_iload (pc' := 121) dX12_book_119 rfl rfl ?_
            refine ay_V2 (pc' := 124) (ce' := 0) (sl' := 0) (mc2 := 0) (ms2 := 0) (I2 := i_X12_wrong) dX12_book_121 ml_X12_133 sh_69 (by decide) rfl rfl rfl rfl rfl rfl rfl rfl rfl (ac_M.imp (o_X12_wrong _ (3 : Int32) (s 69 4) H) ?_)
            rintro _ _ ⟨s121, rfl, rfl, H⟩
            refine ax_aload_n (pc' := 125) dX12_book_124 rfl rfl ?_
            refine ax_iconst (pc' := 126) (v := (0 : Int32)) dX12_book_125 (by decide) rfl ?_
            refine ax_bipush (pc' := 128) (v := (99 : Int32)) dX12_book_126 (by decide) rfl ?_
            refine ay_V2 (pc' := 131) (ce' := 0) (sl' := 0) (mc2 := 0) (ms2 := 0) (I2 := i_X12_number) dX12_book_128 ml_X12_166 sh_69 (by decide) rfl rfl rfl rfl rfl rfl rfl rfl rfl (ac_M.imp (o_X12_number _ (0 : Int32) (99 : Int32) H) ?_)
            rintro _ _ ⟨r128, s128, rfl, rfl, H⟩
            refine ax_istore (pc' := 133) dX12_book_131 rfl rfl rfl ?_
            refine ax_aload_n (pc' := 134) dX12_book_133 rfl rfl ?_
            refine ax_bipush (pc' := 136) (v := (59 : Int32)) dX12_book_134 (by decide) rfl ?_
            refine ay_V1 (pc' := 139) (ce' := 0) (sl' := 0) (mc2 := 0) (ms2 := 0) (I2 := i_X12_sign) dX12_book_136 ml_X12_179 sh_69 (by decide) rfl rfl rfl rfl rfl rfl rfl rfl rfl (ac_M.imp (o_X12_sign _ (59 : Int32) H) ?_)
            rintro _ _ ⟨s136, rfl, rfl, H⟩
            refine ax_aload_n (pc' := 140) dX12_book_139 rfl rfl ?_
            refine ax_getI (pc' := 143) dX12_book_140 fl_X12_120 sh_69 rfl rfl rfl ?_
            refine ax_if_ne (pc' := 146) (tgt := 176) dX12_book_143 (by decide) rfl (fun hc143 => ?_) (fun hc143 => ?_)
            · have H := H.1 hc143
              refine ax_aload_n (pc' := 177) dX12_book_176 rfl rfl ?_
              refine ay_V0 (pc' := 180) (ce' := 0) (sl' := 0) (mc2 := 0) (ms2 := 0) (I2 := i_X12_blanks) dX12_book_177 ml_X12_126 sh_69 (by decide) rfl rfl rfl rfl rfl rfl rfl rfl rfl (ac_M.imp (o_X12_blanks _  H) ?_)
              rintro _ _ ⟨s177, rfl, rfl, H⟩
              refine ax_goto (tgt := 48) dX12_book_180 (by decide) ?_
              refine ax_drop 4 rfl ?_
              refine ax_drop 5 rfl ?_
              refine ax_drop 6 rfl ?_
              exact H
            · have H := H.2 hc143
              refine ax_iload_n (pc' := 147) dX12_book_146 rfl rfl ?_
              refine ax_iconst (pc' := 148) (v := (1 : Int32)) dX12_book_147 (by decide) rfl ?_
              refine ax_iload (pc' := 150) dX12_book_148 rfl rfl ?_
              refine ax_ishl (pc' := 151) dX12_book_150 rfl ?_
              refine ax_ior (pc' := 152) dX12_book_151 rfl ?_
              refine ax_istore_n (pc' := 153) dX12_book_152 rfl rfl rfl ?_
              refine ax_aload_n (pc' := 154) dX12_book_153 rfl rfl ?_
              refine ax_getR (pc' := 157) dX12_book_154 fl_X12_55 sh_69 rfl rfl rfl ?_
              refine ax_iload_n (pc' := 158) dX12_book_157 rfl rfl ?_
              obtain ⟨hj158, H⟩ := H
              refine ax_aald (pc' := 159) dX12_book_158 sh_466 hj158 rfl rfl ?_
              refine ax_iconst (pc' := 160) (v := (0 : Int32)) dX12_book_159 (by decide) rfl ?_
              refine ax_iload (pc' := 162) dX12_book_160 rfl rfl ?_
              refine ax_iast (pc' := 163) dX12_book_162 (sh_r_467 _ (ac_lt hj158)) (ac_in (by decide)) (sh_n_467 _ (ac_lt hj158)) rfl ?_
              refine ax_aload_n (pc' := 164) dX12_book_163 rfl rfl ?_
              refine ax_getR (pc' := 167) dX12_book_164 fl_X12_55 sh_69 rfl rfl rfl ?_
              refine ax_iload_n (pc' := 168) dX12_book_167 rfl rfl ?_
              obtain ⟨hj168, H⟩ := H
              refine ax_aald (pc' := 169) dX12_book_168 sh_466 hj168 rfl rfl ?_
              refine ax_iconst (pc' := 170) (v := (1 : Int32)) dX12_book_169 (by decide) rfl ?_
              refine ax_iload (pc' := 172) dX12_book_170 rfl rfl ?_
              refine ax_iast (pc' := 173) dX12_book_172 (sh_r_467 _ (ac_lt hj168)) (ac_in (by decide)) (sh_n_467 _ (ac_lt hj168)) rfl ?_
              refine ax_iinc (pc' := 176) (v := (x2 + (1 : Int32))) dX12_book_173 rfl rfl rfl rfl rfl ?_
              refine ax_aload_n (pc' := 177) dX12_book_176 rfl rfl ?_
              refine ay_V0 (pc' := 180) (ce' := 0) (sl' := 0) (mc2 := 0) (ms2 := 0) (I2 := i_X12_blanks) dX12_book_177 ml_X12_126 sh_69 (by decide) rfl rfl rfl rfl rfl rfl rfl rfl rfl (ac_M.imp (o_X12_blanks _  H) ?_)
              rintro _ _ ⟨s177, rfl, rfl, H⟩
              refine ax_goto (tgt := 48) dX12_book_180 (by decide) ?_
              refine ax_drop 4 rfl ?_
              refine ax_drop 5 rfl ?_
              refine ax_drop 6 rfl ?_
              exact H
      · have H := H.2 hc85
        refine ax_iload_n (pc' := 89) dX12_book_88 rfl rfl ?_
        refine ax_iload (pc' := 91) dX12_book_89 rfl rfl ?_
        refine ay_S2 (pc' := 94) (ce' := 0) (sl' := 0) (mc2 := 0) (ms2 := 0) (I2 := i_X12_has) dX12_book_91 ml_X12_266 rfl rfl rfl rfl rfl rfl rfl rfl (ac_M.imp (o_X12_has _ x3 r76 H) ?_)
        rintro _ _ ⟨r91, s91, rfl, rfl, H⟩
        refine ax_if_eq (pc' := 97) (tgt := 104) dX12_book_94 (by decide) rfl (fun hc94 => ?_) (fun hc94 => ?_)
        · have H := H.1 hc94
          refine ax_aload_n (pc' := 105) dX12_book_104 rfl rfl ?_
          refine ax_getI (pc' := 108) dX12_book_105 fl_X12_120 sh_69 rfl rfl rfl ?_
          refine ax_if_ne (pc' := 111) (tgt := 124) dX12_book_108 (by decide) rfl (fun hc108 => ?_) (fun hc108 => ?_)
          · have H := H.1 hc108
            refine ax_aload_n (pc' := 125) dX12_book_124 rfl rfl ?_
            refine ax_iconst (pc' := 126) (v := (0 : Int32)) dX12_book_125 (by decide) rfl ?_
            refine ax_bipush (pc' := 128) (v := (99 : Int32)) dX12_book_126 (by decide) rfl ?_
            refine ay_V2 (pc' := 131) (ce' := 0) (sl' := 0) (mc2 := 0) (ms2 := 0) (I2 := i_X12_number) dX12_book_128 ml_X12_166 sh_69 (by decide) rfl rfl rfl rfl rfl rfl rfl rfl rfl (ac_M.imp (o_X12_number _ (0 : Int32) (99 : Int32) H) ?_)
            rintro _ _ ⟨r128, s128, rfl, rfl, H⟩
            refine ax_istore (pc' := 133) dX12_book_131 rfl rfl rfl ?_
            refine ax_aload_n (pc' := 134) dX12_book_133 rfl rfl ?_
            refine ax_bipush (pc' := 136) (v := (59 : Int32)) dX12_book_134 (by decide) rfl ?_
            refine ay_V1 (pc' := 139) (ce' := 0) (sl' := 0) (mc2 := 0) (ms2 := 0) (I2 := i_X12_sign) dX12_book_136 ml_X12_179 sh_69 (by decide) rfl rfl rfl rfl rfl rfl rfl rfl rfl (ac_M.imp (o_X12_sign _ (59 : Int32) H) ?_)
            rintro _ _ ⟨s136, rfl, rfl, H⟩
            refine ax_aload_n (pc' := 140) dX12_book_139 rfl rfl ?_
            refine ax_getI (pc' := 143) dX12_book_140 fl_X12_120 sh_69 rfl rfl rfl ?_
            refine ax_if_ne (pc' := 146) (tgt := 176) dX12_book_143 (by decide) rfl (fun hc143 => ?_) (fun hc143 => ?_)
            · have H := H.1 hc143
              refine ax_aload_n (pc' := 177) dX12_book_176 rfl rfl ?_
              refine ay_V0 (pc' := 180) (ce' := 0) (sl' := 0) (mc2 := 0) (ms2 := 0) (I2 := i_X12_blanks) dX12_book_177 ml_X12_126 sh_69 (by decide) rfl rfl rfl rfl rfl rfl rfl rfl rfl (ac_M.imp (o_X12_blanks _  H) ?_)
              rintro _ _ ⟨s177, rfl, rfl, H⟩
              refine ax_goto (tgt := 48) dX12_book_180 (by decide) ?_
              refine ax_drop 4 rfl ?_
              refine ax_drop 5 rfl ?_
              refine ax_drop 6 rfl ?_
              exact H
            · have H := H.2 hc143
              refine ax_iload_n (pc' := 147) dX12_book_146 rfl rfl ?_
              refine ax_iconst (pc' := 148) (v := (1 : Int32)) dX12_book_147 (by decide) rfl ?_
              refine ax_iload (pc' := 150) dX12_book_148 rfl rfl ?_
              refine ax_ishl (pc' := 151) dX12_book_150 rfl ?_
              refine ax_ior (pc' := 152) dX12_book_151 rfl ?_
              refine ax_istore_n (pc' := 153) dX12_book_152 rfl rfl rfl ?_
              refine ax_aload_n (pc' := 154) dX12_book_153 rfl rfl ?_
              refine ax_getR (pc' := 157) dX12_book_154 fl_X12_55 sh_69 rfl rfl rfl ?_
              refine ax_iload_n (pc' := 158) dX12_book_157 rfl rfl ?_
              obtain ⟨hj158, H⟩ := H
              refine ax_aald (pc' := 159) dX12_book_158 sh_466 hj158 rfl rfl ?_
              refine ax_iconst (pc' := 160) (v := (0 : Int32)) dX12_book_159 (by decide) rfl ?_
              refine ax_iload (pc' := 162) dX12_book_160 rfl rfl ?_
              refine ax_iast (pc' := 163) dX12_book_162 (sh_r_467 _ (ac_lt hj158)) (ac_in (by decide)) (sh_n_467 _ (ac_lt hj158)) rfl ?_
              refine ax_aload_n (pc' := 164) dX12_book_163 rfl rfl ?_
              refine ax_getR (pc' := 167) dX12_book_164 fl_X12_55 sh_69 rfl rfl rfl ?_
              refine ax_iload_n (pc' := 168) dX12_book_167 rfl rfl ?_
              obtain ⟨hj168, H⟩ := H
              refine ax_aald (pc' := 169) dX12_book_168 sh_466 hj168 rfl rfl ?_
              refine ax_iconst (pc' := 170) (v := (1 : Int32)) dX12_book_169 (by decide) rfl ?_
              refine ax_iload (pc' := 172) dX12_book_170 rfl rfl ?_
              refine ax_iast (pc' := 173) dX12_book_172 (sh_r_467 _ (ac_lt hj168)) (ac_in (by decide)) (sh_n_467 _ (ac_lt hj168)) rfl ?_
              refine ax_iinc (pc' := 176) (v := (x2 + (1 : Int32))) dX12_book_173 rfl rfl rfl rfl rfl ?_
              refine ax_aload_n (pc' := 177) dX12_book_176 rfl rfl ?_
              refine ay_V0 (pc' := 180) (ce' := 0) (sl' := 0) (mc2 := 0) (ms2 := 0) (I2 := i_X12_blanks) dX12_book_177 ml_X12_126 sh_69 (by decide) rfl rfl rfl rfl rfl rfl rfl rfl rfl (ac_M.imp (o_X12_blanks _  H) ?_)
              rintro _ _ ⟨s177, rfl, rfl, H⟩
              refine ax_goto (tgt := 48) dX12_book_180 (by decide) ?_
              refine ax_drop 4 rfl ?_
              refine ax_drop 5 rfl ?_
              refine ax_drop 6 rfl ?_
              exact H
          · have H := H.2 hc108
            refine ax_iload_n (pc' := 112) dX12_book_111 rfl rfl ?_
            refine ax_bipush (pc' := 114) (v := (6 : Int32)) dX12_book_112 (by decide) rfl ?_
            refine ax_icmp_ne (pc' := 117) (tgt := 124) dX12_book_114 (by decide) rfl (fun hc114 => ?_) (fun hc114 => ?_)
            · have H := H.1 hc114
              refine ax_aload_n (pc' := 125) dX12_book_124 rfl rfl ?_
              refine ax_iconst (pc' := 126) (v := (0 : Int32)) dX12_book_125 (by decide) rfl ?_
              refine ax_bipush (pc' := 128) (v := (99 : Int32)) dX12_book_126 (by decide) rfl ?_
              refine ay_V2 (pc' := 131) (ce' := 0) (sl' := 0) (mc2 := 0) (ms2 := 0) (I2 := i_X12_number) dX12_book_128 ml_X12_166 sh_69 (by decide) rfl rfl rfl rfl rfl rfl rfl rfl rfl (ac_M.imp (o_X12_number _ (0 : Int32) (99 : Int32) H) ?_)
              rintro _ _ ⟨r128, s128, rfl, rfl, H⟩
              refine ax_istore (pc' := 133) dX12_book_131 rfl rfl rfl ?_
              refine ax_aload_n (pc' := 134) dX12_book_133 rfl rfl ?_
              refine ax_bipush (pc' := 136) (v := (59 : Int32)) dX12_book_134 (by decide) rfl ?_
              refine ay_V1 (pc' := 139) (ce' := 0) (sl' := 0) (mc2 := 0) (ms2 := 0) (I2 := i_X12_sign) dX12_book_136 ml_X12_179 sh_69 (by decide) rfl rfl rfl rfl rfl rfl rfl rfl rfl (ac_M.imp (o_X12_sign _ (59 : Int32) H) ?_)
              rintro _ _ ⟨s136, rfl, rfl, H⟩
              refine ax_aload_n (pc' := 140) dX12_book_139 rfl rfl ?_
              refine ax_getI (pc' := 143) dX12_book_140 fl_X12_120 sh_69 rfl rfl rfl ?_
              refine ax_if_ne (pc' := 146) (tgt := 176) dX12_book_143 (by decide) rfl (fun hc143 => ?_) (fun hc143 => ?_)
              · have H := H.1 hc143
                refine ax_aload_n (pc' := 177) dX12_book_176 rfl rfl ?_
                refine ay_V0 (pc' := 180) (ce' := 0) (sl' := 0) (mc2 := 0) (ms2 := 0) (I2 := i_X12_blanks) dX12_book_177 ml_X12_126 sh_69 (by decide) rfl rfl rfl rfl rfl rfl rfl rfl rfl (ac_M.imp (o_X12_blanks _  H) ?_)
                rintro _ _ ⟨s177, rfl, rfl, H⟩
                refine ax_goto (tgt := 48) dX12_book_180 (by decide) ?_
                refine ax_drop 4 rfl ?_
                refine ax_drop 5 rfl ?_
                refine ax_drop 6 rfl ?_
                exact H
              · have H := H.2 hc143
                refine ax_iload_n (pc' := 147) dX12_book_146 rfl rfl ?_
                refine ax_iconst (pc' := 148) (v := (1 : Int32)) dX12_book_147 (by decide) rfl ?_
                refine ax_iload (pc' := 150) dX12_book_148 rfl rfl ?_
                refine ax_ishl (pc' := 151) dX12_book_150 rfl ?_
                refine ax_ior (pc' := 152) dX12_book_151 rfl ?_
                refine ax_istore_n (pc' := 153) dX12_book_152 rfl rfl rfl ?_
                refine ax_aload_n (pc' := 154) dX12_book_153 rfl rfl ?_
                refine ax_getR (pc' := 157) dX12_book_154 fl_X12_55 sh_69 rfl rfl rfl ?_
                refine ax_iload_n (pc' := 158) dX12_book_157 rfl rfl ?_
                obtain ⟨hj158, H⟩ := H
                refine ax_aald (pc' := 159) dX12_book_158 sh_466 hj158 rfl rfl ?_
                refine ax_iconst (pc' := 160) (v := (0 : Int32)) dX12_book_159 (by decide) rfl ?_
                refine ax_iload (pc' := 162) dX12_book_160 rfl rfl ?_
                refine ax_iast (pc' := 163) dX12_book_162 (sh_r_467 _ (ac_lt hj158)) (ac_in (by decide)) (sh_n_467 _ (ac_lt hj158)) rfl ?_
                refine ax_aload_n (pc' := 164) dX12_book_163 rfl rfl ?_
                refine ax_getR (pc' := 167) dX12_book_164 fl_X12_55 sh_69 rfl rfl rfl ?_
                refine ax_iload_n (pc' := 168) dX12_book_167 rfl rfl ?_
                obtain ⟨hj168, H⟩ := H
                refine ax_aald (pc' := 169) dX12_book_168 sh_466 hj168 rfl rfl ?_
                refine ax_iconst (pc' := 170) (v := (1 : Int32)) dX12_book_169 (by decide) rfl ?_
                refine ax_iload (pc' := 172) dX12_book_170 rfl rfl ?_
                refine ax_iast (pc' := 173) dX12_book_172 (sh_r_467 _ (ac_lt hj168)) (ac_in (by decide)) (sh_n_467 _ (ac_lt hj168)) rfl ?_
                refine ax_iinc (pc' := 176) (v := (x2 + (1 : Int32))) dX12_book_173 rfl rfl rfl rfl rfl ?_
                refine ax_aload_n (pc' := 177) dX12_book_176 rfl rfl ?_
                refine ay_V0 (pc' := 180) (ce' := 0) (sl' := 0) (mc2 := 0) (ms2 := 0) (I2 := i_X12_blanks) dX12_book_177 ml_X12_126 sh_69 (by decide) rfl rfl rfl rfl rfl rfl rfl rfl rfl (ac_M.imp (o_X12_blanks _  H) ?_)
                rintro _ _ ⟨s177, rfl, rfl, H⟩
                refine ax_goto (tgt := 48) dX12_book_180 (by decide) ?_
                refine ax_drop 4 rfl ?_
                refine ax_drop 5 rfl ?_
                refine ax_drop 6 rfl ?_
                exact H
            · have H := H.2 hc114
              refine ax_aload_n (pc' := 118) dX12_book_117 rfl rfl ?_
              refine ax_iconst (pc' := 119) (v := (3 : Int32)) dX12_book_118 (by decide) rfl ?_
              refine ax_iload (pc' := 121) dX12_book_119 rfl rfl ?_
              refine ay_V2 (pc' := 124) (ce' := 0) (sl' := 0) (mc2 := 0) (ms2 := 0) (I2 := i_X12_wrong) dX12_book_121 ml_X12_133 sh_69 (by decide) rfl rfl rfl rfl rfl rfl rfl rfl rfl (ac_M.imp (o_X12_wrong _ (3 : Int32) (s 69 4) H) ?_)
              rintro _ _ ⟨s121, rfl, rfl, H⟩
              refine ax_aload_n (pc' := 125) dX12_book_124 rfl rfl ?_
              refine ax_iconst (pc' := 126) (v := (0 : Int32)) dX12_book_125 (by decide) rfl ?_
              refine ax_bipush (pc' := 128) (v := (99 : Int32)) dX12_book_126 (by decide) rfl ?_
              refine ay_V2 (pc' := 131) (ce' := 0) (sl' := 0) (mc2 := 0) (ms2 := 0) (I2 := i_X12_number) dX12_book_128 ml_X12_166 sh_69 (by decide) rfl rfl rfl rfl rfl rfl rfl rfl rfl (ac_M.imp (o_X12_number _ (0 : Int32) (99 : Int32) H) ?_)
              rintro _ _ ⟨r128, s128, rfl, rfl, H⟩
              refine ax_istore (pc' := 133) dX12_book_131 rfl rfl rfl ?_
              refine ax_aload_n (pc' := 134) dX12_book_133 rfl rfl ?_
              refine ax_bipush (pc' := 136) (v := (59 : Int32)) dX12_book_134 (by decide) rfl ?_
              refine ay_V1 (pc' := 139) (ce' := 0) (sl' := 0) (mc2 := 0) (ms2 := 0) (I2 := i_X12_sign) dX12_book_136 ml_X12_179 sh_69 (by decide) rfl rfl rfl rfl rfl rfl rfl rfl rfl (ac_M.imp (o_X12_sign _ (59 : Int32) H) ?_)
              rintro _ _ ⟨s136, rfl, rfl, H⟩
              refine ax_aload_n (pc' := 140) dX12_book_139 rfl rfl ?_
              refine ax_getI (pc' := 143) dX12_book_140 fl_X12_120 sh_69 rfl rfl rfl ?_
              refine ax_if_ne (pc' := 146) (tgt := 176) dX12_book_143 (by decide) rfl (fun hc143 => ?_) (fun hc143 => ?_)
              · have H := H.1 hc143
                refine ax_aload_n (pc' := 177) dX12_book_176 rfl rfl ?_
                refine ay_V0 (pc' := 180) (ce' := 0) (sl' := 0) (mc2 := 0) (ms2 := 0) (I2 := i_X12_blanks) dX12_book_177 ml_X12_126 sh_69 (by decide) rfl rfl rfl rfl rfl rfl rfl rfl rfl (ac_M.imp (o_X12_blanks _  H) ?_)
                rintro _ _ ⟨s177, rfl, rfl, H⟩
                refine ax_goto (tgt := 48) dX12_book_180 (by decide) ?_
                refine ax_drop 4 rfl ?_
                refine ax_drop 5 rfl ?_
                refine ax_drop 6 rfl ?_
                exact H
              · have H := H.2 hc143
                refine ax_iload_n (pc' := 147) dX12_book_146 rfl rfl ?_
                refine ax_iconst (pc' := 148) (v := (1 : Int32)) dX12_book_147 (by decide) rfl ?_
                refine ax_iload (pc' := 150) dX12_book_148 rfl rfl ?_
                refine ax_ishl (pc' := 151) dX12_book_150 rfl ?_
                refine ax_ior (pc' := 152) dX12_book_151 rfl ?_
                refine ax_istore_n (pc' := 153) dX12_book_152 rfl rfl rfl ?_
                refine ax_aload_n (pc' := 154) dX12_book_153 rfl rfl ?_
                refine ax_getR (pc' := 157) dX12_book_154 fl_X12_55 sh_69 rfl rfl rfl ?_
                refine ax_iload_n (pc' := 158) dX12_book_157 rfl rfl ?_
                obtain ⟨hj158, H⟩ := H
                refine ax_aald (pc' := 159) dX12_book_158 sh_466 hj158 rfl rfl ?_
                refine ax_iconst (pc' := 160) (v := (0 : Int32)) dX12_book_159 (by decide) rfl ?_
                refine ax_iload (pc' := 162) dX12_book_160 rfl rfl ?_
                refine ax_iast (pc' := 163) dX12_book_162 (sh_r_467 _ (ac_lt hj158)) (ac_in (by decide)) (sh_n_467 _ (ac_lt hj158)) rfl ?_
                refine ax_aload_n (pc' := 164) dX12_book_163 rfl rfl ?_
                refine ax_getR (pc' := 167) dX12_book_164 fl_X12_55 sh_69 rfl rfl rfl ?_
                refine ax_iload_n (pc' := 168) dX12_book_167 rfl rfl ?_
                obtain ⟨hj168, H⟩ := H
                refine ax_aald (pc' := 169) dX12_book_168 sh_466 hj168 rfl rfl ?_
                refine ax_iconst (pc' := 170) (v := (1 : Int32)) dX12_book_169 (by decide) rfl ?_
                refine ax_iload (pc' := 172) dX12_book_170 rfl rfl ?_
                refine ax_iast (pc' := 173) dX12_book_172 (sh_r_467 _ (ac_lt hj168)) (ac_in (by decide)) (sh_n_467 _ (ac_lt hj168)) rfl ?_
                refine ax_iinc (pc' := 176) (v := (x2 + (1 : Int32))) dX12_book_173 rfl rfl rfl rfl rfl ?_
                refine ax_aload_n (pc' := 177) dX12_book_176 rfl rfl ?_
                refine ay_V0 (pc' := 180) (ce' := 0) (sl' := 0) (mc2 := 0) (ms2 := 0) (I2 := i_X12_blanks) dX12_book_177 ml_X12_126 sh_69 (by decide) rfl rfl rfl rfl rfl rfl rfl rfl rfl (ac_M.imp (o_X12_blanks _  H) ?_)
                rintro _ _ ⟨s177, rfl, rfl, H⟩
                refine ax_goto (tgt := 48) dX12_book_180 (by decide) ?_
                refine ax_drop 4 rfl ?_
                refine ax_drop 5 rfl ?_
                refine ax_drop 6 rfl ?_
                exact H
        · have H := H.2 hc94
          refine ax_aload_n (pc' := 98) dX12_book_97 rfl rfl ?_
          refine ax_iconst (pc' := 99) (v := (2 : Int32)) dX12_book_98 (by decide) rfl ?_
          refine ax_iload (pc' := 101) dX12_book_99 rfl rfl ?_
          refine ay_V2 (pc' := 104) (ce' := 0) (sl' := 0) (mc2 := 0) (ms2 := 0) (I2 := i_X12_wrong) dX12_book_101 ml_X12_133 sh_69 (by decide) rfl rfl rfl rfl rfl rfl rfl rfl rfl (ac_M.imp (o_X12_wrong _ (2 : Int32) (s 69 4) H) ?_)
          rintro _ _ ⟨s101, rfl, rfl, H⟩
          refine ax_aload_n (pc' := 105) dX12_book_104 rfl rfl ?_
          refine ax_getI (pc' := 108) dX12_book_105 fl_X12_120 sh_69 rfl rfl rfl ?_
          refine ax_if_ne (pc' := 111) (tgt := 124) dX12_book_108 (by decide) rfl (fun hc108 => ?_) (fun hc108 => ?_)
          · have H := H.1 hc108
            refine ax_aload_n (pc' := 125) dX12_book_124 rfl rfl ?_
            refine ax_iconst (pc' := 126) (v := (0 : Int32)) dX12_book_125 (by decide) rfl ?_
            refine ax_bipush (pc' := 128) (v := (99 : Int32)) dX12_book_126 (by decide) rfl ?_
            refine ay_V2 (pc' := 131) (ce' := 0) (sl' := 0) (mc2 := 0) (ms2 := 0) (I2 := i_X12_number) dX12_book_128 ml_X12_166 sh_69 (by decide) rfl rfl rfl rfl rfl rfl rfl rfl rfl (ac_M.imp (o_X12_number _ (0 : Int32) (99 : Int32) H) ?_)
            rintro _ _ ⟨r128, s128, rfl, rfl, H⟩
            refine ax_istore (pc' := 133) dX12_book_131 rfl rfl rfl ?_
            refine ax_aload_n (pc' := 134) dX12_book_133 rfl rfl ?_
            refine ax_bipush (pc' := 136) (v := (59 : Int32)) dX12_book_134 (by decide) rfl ?_
            refine ay_V1 (pc' := 139) (ce' := 0) (sl' := 0) (mc2 := 0) (ms2 := 0) (I2 := i_X12_sign) dX12_book_136 ml_X12_179 sh_69 (by decide) rfl rfl rfl rfl rfl rfl rfl rfl rfl (ac_M.imp (o_X12_sign _ (59 : Int32) H) ?_)
            rintro _ _ ⟨s136, rfl, rfl, H⟩
            refine ax_aload_n (pc' := 140) dX12_book_139 rfl rfl ?_
            refine ax_getI (pc' := 143) dX12_book_140 fl_X12_120 sh_69 rfl rfl rfl ?_
            refine ax_if_ne (pc' := 146) (tgt := 176) dX12_book_143 (by decide) rfl (fun hc143 => ?_) (fun hc143 => ?_)
            · have H := H.1 hc143
              refine ax_aload_n (pc' := 177) dX12_book_176 rfl rfl ?_
              refine ay_V0 (pc' := 180) (ce' := 0) (sl' := 0) (mc2 := 0) (ms2 := 0) (I2 := i_X12_blanks) dX12_book_177 ml_X12_126 sh_69 (by decide) rfl rfl rfl rfl rfl rfl rfl rfl rfl (ac_M.imp (o_X12_blanks _  H) ?_)
              rintro _ _ ⟨s177, rfl, rfl, H⟩
              refine ax_goto (tgt := 48) dX12_book_180 (by decide) ?_
              refine ax_drop 4 rfl ?_
              refine ax_drop 5 rfl ?_
              refine ax_drop 6 rfl ?_
              exact H
            · have H := H.2 hc143
              refine ax_iload_n (pc' := 147) dX12_book_146 rfl rfl ?_
              refine ax_iconst (pc' := 148) (v := (1 : Int32)) dX12_book_147 (by decide) rfl ?_
              refine ax_iload (pc' := 150) dX12_book_148 rfl rfl ?_
              refine ax_ishl (pc' := 151) dX12_book_150 rfl ?_
              refine ax_ior (pc' := 152) dX12_book_151 rfl ?_
              refine ax_istore_n (pc' := 153) dX12_book_152 rfl rfl rfl ?_
              refine ax_aload_n (pc' := 154) dX12_book_153 rfl rfl ?_
              refine ax_getR (pc' := 157) dX12_book_154 fl_X12_55 sh_69 rfl rfl rfl ?_
              refine ax_iload_n (pc' := 158) dX12_book_157 rfl rfl ?_
              obtain ⟨hj158, H⟩ := H
              refine ax_aald (pc' := 159) dX12_book_158 sh_466 hj158 rfl rfl ?_
              refine ax_iconst (pc' := 160) (v := (0 : Int32)) dX12_book_159 (by decide) rfl ?_
              refine ax_iload (pc' := 162) dX12_book_160 rfl rfl ?_
              refine ax_iast (pc' := 163) dX12_book_162 (sh_r_467 _ (ac_lt hj158)) (ac_in (by decide)) (sh_n_467 _ (ac_lt hj158)) rfl ?_
              refine ax_aload_n (pc' := 164) dX12_book_163 rfl rfl ?_
              refine ax_getR (pc' := 167) dX12_book_164 fl_X12_55 sh_69 rfl rfl rfl ?_
              refine ax_iload_n (pc' := 168) dX12_book_167 rfl rfl ?_
              obtain ⟨hj168, H⟩ := H
              refine ax_aald (pc' := 169) dX12_book_168 sh_466 hj168 rfl rfl ?_
              refine ax_iconst (pc' := 170) (v := (1 : Int32)) dX12_book_169 (by decide) rfl ?_
              refine ax_iload (pc' := 172) dX12_book_170 rfl rfl ?_
              refine ax_iast (pc' := 173) dX12_book_172 (sh_r_467 _ (ac_lt hj168)) (ac_in (by decide)) (sh_n_467 _ (ac_lt hj168)) rfl ?_
              refine ax_iinc (pc' := 176) (v := (x2 + (1 : Int32))) dX12_book_173 rfl rfl rfl rfl rfl ?_
              refine ax_aload_n (pc' := 177) dX12_book_176 rfl rfl ?_
              refine ay_V0 (pc' := 180) (ce' := 0) (sl' := 0) (mc2 := 0) (ms2 := 0) (I2 := i_X12_blanks) dX12_book_177 ml_X12_126 sh_69 (by decide) rfl rfl rfl rfl rfl rfl rfl rfl rfl (ac_M.imp (o_X12_blanks _  H) ?_)
              rintro _ _ ⟨s177, rfl, rfl, H⟩
              refine ax_goto (tgt := 48) dX12_book_180 (by decide) ?_
              refine ax_drop 4 rfl ?_
              refine ax_drop 5 rfl ?_
              refine ax_drop 6 rfl ?_
              exact H
          · have H := H.2 hc108
            refine ax_iload_n (pc' := 112) dX12_book_111 rfl rfl ?_
            refine ax_bipush (pc' := 114) (v := (6 : Int32)) dX12_book_112 (by decide) rfl ?_
            refine ax_icmp_ne (pc' := 117) (tgt := 124) dX12_book_114 (by decide) rfl (fun hc114 => ?_) (fun hc114 => ?_)
            · have H := H.1 hc114
              refine ax_aload_n (pc' := 125) dX12_book_124 rfl rfl ?_
              refine ax_iconst (pc' := 126) (v := (0 : Int32)) dX12_book_125 (by decide) rfl ?_
              refine ax_bipush (pc' := 128) (v := (99 : Int32)) dX12_book_126 (by decide) rfl ?_
              refine ay_V2 (pc' := 131) (ce' := 0) (sl' := 0) (mc2 := 0) (ms2 := 0) (I2 := i_X12_number) dX12_book_128 ml_X12_166 sh_69 (by decide) rfl rfl rfl rfl rfl rfl rfl rfl rfl (ac_M.imp (o_X12_number _ (0 : Int32) (99 : Int32) H) ?_)
              rintro _ _ ⟨r128, s128, rfl, rfl, H⟩
              refine ax_istore (pc' := 133) dX12_book_131 rfl rfl rfl ?_
              refine ax_aload_n (pc' := 134) dX12_book_133 rfl rfl ?_
              refine ax_bipush (pc' := 136) (v := (59 : Int32)) dX12_book_134 (by decide) rfl ?_
              refine ay_V1 (pc' := 139) (ce' := 0) (sl' := 0) (mc2 := 0) (ms2 := 0) (I2 := i_X12_sign) dX12_book_136 ml_X12_179 sh_69 (by decide) rfl rfl rfl rfl rfl rfl rfl rfl rfl (ac_M.imp (o_X12_sign _ (59 : Int32) H) ?_)
              rintro _ _ ⟨s136, rfl, rfl, H⟩
              refine ax_aload_n (pc' := 140) dX12_book_139 rfl rfl ?_
              refine ax_getI (pc' := 143) dX12_book_140 fl_X12_120 sh_69 rfl rfl rfl ?_
              refine ax_if_ne (pc' := 146) (tgt := 176) dX12_book_143 (by decide) rfl (fun hc143 => ?_) (fun hc143 => ?_)
              · have H := H.1 hc143
                refine ax_aload_n (pc' := 177) dX12_book_176 rfl rfl ?_
                refine ay_V0 (pc' := 180) (ce' := 0) (sl' := 0) (mc2 := 0) (ms2 := 0) (I2 := i_X12_blanks) dX12_book_177 ml_X12_126 sh_69 (by decide) rfl rfl rfl rfl rfl rfl rfl rfl rfl (ac_M.imp (o_X12_blanks _  H) ?_)
                rintro _ _ ⟨s177, rfl, rfl, H⟩
                refine ax_goto (tgt := 48) dX12_book_180 (by decide) ?_
                refine ax_drop 4 rfl ?_
                refine ax_drop 5 rfl ?_
                refine ax_drop 6 rfl ?_
                exact H
              · have H := H.2 hc143
                refine ax_iload_n (pc' := 147) dX12_book_146 rfl rfl ?_
                refine ax_iconst (pc' := 148) (v := (1 : Int32)) dX12_book_147 (by decide) rfl ?_
                refine ax_iload (pc' := 150) dX12_book_148 rfl rfl ?_
                refine ax_ishl (pc' := 151) dX12_book_150 rfl ?_
                refine ax_ior (pc' := 152) dX12_book_151 rfl ?_
                refine ax_istore_n (pc' := 153) dX12_book_152 rfl rfl rfl ?_
                refine ax_aload_n (pc' := 154) dX12_book_153 rfl rfl ?_
                refine ax_getR (pc' := 157) dX12_book_154 fl_X12_55 sh_69 rfl rfl rfl ?_
                refine ax_iload_n (pc' := 158) dX12_book_157 rfl rfl ?_
                obtain ⟨hj158, H⟩ := H
                refine ax_aald (pc' := 159) dX12_book_158 sh_466 hj158 rfl rfl ?_
                refine ax_iconst (pc' := 160) (v := (0 : Int32)) dX12_book_159 (by decide) rfl ?_
                refine ax_iload (pc' := 162) dX12_book_160 rfl rfl ?_
                refine ax_iast (pc' := 163) dX12_book_162 (sh_r_467 _ (ac_lt hj158)) (ac_in (by decide)) (sh_n_467 _ (ac_lt hj158)) rfl ?_
                refine ax_aload_n (pc' := 164) dX12_book_163 rfl rfl ?_
                refine ax_getR (pc' := 167) dX12_book_164 fl_X12_55 sh_69 rfl rfl rfl ?_
                refine ax_iload_n (pc' := 168) dX12_book_167 rfl rfl ?_
                obtain ⟨hj168, H⟩ := H
                refine ax_aald (pc' := 169) dX12_book_168 sh_466 hj168 rfl rfl ?_
                refine ax_iconst (pc' := 170) (v := (1 : Int32)) dX12_book_169 (by decide) rfl ?_
                refine ax_iload (pc' := 172) dX12_book_170 rfl rfl ?_
                refine ax_iast (pc' := 173) dX12_book_172 (sh_r_467 _ (ac_lt hj168)) (ac_in (by decide)) (sh_n_467 _ (ac_lt hj168)) rfl ?_
                refine ax_iinc (pc' := 176) (v := (x2 + (1 : Int32))) dX12_book_173 rfl rfl rfl rfl rfl ?_
                refine ax_aload_n (pc' := 177) dX12_book_176 rfl rfl ?_
                refine ay_V0 (pc' := 180) (ce' := 0) (sl' := 0) (mc2 := 0) (ms2 := 0) (I2 := i_X12_blanks) dX12_book_177 ml_X12_126 sh_69 (by decide) rfl rfl rfl rfl rfl rfl rfl rfl rfl (ac_M.imp (o_X12_blanks _  H) ?_)
                rintro _ _ ⟨s177, rfl, rfl, H⟩
                refine ax_goto (tgt := 48) dX12_book_180 (by decide) ?_
                refine ax_drop 4 rfl ?_
                refine ax_drop 5 rfl ?_
                refine ax_drop 6 rfl ?_
                exact H
            · have H := H.2 hc114
              refine ax_aload_n (pc' := 118) dX12_book_117 rfl rfl ?_
              refine ax_iconst (pc' := 119) (v := (3 : Int32)) dX12_book_118 (by decide) rfl ?_
              refine ax_iload (pc' := 121) dX12_book_119 rfl rfl ?_
              refine ay_V2 (pc' := 124) (ce' := 0) (sl' := 0) (mc2 := 0) (ms2 := 0) (I2 := i_X12_wrong) dX12_book_121 ml_X12_133 sh_69 (by decide) rfl rfl rfl rfl rfl rfl rfl rfl rfl (ac_M.imp (o_X12_wrong _ (3 : Int32) (s 69 4) H) ?_)
              rintro _ _ ⟨s121, rfl, rfl, H⟩
              refine ax_aload_n (pc' := 125) dX12_book_124 rfl rfl ?_
              refine ax_iconst (pc' := 126) (v := (0 : Int32)) dX12_book_125 (by decide) rfl ?_
              refine ax_bipush (pc' := 128) (v := (99 : Int32)) dX12_book_126 (by decide) rfl ?_
              refine ay_V2 (pc' := 131) (ce' := 0) (sl' := 0) (mc2 := 0) (ms2 := 0) (I2 := i_X12_number) dX12_book_128 ml_X12_166 sh_69 (by decide) rfl rfl rfl rfl rfl rfl rfl rfl rfl (ac_M.imp (o_X12_number _ (0 : Int32) (99 : Int32) H) ?_)
              rintro _ _ ⟨r128, s128, rfl, rfl, H⟩
              refine ax_istore (pc' := 133) dX12_book_131 rfl rfl rfl ?_
              refine ax_aload_n (pc' := 134) dX12_book_133 rfl rfl ?_
              refine ax_bipush (pc' := 136) (v := (59 : Int32)) dX12_book_134 (by decide) rfl ?_
              refine ay_V1 (pc' := 139) (ce' := 0) (sl' := 0) (mc2 := 0) (ms2 := 0) (I2 := i_X12_sign) dX12_book_136 ml_X12_179 sh_69 (by decide) rfl rfl rfl rfl rfl rfl rfl rfl rfl (ac_M.imp (o_X12_sign _ (59 : Int32) H) ?_)
              rintro _ _ ⟨s136, rfl, rfl, H⟩
              refine ax_aload_n (pc' := 140) dX12_book_139 rfl rfl ?_
              refine ax_getI (pc' := 143) dX12_book_140 fl_X12_120 sh_69 rfl rfl rfl ?_
              refine ax_if_ne (pc' := 146) (tgt := 176) dX12_book_143 (by decide) rfl (fun hc143 => ?_) (fun hc143 => ?_)
              · have H := H.1 hc143
                refine ax_aload_n (pc' := 177) dX12_book_176 rfl rfl ?_
                refine ay_V0 (pc' := 180) (ce' := 0) (sl' := 0) (mc2 := 0) (ms2 := 0) (I2 := i_X12_blanks) dX12_book_177 ml_X12_126 sh_69 (by decide) rfl rfl rfl rfl rfl rfl rfl rfl rfl (ac_M.imp (o_X12_blanks _  H) ?_)
                rintro _ _ ⟨s177, rfl, rfl, H⟩
                refine ax_goto (tgt := 48) dX12_book_180 (by decide) ?_
                refine ax_drop 4 rfl ?_
                refine ax_drop 5 rfl ?_
                refine ax_drop 6 rfl ?_
                exact H
              · have H := H.2 hc143
                refine ax_iload_n (pc' := 147) dX12_book_146 rfl rfl ?_
                refine ax_iconst (pc' := 148) (v := (1 : Int32)) dX12_book_147 (by decide) rfl ?_
                refine ax_iload (pc' := 150) dX12_book_148 rfl rfl ?_
                refine ax_ishl (pc' := 151) dX12_book_150 rfl ?_
                refine ax_ior (pc' := 152) dX12_book_151 rfl ?_
                refine ax_istore_n (pc' := 153) dX12_book_152 rfl rfl rfl ?_
                refine ax_aload_n (pc' := 154) dX12_book_153 rfl rfl ?_
                refine ax_getR (pc' := 157) dX12_book_154 fl_X12_55 sh_69 rfl rfl rfl ?_
                refine ax_iload_n (pc' := 158) dX12_book_157 rfl rfl ?_
                obtain ⟨hj158, H⟩ := H
                refine ax_aald (pc' := 159) dX12_book_158 sh_466 hj158 rfl rfl ?_
                refine ax_iconst (pc' := 160) (v := (0 : Int32)) dX12_book_159 (by decide) rfl ?_
                refine ax_iload (pc' := 162) dX12_book_160 rfl rfl ?_
                refine ax_iast (pc' := 163) dX12_book_162 (sh_r_467 _ (ac_lt hj158)) (ac_in (by decide)) (sh_n_467 _ (ac_lt hj158)) rfl ?_
                refine ax_aload_n (pc' := 164) dX12_book_163 rfl rfl ?_
                refine ax_getR (pc' := 167) dX12_book_164 fl_X12_55 sh_69 rfl rfl rfl ?_
                refine ax_iload_n (pc' := 168) dX12_book_167 rfl rfl ?_
                obtain ⟨hj168, H⟩ := H
                refine ax_aald (pc' := 169) dX12_book_168 sh_466 hj168 rfl rfl ?_
                refine ax_iconst (pc' := 170) (v := (1 : Int32)) dX12_book_169 (by decide) rfl ?_
                refine ax_iload (pc' := 172) dX12_book_170 rfl rfl ?_
                refine ax_iast (pc' := 173) dX12_book_172 (sh_r_467 _ (ac_lt hj168)) (ac_in (by decide)) (sh_n_467 _ (ac_lt hj168)) rfl ?_
                refine ax_iinc (pc' := 176) (v := (x2 + (1 : Int32))) dX12_book_173 rfl rfl rfl rfl rfl ?_
                refine ax_aload_n (pc' := 177) dX12_book_176 rfl rfl ?_
                refine ay_V0 (pc' := 180) (ce' := 0) (sl' := 0) (mc2 := 0) (ms2 := 0) (I2 := i_X12_blanks) dX12_book_177 ml_X12_126 sh_69 (by decide) rfl rfl rfl rfl rfl rfl rfl rfl rfl (ac_M.imp (o_X12_blanks _  H) ?_)
                rintro _ _ ⟨s177, rfl, rfl, H⟩
                refine ax_goto (tgt := 48) dX12_book_180 (by decide) ?_
                refine ax_drop 4 rfl ?_
                refine ax_drop 5 rfl ?_
                refine ax_drop 6 rfl ?_
                exact H
theorem o_X12_book {g : ac_G} {τ : Nat → Nat → Int64} (d : Nat) (p1 : Int32) {Q : Int32 → ac_m → Prop} {s : ac_m} (H : w_X12_book p1 Q s) : ac_M g i_X12_book (d + 3) 0 0 [.ref 69, .int p1] (false, 586, SH, s, τ) (liI τ Q) := by
  refine ac_ofX (by decide +kernel) rfl rfl rfl ?_
  refine ax_aload_n (pc' := 1) dX12_book_0 rfl rfl ?_
  refine ax_iconst (pc' := 2) (v := (0 : Int32)) dX12_book_1 (by decide) rfl ?_
  refine ax_putI (pc' := 5) dX12_book_2 fp_X12_104 sh_69 rfl rfl rfl ?_
  refine ax_aload_n (pc' := 6) dX12_book_5 rfl rfl ?_
  refine ax_iload_n (pc' := 7) dX12_book_6 rfl rfl ?_
  refine ax_iconst (pc' := 8) (v := (0 : Int32)) dX12_book_7 (by decide) rfl ?_
  refine ax_aload_n (pc' := 9) dX12_book_8 rfl rfl ?_
  refine ax_getI (pc' := 12) dX12_book_9 fl_X12_107 sh_69 rfl rfl rfl ?_
  refine ay_S3 (pc' := 15) (ce' := 0) (sl' := 0) (mc2 := 0) (ms2 := 0) (I2 := i_X12_in) dX12_book_12 ml_X12_138 rfl rfl rfl rfl rfl rfl rfl rfl (ac_M.imp (o_X12_in _ p1 (0 : Int32) ((ac_u s 69 0 (0 : Int32)) 69 1) H) ?_)
  rintro _ _ ⟨r12, s12, rfl, rfl, H⟩
  refine ax_if_eq (pc' := 18) (tgt := 24) dX12_book_15 (by decide) rfl (fun hc15 => ?_) (fun hc15 => ?_)
  · have H := H.1 hc15
    refine ax_iconst (pc' := 25) (v := (1 : Int32)) dX12_book_24 (by decide) rfl ?_
    refine ax_goto (tgt := 29) dX12_book_25 (by decide) ?_
    refine ax_iconst (pc' := 30) (v := (1 : Int32)) dX12_book_29 (by decide) rfl ?_
    refine ax_iconst (pc' := 31) (v := (1 : Int32)) dX12_book_30 (by decide) rfl ?_
    refine ay_V3 (pc' := 34) (ce' := 0) (sl' := 0) (mc2 := 0) (ms2 := 0) (I2 := i_X12_bad) dX12_book_31 ml_X12_183 sh_69 (by decide) rfl rfl rfl rfl rfl rfl rfl rfl rfl (ac_M.imp (o_X12_bad _ (1 : Int32) (1 : Int32) (1 : Int32) H) ?_)
    rintro _ _ ⟨r31, s31, rfl, rfl, H⟩
    refine ax_if_eq (pc' := 37) (tgt := 39) dX12_book_34 (by decide) rfl (fun hc34 => ?_) (fun hc34 => ?_)
    · have H := H.1 hc34
      refine ax_aload_n (pc' := 40) dX12_book_39 rfl rfl ?_
      refine ax_iload_n (pc' := 41) dX12_book_40 rfl rfl ?_
      refine ay_V1 (pc' := 44) (ce' := 0) (sl' := 0) (mc2 := 0) (ms2 := 0) (I2 := i_X12_starts) dX12_book_41 ml_X12_187 sh_69 (by decide) rfl rfl rfl rfl rfl rfl rfl rfl rfl (ac_M.imp (o_X12_starts _ p1 H) ?_)
      rintro _ _ ⟨s41, rfl, rfl, H⟩
      refine ax_iconst (pc' := 45) (v := (0 : Int32)) dX12_book_44 (by decide) rfl ?_
      refine ax_istore_n (pc' := 46) dX12_book_45 rfl rfl rfl ?_
      refine ax_iconst (pc' := 47) (v := (0 : Int32)) dX12_book_46 (by decide) rfl ?_
      refine ax_istore_n (pc' := 48) dX12_book_47 rfl rfl rfl ?_
      refine ax_drop 1 rfl ?_
      refine ol_X12_book_48 d p1      H
    · have H := H.2 hc34
      refine ax_iconst (pc' := 38) (v := (0 : Int32)) dX12_book_37 (by decide) rfl ?_
      exact ax_iret dX12_book_38 rfl rfl rfl ⟨_, _, rfl, rfl, H⟩
  · have H := H.2 hc15
    refine ax_iload_n (pc' := 19) dX12_book_18 rfl rfl ?_
    refine ax_bipush (pc' := 21) (v := (60 : Int32)) dX12_book_19 (by decide) rfl ?_
    refine ax_icmp_le (pc' := 24) (tgt := 28) dX12_book_21 (by decide) rfl (fun hc21 => ?_) (fun hc21 => ?_)
    · have H := H.1 hc21
      refine ax_iconst (pc' := 29) (v := (0 : Int32)) dX12_book_28 (by decide) rfl ?_
      refine ax_iconst (pc' := 30) (v := (1 : Int32)) dX12_book_29 (by decide) rfl ?_
      refine ax_iconst (pc' := 31) (v := (1 : Int32)) dX12_book_30 (by decide) rfl ?_
      refine ay_V3 (pc' := 34) (ce' := 0) (sl' := 0) (mc2 := 0) (ms2 := 0) (I2 := i_X12_bad) dX12_book_31 ml_X12_183 sh_69 (by decide) rfl rfl rfl rfl rfl rfl rfl rfl rfl (ac_M.imp (o_X12_bad _ (0 : Int32) (1 : Int32) (1 : Int32) H) ?_)
      rintro _ _ ⟨r31, s31, rfl, rfl, H⟩
      refine ax_if_eq (pc' := 37) (tgt := 39) dX12_book_34 (by decide) rfl (fun hc34 => ?_) (fun hc34 => ?_)
      · have H := H.1 hc34
        refine ax_aload_n (pc' := 40) dX12_book_39 rfl rfl ?_
        refine ax_iload_n (pc' := 41) dX12_book_40 rfl rfl ?_
        refine ay_V1 (pc' := 44) (ce' := 0) (sl' := 0) (mc2 := 0) (ms2 := 0) (I2 := i_X12_starts) dX12_book_41 ml_X12_187 sh_69 (by decide) rfl rfl rfl rfl rfl rfl rfl rfl rfl (ac_M.imp (o_X12_starts _ p1 H) ?_)
        rintro _ _ ⟨s41, rfl, rfl, H⟩
        refine ax_iconst (pc' := 45) (v := (0 : Int32)) dX12_book_44 (by decide) rfl ?_
        refine ax_istore_n (pc' := 46) dX12_book_45 rfl rfl rfl ?_
        refine ax_iconst (pc' := 47) (v := (0 : Int32)) dX12_book_46 (by decide) rfl ?_
        refine ax_istore_n (pc' := 48) dX12_book_47 rfl rfl rfl ?_
        refine ax_drop 1 rfl ?_
        refine ol_X12_book_48 d p1      H
      · have H := H.2 hc34
        refine ax_iconst (pc' := 38) (v := (0 : Int32)) dX12_book_37 (by decide) rfl ?_
        exact ax_iret dX12_book_38 rfl rfl rfl ⟨_, _, rfl, rfl, H⟩
    · have H := H.2 hc21
      refine ax_iconst (pc' := 25) (v := (1 : Int32)) dX12_book_24 (by decide) rfl ?_
      refine ax_goto (tgt := 29) dX12_book_25 (by decide) ?_
      refine ax_iconst (pc' := 30) (v := (1 : Int32)) dX12_book_29 (by decide) rfl ?_
      refine ax_iconst (pc' := 31) (v := (1 : Int32)) dX12_book_30 (by decide) rfl ?_
      refine ay_V3 (pc' := 34) (ce' := 0) (sl' := 0) (mc2 := 0) (ms2 := 0) (I2 := i_X12_bad) dX12_book_31 ml_X12_183 sh_69 (by decide) rfl rfl rfl rfl rfl rfl rfl rfl rfl (ac_M.imp (o_X12_bad _ (1 : Int32) (1 : Int32) (1 : Int32) H) ?_)
      rintro _ _ ⟨r31, s31, rfl, rfl, H⟩
      refine ax_if_eq (pc' := 37) (tgt := 39) dX12_book_34 (by decide) rfl (fun hc34 => ?_) (fun hc34 => ?_)
      · have H := H.1 hc34
        refine ax_aload_n (pc' := 40) dX12_book_39 rfl rfl ?_
        refine ax_iload_n (pc' := 41) dX12_book_40 rfl rfl ?_
        refine ay_V1 (pc' := 44) (ce' := 0) (sl' := 0) (mc2 := 0) (ms2 := 0) (I2 := i_X12_starts) dX12_book_41 ml_X12_187 sh_69 (by decide) rfl rfl rfl rfl rfl rfl rfl rfl rfl (ac_M.imp (o_X12_starts _ p1 H) ?_)
        rintro _ _ ⟨s41, rfl, rfl, H⟩
        refine ax_iconst (pc' := 45) (v := (0 : Int32)) dX12_book_44 (by decide) rfl ?_
        refine ax_istore_n (pc' := 46) dX12_book_45 rfl rfl rfl ?_
        refine ax_iconst (pc' := 47) (v := (0 : Int32)) dX12_book_46 (by decide) rfl ?_
        refine ax_istore_n (pc' := 48) dX12_book_47 rfl rfl rfl ?_
        refine ax_drop 1 rfl ?_
        refine ol_X12_book_48 d p1      H
      · have H := H.2 hc34
        refine ax_iconst (pc' := 38) (v := (0 : Int32)) dX12_book_37 (by decide) rfl ?_
        exact ax_iret dX12_book_38 rfl rfl rfl ⟨_, _, rfl, rfl, H⟩
theorem o_X12_fault {g : ac_G} {τ : Nat → Nat → Int64} (d : Nat)  {Q : Int32 → ac_m → Prop} {s : ac_m} (H : w_X12_fault  Q s) : ac_M g i_X12_fault d 0 0 [.ref 69] (false, 586, SH, s, τ) (liI τ Q) := by
  refine ac_ofX (by decide +kernel) rfl rfl rfl ?_
  refine ax_aload_n (pc' := 1) dX12_fault_0 rfl rfl ?_
  refine ax_iconst (pc' := 2) (v := (0 : Int32)) dX12_fault_1 (by decide) rfl ?_
  refine ax_putI (pc' := 5) dX12_fault_2 fp_X12_104 sh_69 rfl rfl rfl ?_
  refine ax_aload_n (pc' := 6) dX12_fault_5 rfl rfl ?_
  refine ax_getI (pc' := 9) dX12_fault_6 fl_X12_9 sh_69 rfl rfl rfl ?_
  exact ax_iret dX12_fault_9 rfl rfl rfl ⟨_, _, rfl, rfl, H⟩
theorem o_X12_eatBy {g : ac_G} {τ : Nat → Nat → Int64} (d : Nat) (p1 : Int32) (p2 : Int32) (p3 : Int32) (p4 : Int32) (p5 : Int32) (p6 : Int32) (p7 : Int32) (p8 : Int32) {Q : Int32 → ac_m → Prop} {s : ac_m} (H : w_X12_eatBy p1 p2 p3 p4 p5 p6 p7 p8 Q s) : ac_M g i_X12_eatBy (d + 3) 0 0 [.ref 69, .int p1, .int p2, .int p3, .int p4, .int p5, .int p6, .int p7, .int p8] (false, 586, SH, s, τ) (liI τ Q) := by
  refine ac_ofX (by decide +kernel) rfl rfl rfl ?_
  refine ax_aload_n (pc' := 1) dX12_eatBy_0 rfl rfl ?_
  refine ax_getR (pc' := 4) dX12_eatBy_1 fl_X12_61 sh_69 rfl rfl rfl ?_
  refine ax_iconst (pc' := 5) (v := (0 : Int32)) dX12_eatBy_4 (by decide) rfl ?_
  refine ax_iload_n (pc' := 6) dX12_eatBy_5 rfl rfl ?_
  refine ax_iast (pc' := 7) dX12_eatBy_6 sh_474 (ac_in (by decide)) rfl rfl ?_
  refine ax_aload_n (pc' := 8) dX12_eatBy_7 rfl rfl ?_
  refine ax_getR (pc' := 11) dX12_eatBy_8 fl_X12_61 sh_69 rfl rfl rfl ?_
  refine ax_iconst (pc' := 12) (v := (1 : Int32)) dX12_eatBy_11 (by decide) rfl ?_
  refine ax_iload_n (pc' := 13) dX12_eatBy_12 rfl rfl ?_
  refine ax_iast (pc' := 14) dX12_eatBy_13 sh_474 (ac_in (by decide)) rfl rfl ?_
  refine ax_aload_n (pc' := 15) dX12_eatBy_14 rfl rfl ?_
  refine ax_getR (pc' := 18) dX12_eatBy_15 fl_X12_61 sh_69 rfl rfl rfl ?_
  refine ax_iconst (pc' := 19) (v := (2 : Int32)) dX12_eatBy_18 (by decide) rfl ?_
  refine ax_iload_n (pc' := 20) dX12_eatBy_19 rfl rfl ?_
  refine ax_iast (pc' := 21) dX12_eatBy_20 sh_474 (ac_in (by decide)) rfl rfl ?_
  refine ax_aload_n (pc' := 22) dX12_eatBy_21 rfl rfl ?_
  refine ax_getR (pc' := 25) dX12_eatBy_22 fl_X12_61 sh_69 rfl rfl rfl ?_
  refine ax_iconst (pc' := 26) (v := (3 : Int32)) dX12_eatBy_25 (by decide) rfl ?_
  refine ax_iload (pc' := 28) dX12_eatBy_26 rfl rfl ?_
  refine ax_iast (pc' := 29) dX12_eatBy_28 sh_474 (ac_in (by decide)) rfl rfl ?_
  refine ax_aload_n (pc' := 30) dX12_eatBy_29 rfl rfl ?_
  refine ax_getR (pc' := 33) dX12_eatBy_30 fl_X12_61 sh_69 rfl rfl rfl ?_
  refine ax_iconst (pc' := 34) (v := (4 : Int32)) dX12_eatBy_33 (by decide) rfl ?_
  refine ax_iload (pc' := 36) dX12_eatBy_34 rfl rfl ?_
  refine ax_iast (pc' := 37) dX12_eatBy_36 sh_474 (ac_in (by decide)) rfl rfl ?_
  refine ax_aload_n (pc' := 38) dX12_eatBy_37 rfl rfl ?_
  refine ax_getR (pc' := 41) dX12_eatBy_38 fl_X12_61 sh_69 rfl rfl rfl ?_
  refine ax_iconst (pc' := 42) (v := (5 : Int32)) dX12_eatBy_41 (by decide) rfl ?_
  refine ax_iload (pc' := 44) dX12_eatBy_42 rfl rfl ?_
  refine ax_iast (pc' := 45) dX12_eatBy_44 sh_474 (ac_in (by decide)) rfl rfl ?_
  refine ax_aload_n (pc' := 46) dX12_eatBy_45 rfl rfl ?_
  refine ax_getR (pc' := 49) dX12_eatBy_46 fl_X12_61 sh_69 rfl rfl rfl ?_
  refine ax_bipush (pc' := 51) (v := (6 : Int32)) dX12_eatBy_49 (by decide) rfl ?_
  refine ax_iload (pc' := 53) dX12_eatBy_51 rfl rfl ?_
  refine ax_iast (pc' := 54) dX12_eatBy_53 sh_474 (ac_in (by decide)) rfl rfl ?_
  refine ax_aload_n (pc' := 55) dX12_eatBy_54 rfl rfl ?_
  refine ax_getR (pc' := 58) dX12_eatBy_55 fl_X12_61 sh_69 rfl rfl rfl ?_
  refine ax_bipush (pc' := 60) (v := (7 : Int32)) dX12_eatBy_58 (by decide) rfl ?_
  refine ax_iload (pc' := 62) dX12_eatBy_60 rfl rfl ?_
  refine ax_iast (pc' := 63) dX12_eatBy_62 sh_474 (ac_in (by decide)) rfl rfl ?_
  refine ax_aload_n (pc' := 64) dX12_eatBy_63 rfl rfl ?_
  refine ay_V0 (pc' := 67) (ce' := 0) (sl' := 0) (mc2 := 0) (ms2 := 0) (I2 := i_X12_byLaw) dX12_eatBy_64 ml_X12_270 sh_69 (by decide) rfl rfl rfl rfl rfl rfl rfl rfl rfl (ac_M.imp (o_X12_byLaw _  H) ?_)
  rintro _ _ ⟨r64, s64, rfl, rfl, H⟩
  exact ax_iret dX12_eatBy_67 rfl rfl rfl ⟨_, _, rfl, rfl, H⟩
theorem ol_X12_ones_4 {g : ac_G} {τ : Nat → Nat → Int64} (d : Nat) (p1 : Int32) {Q : Int32 → ac_m → Prop}  (f0 : Int32)  {x1 : Int32} {x2 : Int32} {s : ac_m} (H : l_X12_ones_4 p1 Q  f0  x1 x2 s) : ac_X g i_X12_ones d 0 0 (liI τ Q) 0 0 4 [some (.int f0), some (.int x1), some (.int x2)] [] (false, 586, SH, s, τ) := by
  refine H (fun x1 x2 s => ac_X g i_X12_ones d 0 0 (liI τ Q) 0 0 4 [some (.int f0), some (.int x1), some (.int x2)] [] (false, 586, SH, s, τ)) ?_
  intro x1 x2 s H
  refine ax_iload_n (pc' := 5) dX12_ones_4 rfl rfl ?_
  refine ax_bipush (pc' := 7) (v := (12 : Int32)) dX12_ones_5 (by decide) rfl ?_
  refine ax_icmp_gt (pc' := 10) (tgt := 24) dX12_ones_7 (by decide) rfl (fun hc7 => ?_) (fun hc7 => ?_)
  · have H := H.1 hc7
    refine ax_iload_n (pc' := 25) dX12_ones_24 rfl rfl ?_
    exact ax_iret dX12_ones_25 rfl rfl rfl ⟨_, _, rfl, rfl, H⟩
  · have H := H.2 hc7
    refine ax_iload_n (pc' := 11) dX12_ones_10 rfl rfl ?_
    refine ax_iload_n (pc' := 12) dX12_ones_11 rfl rfl ?_
    refine ax_iload_n (pc' := 13) dX12_ones_12 rfl rfl ?_
    refine ax_ishr (pc' := 14) dX12_ones_13 rfl ?_
    refine ax_iconst (pc' := 15) (v := (1 : Int32)) dX12_ones_14 (by decide) rfl ?_
    refine ax_iand (pc' := 16) dX12_ones_15 rfl ?_
    refine ax_iadd (pc' := 17) dX12_ones_16 rfl ?_
    refine ax_istore_n (pc' := 18) dX12_ones_17 rfl rfl rfl ?_
    refine ax_iinc (pc' := 21) (v := (x2 + (1 : Int32))) dX12_ones_18 rfl rfl rfl rfl rfl ?_
    refine ax_goto (tgt := 4) dX12_ones_21 (by decide) ?_
    exact H
theorem o_X12_ones {g : ac_G} {τ : Nat → Nat → Int64} (d : Nat) (p1 : Int32) {Q : Int32 → ac_m → Prop} {s : ac_m} (H : w_X12_ones p1 Q s) : ac_M g i_X12_ones d 0 0 [.int p1] (false, 586, SH, s, τ) (liI τ Q) := by
  refine ac_ofX (by decide +kernel) rfl rfl rfl ?_
  refine ax_iconst (pc' := 1) (v := (0 : Int32)) dX12_ones_0 (by decide) rfl ?_
  refine ax_istore_n (pc' := 2) dX12_ones_1 rfl rfl rfl ?_
  refine ax_iconst (pc' := 3) (v := (0 : Int32)) dX12_ones_2 (by decide) rfl ?_
  refine ax_istore_n (pc' := 4) dX12_ones_3 rfl rfl rfl ?_
  refine ol_X12_ones_4 d p1  _    H
theorem o_X12_isThere {g : ac_G} {τ : Nat → Nat → Int64} (d : Nat) (r1 : Nat) (p2 : Int32) (hr1 : SH r1 = .inl (0, 83, 0)) (hn1 : Nat.blt r1 586 = true) {Q : Int32 → ac_m → Prop} {s : ac_m} (H : w_X12_isThere r1 p2 Q s) : ac_M g i_X12_isThere d 0 0 [.ref r1, .int p2] (false, 586, SH, s, τ) (liI τ Q) := by
  refine ac_ofX (by decide +kernel) rfl rfl rfl ?_
  refine ax_aload_n (pc' := 1) dX12_isThere_0 rfl rfl ?_
  refine ax_iconst (pc' := 2) (v := (0 : Int32)) dX12_isThere_1 (by decide) rfl ?_
  refine ax_iload_n (pc' := 3) dX12_isThere_2 rfl rfl ?_
  refine ax_iadd (pc' := 4) dX12_isThere_3 rfl ?_
  obtain ⟨hj4, H⟩ := H
  refine ax_iald (pc' := 5) dX12_isThere_4 hr1 hj4 hn1 rfl ?_
  refine ax_if_le (pc' := 8) (tgt := 12) dX12_isThere_5 (by decide) rfl (fun hc5 => ?_) (fun hc5 => ?_)
  · have H := H.1 hc5
    refine ax_iconst (pc' := 13) (v := (0 : Int32)) dX12_isThere_12 (by decide) rfl ?_
    exact ax_zret dX12_isThere_13 rfl rfl rfl rfl ⟨_, _, rfl, rfl, H⟩
  · have H := H.2 hc5
    refine ax_iconst (pc' := 9) (v := (1 : Int32)) dX12_isThere_8 (by decide) rfl ?_
    refine ax_goto (tgt := 13) dX12_isThere_9 (by decide) ?_
    exact ax_zret dX12_isThere_13 rfl rfl rfl rfl ⟨_, _, rfl, rfl, H⟩
theorem ol_X12_there_4 {g : ac_G} {τ : Nat → Nat → Int64} (d : Nat) (r1 : Nat) (hr1 : SH r1 = .inl (0, 83, 0)) (hn1 : Nat.blt r1 586 = true) {Q : Int32 → ac_m → Prop}    {x1 : Int32} {x2 : Int32} {s : ac_m} (H : l_X12_there_4 r1 Q    x1 x2 s) : ac_X g i_X12_there (d + 1) 0 0 (liI τ Q) 0 0 4 [some (.ref r1), some (.int x1), some (.int x2)] [] (false, 586, SH, s, τ) := by
  refine H (fun x1 x2 s => ac_X g i_X12_there (d + 1) 0 0 (liI τ Q) 0 0 4 [some (.ref r1), some (.int x1), some (.int x2)] [] (false, 586, SH, s, τ)) ?_
  intro x1 x2 s H
  refine ax_iload_n (pc' := 5) dX12_there_4 rfl rfl ?_
  refine ax_bipush (pc' := 7) (v := (12 : Int32)) dX12_there_5 (by decide) rfl ?_
  refine ax_icmp_gt (pc' := 10) (tgt := 34) dX12_there_7 (by decide) rfl (fun hc7 => ?_) (fun hc7 => ?_)
  · have H := H.1 hc7
    refine ax_iload_n (pc' := 35) dX12_there_34 rfl rfl ?_
    exact ax_iret dX12_there_35 rfl rfl rfl ⟨_, _, rfl, rfl, H⟩
  · have H := H.2 hc7
    refine ax_iload_n (pc' := 11) dX12_there_10 rfl rfl ?_
    refine ax_aload_n (pc' := 12) dX12_there_11 rfl rfl ?_
    refine ax_iload_n (pc' := 13) dX12_there_12 rfl rfl ?_
    refine ay_S2 (pc' := 16) (ce' := 0) (sl' := 0) (mc2 := 0) (ms2 := 0) (I2 := i_X12_isThere) dX12_there_13 ml_X12_273 rfl rfl rfl rfl rfl rfl rfl rfl (ac_M.imp (o_X12_isThere _ r1 x2 hr1 hn1 H) ?_)
    rintro _ _ ⟨r13, s13, rfl, rfl, H⟩
    refine ax_if_eq (pc' := 19) (tgt := 25) dX12_there_16 (by decide) rfl (fun hc16 => ?_) (fun hc16 => ?_)
    · have H := H.1 hc16
      refine ax_iconst (pc' := 26) (v := (0 : Int32)) dX12_there_25 (by decide) rfl ?_
      refine ax_ior (pc' := 27) dX12_there_26 rfl ?_
      refine ax_istore_n (pc' := 28) dX12_there_27 rfl rfl rfl ?_
      refine ax_iinc (pc' := 31) (v := (x2 + (1 : Int32))) dX12_there_28 rfl rfl rfl rfl rfl ?_
      refine ax_goto (tgt := 4) dX12_there_31 (by decide) ?_
      exact H
    · have H := H.2 hc16
      refine ax_iconst (pc' := 20) (v := (1 : Int32)) dX12_there_19 (by decide) rfl ?_
      refine ax_iload_n (pc' := 21) dX12_there_20 rfl rfl ?_
      refine ax_ishl (pc' := 22) dX12_there_21 rfl ?_
      refine ax_goto (tgt := 26) dX12_there_22 (by decide) ?_
      refine ax_ior (pc' := 27) dX12_there_26 rfl ?_
      refine ax_istore_n (pc' := 28) dX12_there_27 rfl rfl rfl ?_
      refine ax_iinc (pc' := 31) (v := (x2 + (1 : Int32))) dX12_there_28 rfl rfl rfl rfl rfl ?_
      refine ax_goto (tgt := 4) dX12_there_31 (by decide) ?_
      exact H
theorem o_X12_there {g : ac_G} {τ : Nat → Nat → Int64} (d : Nat) (r1 : Nat) (hr1 : SH r1 = .inl (0, 83, 0)) (hn1 : Nat.blt r1 586 = true) {Q : Int32 → ac_m → Prop} {s : ac_m} (H : w_X12_there r1 Q s) : ac_M g i_X12_there (d + 1) 0 0 [.ref r1] (false, 586, SH, s, τ) (liI τ Q) := by
  refine ac_ofX (by decide +kernel) rfl rfl rfl ?_
  refine ax_iconst (pc' := 1) (v := (0 : Int32)) dX12_there_0 (by decide) rfl ?_
  refine ax_istore_n (pc' := 2) dX12_there_1 rfl rfl rfl ?_
  refine ax_iconst (pc' := 3) (v := (0 : Int32)) dX12_there_2 (by decide) rfl ?_
  refine ax_istore_n (pc' := 4) dX12_there_3 rfl rfl rfl ?_
  refine ol_X12_there_4 d r1 hr1 hn1     H
theorem ol_X12_onOne_4 {g : ac_G} {τ : Nat → Nat → Int64} (d : Nat) (r1 : Nat) (p2 : Int32) (hr1 : SH r1 = .inl (0, 83, 0)) (hn1 : Nat.blt r1 586 = true) {Q : Int32 → ac_m → Prop}  (f1 : Int32)  {x2 : Int32} {x3 : Int32} {s : ac_m} (H : l_X12_onOne_4 r1 p2 Q  f1  x2 x3 s) : ac_X g i_X12_onOne (d + 1) 0 0 (liI τ Q) 0 0 4 [some (.ref r1), some (.int f1), some (.int x2), some (.int x3)] [] (false, 586, SH, s, τ) := by
  refine H (fun x2 x3 s => ac_X g i_X12_onOne (d + 1) 0 0 (liI τ Q) 0 0 4 [some (.ref r1), some (.int f1), some (.int x2), some (.int x3)] [] (false, 586, SH, s, τ)) ?_
  intro x2 x3 s H
  refine ax_iload_n (pc' := 5) dX12_onOne_4 rfl rfl ?_
  refine ax_bipush (pc' := 7) (v := (12 : Int32)) dX12_onOne_5 (by decide) rfl ?_
  refine ax_icmp_gt (pc' := 10) (tgt := 44) dX12_onOne_7 (by decide) rfl (fun hc7 => ?_) (fun hc7 => ?_)
  · have H := H.1 hc7
    refine ax_iload_n (pc' := 45) dX12_onOne_44 rfl rfl ?_
    exact ax_iret dX12_onOne_45 rfl rfl rfl ⟨_, _, rfl, rfl, H⟩
  · have H := H.2 hc7
    refine ax_iload_n (pc' := 11) dX12_onOne_10 rfl rfl ?_
    refine ax_aload_n (pc' := 12) dX12_onOne_11 rfl rfl ?_
    refine ax_iload_n (pc' := 13) dX12_onOne_12 rfl rfl ?_
    refine ay_S2 (pc' := 16) (ce' := 0) (sl' := 0) (mc2 := 0) (ms2 := 0) (I2 := i_X12_isThere) dX12_onOne_13 ml_X12_273 rfl rfl rfl rfl rfl rfl rfl rfl (ac_M.imp (o_X12_isThere _ r1 x3 hr1 hn1 H) ?_)
    rintro _ _ ⟨r13, s13, rfl, rfl, H⟩
    refine ax_if_eq (pc' := 19) (tgt := 35) dX12_onOne_16 (by decide) rfl (fun hc16 => ?_) (fun hc16 => ?_)
    · have H := H.1 hc16
      refine ax_iconst (pc' := 36) (v := (0 : Int32)) dX12_onOne_35 (by decide) rfl ?_
      refine ax_ior (pc' := 37) dX12_onOne_36 rfl ?_
      refine ax_istore_n (pc' := 38) dX12_onOne_37 rfl rfl rfl ?_
      refine ax_iinc (pc' := 41) (v := (x3 + (1 : Int32))) dX12_onOne_38 rfl rfl rfl rfl rfl ?_
      refine ax_goto (tgt := 4) dX12_onOne_41 (by decide) ?_
      exact H
    · have H := H.2 hc16
      refine ax_aload_n (pc' := 20) dX12_onOne_19 rfl rfl ?_
      refine ax_bipush (pc' := 22) (v := (26 : Int32)) dX12_onOne_20 (by decide) rfl ?_
      refine ax_iload_n (pc' := 23) dX12_onOne_22 rfl rfl ?_
      refine ax_iadd (pc' := 24) dX12_onOne_23 rfl ?_
      obtain ⟨hj24, H⟩ := H
      refine ax_iald (pc' := 25) dX12_onOne_24 hr1 hj24 hn1 rfl ?_
      refine ax_iload_n (pc' := 26) dX12_onOne_25 rfl rfl ?_
      refine ax_icmp_ne (pc' := 29) (tgt := 35) dX12_onOne_26 (by decide) rfl (fun hc26 => ?_) (fun hc26 => ?_)
      · have H := H.1 hc26
        refine ax_iconst (pc' := 36) (v := (0 : Int32)) dX12_onOne_35 (by decide) rfl ?_
        refine ax_ior (pc' := 37) dX12_onOne_36 rfl ?_
        refine ax_istore_n (pc' := 38) dX12_onOne_37 rfl rfl rfl ?_
        refine ax_iinc (pc' := 41) (v := (x3 + (1 : Int32))) dX12_onOne_38 rfl rfl rfl rfl rfl ?_
        refine ax_goto (tgt := 4) dX12_onOne_41 (by decide) ?_
        exact H
      · have H := H.2 hc26
        refine ax_iconst (pc' := 30) (v := (1 : Int32)) dX12_onOne_29 (by decide) rfl ?_
        refine ax_iload_n (pc' := 31) dX12_onOne_30 rfl rfl ?_
        refine ax_ishl (pc' := 32) dX12_onOne_31 rfl ?_
        refine ax_goto (tgt := 36) dX12_onOne_32 (by decide) ?_
        refine ax_ior (pc' := 37) dX12_onOne_36 rfl ?_
        refine ax_istore_n (pc' := 38) dX12_onOne_37 rfl rfl rfl ?_
        refine ax_iinc (pc' := 41) (v := (x3 + (1 : Int32))) dX12_onOne_38 rfl rfl rfl rfl rfl ?_
        refine ax_goto (tgt := 4) dX12_onOne_41 (by decide) ?_
        exact H
theorem o_X12_onOne {g : ac_G} {τ : Nat → Nat → Int64} (d : Nat) (r1 : Nat) (p2 : Int32) (hr1 : SH r1 = .inl (0, 83, 0)) (hn1 : Nat.blt r1 586 = true) {Q : Int32 → ac_m → Prop} {s : ac_m} (H : w_X12_onOne r1 p2 Q s) : ac_M g i_X12_onOne (d + 1) 0 0 [.ref r1, .int p2] (false, 586, SH, s, τ) (liI τ Q) := by
  refine ac_ofX (by decide +kernel) rfl rfl rfl ?_
  refine ax_iconst (pc' := 1) (v := (0 : Int32)) dX12_onOne_0 (by decide) rfl ?_
  refine ax_istore_n (pc' := 2) dX12_onOne_1 rfl rfl rfl ?_
  refine ax_iconst (pc' := 3) (v := (0 : Int32)) dX12_onOne_2 (by decide) rfl ?_
  refine ax_istore_n (pc' := 4) dX12_onOne_3 rfl rfl rfl ?_
  refine ol_X12_onOne_4 d r1 p2 hr1 hn1 _    H
theorem o_X12_coolOf {g : ac_G} {τ : Nat → Nat → Int64} (d : Nat) (r1 : Nat) (p2 : Int32) (hr1 : SH r1 = .inl (0, 83, 0)) (hn1 : Nat.blt r1 586 = true) {Q : Int32 → ac_m → Prop} {s : ac_m} (H : w_X12_coolOf r1 p2 Q s) : ac_M g i_X12_coolOf d 0 0 [.ref 69, .ref r1, .int p2] (false, 586, SH, s, τ) (liI τ Q) := by
  refine ac_ofX (by decide +kernel) rfl rfl rfl ?_
  refine ax_iload_n (pc' := 1) dX12_coolOf_0 rfl rfl ?_
  refine ax_bipush (pc' := 3) (v := (12 : Int32)) dX12_coolOf_1 (by decide) rfl ?_
  refine ax_icmp_ne (pc' := 6) (tgt := 10) dX12_coolOf_3 (by decide) rfl (fun hc3 => ?_) (fun hc3 => ?_)
  · have H := H.1 hc3
    refine ax_aload_n (pc' := 11) dX12_coolOf_10 rfl rfl ?_
    refine ax_bipush (pc' := 13) (v := (45 : Int32)) dX12_coolOf_11 (by decide) rfl ?_
    refine ax_bipush (pc' := 15) (v := (6 : Int32)) dX12_coolOf_13 (by decide) rfl ?_
    refine ax_aload_n (pc' := 16) dX12_coolOf_15 rfl rfl ?_
    refine ax_getR (pc' := 19) dX12_coolOf_16 fl_X12_37 sh_69 rfl rfl rfl ?_
    refine ax_iload_n (pc' := 20) dX12_coolOf_19 rfl rfl ?_
    obtain ⟨hj20, H⟩ := H
    refine ax_aald (pc' := 21) dX12_coolOf_20 sh_101 hj20 rfl rfl ?_
    refine ax_iconst (pc' := 22) (v := (0 : Int32)) dX12_coolOf_21 (by decide) rfl ?_
    refine ax_iald (pc' := 23) dX12_coolOf_22 (sh_r_102 _ (ac_lt hj20)) (ac_in (by decide)) (sh_n_102 _ (ac_lt hj20)) rfl ?_
    refine ax_imul (pc' := 24) dX12_coolOf_23 rfl ?_
    refine ax_iadd (pc' := 25) dX12_coolOf_24 rfl ?_
    refine ax_aload_n (pc' := 26) dX12_coolOf_25 rfl rfl ?_
    refine ax_getR (pc' := 29) dX12_coolOf_26 fl_X12_37 sh_69 rfl rfl rfl ?_
    refine ax_iload_n (pc' := 30) dX12_coolOf_29 rfl rfl ?_
    obtain ⟨hj30, H⟩ := H
    refine ax_aald (pc' := 31) dX12_coolOf_30 sh_101 hj30 rfl rfl ?_
    refine ax_iconst (pc' := 32) (v := (1 : Int32)) dX12_coolOf_31 (by decide) rfl ?_
    refine ax_iald (pc' := 33) dX12_coolOf_32 (sh_r_102 _ (ac_lt hj30)) (ac_in (by decide)) (sh_n_102 _ (ac_lt hj30)) rfl ?_
    refine ax_iadd (pc' := 34) dX12_coolOf_33 rfl ?_
    obtain ⟨hj34, H⟩ := H
    refine ax_iald (pc' := 35) dX12_coolOf_34 hr1 hj34 hn1 rfl ?_
    exact ax_iret dX12_coolOf_35 rfl rfl rfl ⟨_, _, rfl, rfl, H⟩
  · have H := H.2 hc3
    refine ax_iconst (pc' := 7) (v := (0 : Int32)) dX12_coolOf_6 (by decide) rfl ?_
    refine ax_goto (tgt := 35) dX12_coolOf_7 (by decide) ?_
    exact ax_iret dX12_coolOf_35 rfl rfl rfl ⟨_, _, rfl, rfl, H⟩
theorem o_X12_eatOf {g : ac_G} {τ : Nat → Nat → Int64} (d : Nat) (r1 : Nat) (p2 : Int32) (hr1 : SH r1 = .inl (0, 83, 0)) (hn1 : Nat.blt r1 586 = true) {Q : Int32 → ac_m → Prop} {s : ac_m} (H : w_X12_eatOf r1 p2 Q s) : ac_M g i_X12_eatOf (d + 4) 0 0 [.ref 69, .ref r1, .int p2] (false, 586, SH, s, τ) (liI τ Q) := by
  refine ac_ofX (by decide +kernel) rfl rfl rfl ?_
  refine ax_aload_n (pc' := 1) dX12_eatOf_0 rfl rfl ?_
  refine ax_iload_n (pc' := 2) dX12_eatOf_1 rfl rfl ?_
  refine ay_S2 (pc' := 5) (ce' := 0) (sl' := 0) (mc2 := 0) (ms2 := 0) (I2 := i_X12_isThere) dX12_eatOf_2 ml_X12_273 rfl rfl rfl rfl rfl rfl rfl rfl (ac_M.imp (o_X12_isThere _ r1 p2 hr1 hn1 H) ?_)
  rintro _ _ ⟨r2, s2, rfl, rfl, H⟩
  refine ax_if_ne (pc' := 8) (tgt := 10) dX12_eatOf_5 (by decide) rfl (fun hc5 => ?_) (fun hc5 => ?_)
  · have H := H.1 hc5
    refine ax_aload_n (pc' := 11) dX12_eatOf_10 rfl rfl ?_
    refine ax_bipush (pc' := 13) (v := (26 : Int32)) dX12_eatOf_11 (by decide) rfl ?_
    refine ax_iload_n (pc' := 14) dX12_eatOf_13 rfl rfl ?_
    refine ax_iadd (pc' := 15) dX12_eatOf_14 rfl ?_
    obtain ⟨hj15, H⟩ := H
    refine ax_iald (pc' := 16) dX12_eatOf_15 hr1 hj15 hn1 rfl ?_
    refine ax_istore_n (pc' := 17) dX12_eatOf_16 rfl rfl rfl ?_
    refine ax_aload_n (pc' := 18) dX12_eatOf_17 rfl rfl ?_
    refine ax_aload_n (pc' := 19) dX12_eatOf_18 rfl rfl ?_
    refine ax_iconst (pc' := 20) (v := (0 : Int32)) dX12_eatOf_19 (by decide) rfl ?_
    refine ax_iload_n (pc' := 21) dX12_eatOf_20 rfl rfl ?_
    refine ax_iadd (pc' := 22) dX12_eatOf_21 rfl ?_
    obtain ⟨hj22, H⟩ := H
    refine ax_iald (pc' := 23) dX12_eatOf_22 hr1 hj22 hn1 rfl ?_
    refine ax_aload_n (pc' := 24) dX12_eatOf_23 rfl rfl ?_
    refine ax_getR (pc' := 27) dX12_eatOf_24 fl_X12_37 sh_69 rfl rfl rfl ?_
    refine ax_iload_n (pc' := 28) dX12_eatOf_27 rfl rfl ?_
    obtain ⟨hj28, H⟩ := H
    refine ax_aald (pc' := 29) dX12_eatOf_28 sh_101 hj28 rfl rfl ?_
    refine ax_iconst (pc' := 30) (v := (2 : Int32)) dX12_eatOf_29 (by decide) rfl ?_
    refine ax_iald (pc' := 31) dX12_eatOf_30 (sh_r_102 _ (ac_lt hj28)) (ac_in (by decide)) (sh_n_102 _ (ac_lt hj28)) rfl ?_
    refine ax_aload_n (pc' := 32) dX12_eatOf_31 rfl rfl ?_
    refine ax_bipush (pc' := 34) (v := (13 : Int32)) dX12_eatOf_32 (by decide) rfl ?_
    refine ax_iload_n (pc' := 35) dX12_eatOf_34 rfl rfl ?_
    refine ax_iadd (pc' := 36) dX12_eatOf_35 rfl ?_
    obtain ⟨hj36, H⟩ := H
    refine ax_iald (pc' := 37) dX12_eatOf_36 hr1 hj36 hn1 rfl ?_
    refine ax_aload_n (pc' := 38) dX12_eatOf_37 rfl rfl ?_
    refine ax_bipush (pc' := 40) (v := (39 : Int32)) dX12_eatOf_38 (by decide) rfl ?_
    refine ax_iload_n (pc' := 41) dX12_eatOf_40 rfl rfl ?_
    refine ax_iadd (pc' := 42) dX12_eatOf_41 rfl ?_
    obtain ⟨hj42, H⟩ := H
    refine ax_iald (pc' := 43) dX12_eatOf_42 hr1 hj42 hn1 rfl ?_
    refine ax_aload_n (pc' := 44) dX12_eatOf_43 rfl rfl ?_
    refine ax_iload_n (pc' := 45) dX12_eatOf_44 rfl rfl ?_
    refine ay_S2 (pc' := 48) (ce' := 0) (sl' := 0) (mc2 := 0) (ms2 := 0) (I2 := i_X12_onOne) dX12_eatOf_45 ml_X12_277 rfl rfl rfl rfl rfl rfl rfl rfl (ac_M.imp (o_X12_onOne _ r1 (s2 r1 ((26 : Int32) + p2).toNatClampNeg) hr1 hn1 H) ?_)
    rintro _ _ ⟨r45, s45, rfl, rfl, H⟩
    refine ay_S1 (pc' := 51) (ce' := 0) (sl' := 0) (mc2 := 0) (ms2 := 0) (I2 := i_X12_ones) dX12_eatOf_48 ml_X12_281 rfl rfl rfl rfl rfl rfl rfl rfl (ac_M.imp (o_X12_ones _ r45 H) ?_)
    rintro _ _ ⟨r48, s48, rfl, rfl, H⟩
    refine ax_iconst (pc' := 52) (v := (1 : Int32)) dX12_eatOf_51 (by decide) rfl ?_
    refine ax_isub (pc' := 53) dX12_eatOf_52 rfl ?_
    refine ax_aload_n (pc' := 54) dX12_eatOf_53 rfl rfl ?_
    refine ax_aload_n (pc' := 55) dX12_eatOf_54 rfl rfl ?_
    refine ax_iload_n (pc' := 56) dX12_eatOf_55 rfl rfl ?_
    refine ay_V2 (pc' := 59) (ce' := 0) (sl' := 0) (mc2 := 0) (ms2 := 0) (I2 := i_X12_coolOf) dX12_eatOf_56 ml_X12_284 sh_69 (by decide) rfl rfl rfl rfl rfl rfl rfl rfl rfl (ac_M.imp (o_X12_coolOf _ r1 p2 hr1 hn1 H) ?_)
    rintro _ _ ⟨r56, s56, rfl, rfl, H⟩
    refine ax_aload_n (pc' := 60) dX12_eatOf_59 rfl rfl ?_
    refine ax_bipush (pc' := 62) (v := (82 : Int32)) dX12_eatOf_60 (by decide) rfl ?_
    refine ax_iald (pc' := 63) dX12_eatOf_62 hr1 (ac_in (by decide)) hn1 rfl ?_
    refine ax_iload_n (pc' := 64) dX12_eatOf_63 rfl rfl ?_
    refine ay_V8 (pc' := 67) (ce' := 0) (sl' := 0) (mc2 := 0) (ms2 := 0) (I2 := i_X12_eatBy) dX12_eatOf_64 ml_X12_287 sh_69 (by decide) rfl rfl rfl rfl rfl rfl rfl rfl rfl (ac_M.imp (o_X12_eatBy _ (s2 r1 ((0 : Int32) + p2).toNatClampNeg) (s2 (102 + p2.toNatClampNeg) (2 : Int32).toNatClampNeg) (s2 r1 ((13 : Int32) + p2).toNatClampNeg) (s2 r1 ((39 : Int32) + (s2 r1 ((26 : Int32) + p2).toNatClampNeg)).toNatClampNeg) (r48 - (1 : Int32)) r56 (s56 r1 (82 : Int32).toNatClampNeg) p2 H) ?_)
    rintro _ _ ⟨r64, s64, rfl, rfl, H⟩
    exact ax_iret dX12_eatOf_67 rfl rfl rfl ⟨_, _, rfl, rfl, H⟩
  · have H := H.2 hc5
    refine ax_iconst (pc' := 9) (v := (0 : Int32)) dX12_eatOf_8 (by decide) rfl ?_
    exact ax_iret dX12_eatOf_9 rfl rfl rfl ⟨_, _, rfl, rfl, H⟩
theorem o_X12_leaves {g : ac_G} {τ : Nat → Nat → Int64} (d : Nat) (r1 : Nat) (p2 : Int32) (hr1 : SH r1 = .inl (0, 83, 0)) (hn1 : Nat.blt r1 586 = true) {Q : ac_m → Prop} {s : ac_m} (H : w_X12_leaves r1 p2 Q s) : ac_M g i_X12_leaves d 0 0 [.ref r1, .int p2] (false, 586, SH, s, τ) (liV τ Q) := by
  refine ac_ofX (by decide +kernel) rfl rfl rfl ?_
  refine ax_aload_n (pc' := 1) dX12_leaves_0 rfl rfl ?_
  refine ax_iconst (pc' := 2) (v := (0 : Int32)) dX12_leaves_1 (by decide) rfl ?_
  refine ax_iload_n (pc' := 3) dX12_leaves_2 rfl rfl ?_
  refine ax_iadd (pc' := 4) dX12_leaves_3 rfl ?_
  refine ax_iconst (pc' := 5) (v := (0 : Int32)) dX12_leaves_4 (by decide) rfl ?_
  obtain ⟨hj5, H⟩ := H
  refine ax_iast (pc' := 6) dX12_leaves_5 hr1 hj5 hn1 rfl ?_
  refine ax_aload_n (pc' := 7) dX12_leaves_6 rfl rfl ?_
  refine ax_bipush (pc' := 9) (v := (13 : Int32)) dX12_leaves_7 (by decide) rfl ?_
  refine ax_iload_n (pc' := 10) dX12_leaves_9 rfl rfl ?_
  refine ax_iadd (pc' := 11) dX12_leaves_10 rfl ?_
  refine ax_iconst (pc' := 12) (v := (0 : Int32)) dX12_leaves_11 (by decide) rfl ?_
  obtain ⟨hj12, H⟩ := H
  refine ax_iast (pc' := 13) dX12_leaves_12 hr1 hj12 hn1 rfl ?_
  refine ax_aload_n (pc' := 14) dX12_leaves_13 rfl rfl ?_
  refine ax_bipush (pc' := 16) (v := (26 : Int32)) dX12_leaves_14 (by decide) rfl ?_
  refine ax_iload_n (pc' := 17) dX12_leaves_16 rfl rfl ?_
  refine ax_iadd (pc' := 18) dX12_leaves_17 rfl ?_
  refine ax_iconst (pc' := 19) (v := (-1 : Int32)) dX12_leaves_18 (by decide) rfl ?_
  obtain ⟨hj19, H⟩ := H
  refine ax_iast (pc' := 20) dX12_leaves_19 hr1 hj19 hn1 rfl ?_
  exact ax_vret dX12_leaves_20 rfl rfl rfl ⟨_, rfl, rfl, H⟩
theorem o_X12_asks {g : ac_G} {τ : Nat → Nat → Int64} (d : Nat) (r1 : Nat) (p2 : Int32) (hr1 : SH r1 = .inl (0, 83, 0)) (hn1 : Nat.blt r1 586 = true) {Q : Int32 → ac_m → Prop} {s : ac_m} (H : w_X12_asks r1 p2 Q s) : ac_M g i_X12_asks (d + 1) 0 0 [.ref r1, .int p2] (false, 586, SH, s, τ) (liI τ Q) := by
  refine ac_ofX (by decide +kernel) rfl rfl rfl ?_
  refine ax_aload_n (pc' := 1) dX12_asks_0 rfl rfl ?_
  refine ax_iload_n (pc' := 2) dX12_asks_1 rfl rfl ?_
  refine ay_S2 (pc' := 5) (ce' := 0) (sl' := 0) (mc2 := 0) (ms2 := 0) (I2 := i_X12_isThere) dX12_asks_2 ml_X12_273 rfl rfl rfl rfl rfl rfl rfl rfl (ac_M.imp (o_X12_isThere _ r1 p2 hr1 hn1 H) ?_)
  rintro _ _ ⟨r2, s2, rfl, rfl, H⟩
  refine ax_if_ne (pc' := 8) (tgt := 10) dX12_asks_5 (by decide) rfl (fun hc5 => ?_) (fun hc5 => ?_)
  · have H := H.1 hc5
    refine ax_aload_n (pc' := 11) dX12_asks_10 rfl rfl ?_
    refine ax_iload_n (pc' := 12) dX12_asks_11 rfl rfl ?_
    refine ay_S2 (pc' := 15) (ce' := 0) (sl' := 0) (mc2 := 0) (ms2 := 0) (I2 := i_X12_leaves) dX12_asks_12 ml_X12_291 rfl rfl rfl rfl rfl rfl rfl rfl (ac_M.imp (o_X12_leaves _ r1 p2 hr1 hn1 H) ?_)
    rintro _ _ ⟨s12, rfl, rfl, H⟩
    refine ax_iconst (pc' := 16) (v := (1 : Int32)) dX12_asks_15 (by decide) rfl ?_
    exact ax_zret dX12_asks_16 rfl rfl rfl rfl ⟨_, _, rfl, rfl, H⟩
  · have H := H.2 hc5
    refine ax_iconst (pc' := 9) (v := (0 : Int32)) dX12_asks_8 (by decide) rfl ?_
    exact ax_zret dX12_asks_9 rfl rfl rfl rfl ⟨_, _, rfl, rfl, H⟩
theorem o_X12_drives {g : ac_G} {τ : Nat → Nat → Int64} (d : Nat) (r1 : Nat) (p2 : Int32) (p3 : Int32) (hr1 : SH r1 = .inl (0, 83, 0)) (hn1 : Nat.blt r1 586 = true) {Q : Int32 → ac_m → Prop} {s : ac_m} (H : w_X12_drives r1 p2 p3 Q s) : ac_M g i_X12_drives (d + 1) 0 0 [.ref r1, .int p2, .int p3] (false, 586, SH, s, τ) (liI τ Q) := by
  refine ac_ofX (by decide +kernel) rfl rfl rfl ?_
  refine ax_aload_n (pc' := 1) dX12_drives_0 rfl rfl ?_
  refine ax_iload_n (pc' := 2) dX12_drives_1 rfl rfl ?_
  refine ay_S2 (pc' := 5) (ce' := 0) (sl' := 0) (mc2 := 0) (ms2 := 0) (I2 := i_X12_isThere) dX12_drives_2 ml_X12_273 rfl rfl rfl rfl rfl rfl rfl rfl (ac_M.imp (o_X12_isThere _ r1 p2 hr1 hn1 H) ?_)
  rintro _ _ ⟨r2, s2, rfl, rfl, H⟩
  refine ax_if_eq (pc' := 8) (tgt := 18) dX12_drives_5 (by decide) rfl (fun hc5 => ?_) (fun hc5 => ?_)
  · have H := H.1 hc5
    refine ax_iconst (pc' := 19) (v := (0 : Int32)) dX12_drives_18 (by decide) rfl ?_
    exact ax_zret dX12_drives_19 rfl rfl rfl rfl ⟨_, _, rfl, rfl, H⟩
  · have H := H.2 hc5
    refine ax_aload_n (pc' := 9) dX12_drives_8 rfl rfl ?_
    refine ax_bipush (pc' := 11) (v := (26 : Int32)) dX12_drives_9 (by decide) rfl ?_
    refine ax_iload_n (pc' := 12) dX12_drives_11 rfl rfl ?_
    refine ax_iadd (pc' := 13) dX12_drives_12 rfl ?_
    obtain ⟨hj13, H⟩ := H
    refine ax_iald (pc' := 14) dX12_drives_13 hr1 hj13 hn1 rfl ?_
    refine ax_iload_n (pc' := 15) dX12_drives_14 rfl rfl ?_
    refine ax_icmp_ne (pc' := 18) (tgt := 20) dX12_drives_15 (by decide) rfl (fun hc15 => ?_) (fun hc15 => ?_)
    · have H := H.1 hc15
      refine ax_aload_n (pc' := 21) dX12_drives_20 rfl rfl ?_
      refine ax_bipush (pc' := 23) (v := (26 : Int32)) dX12_drives_21 (by decide) rfl ?_
      refine ax_iload_n (pc' := 24) dX12_drives_23 rfl rfl ?_
      refine ax_iadd (pc' := 25) dX12_drives_24 rfl ?_
      refine ax_iload_n (pc' := 26) dX12_drives_25 rfl rfl ?_
      obtain ⟨hj26, H⟩ := H
      refine ax_iast (pc' := 27) dX12_drives_26 hr1 hj26 hn1 rfl ?_
      refine ax_iconst (pc' := 28) (v := (1 : Int32)) dX12_drives_27 (by decide) rfl ?_
      exact ax_zret dX12_drives_28 rfl rfl rfl rfl ⟨_, _, rfl, rfl, H⟩
    · have H := H.2 hc15
      refine ax_iconst (pc' := 19) (v := (0 : Int32)) dX12_drives_18 (by decide) rfl ?_
      exact ax_zret dX12_drives_19 rfl rfl rfl rfl ⟨_, _, rfl, rfl, H⟩
theorem o_X12_cools {g : ac_G} {τ : Nat → Nat → Int64} (d : Nat) (r1 : Nat) (p2 : Int32) (p3 : Int32) (hr1 : SH r1 = .inl (0, 83, 0)) (hn1 : Nat.blt r1 586 = true) {Q : ac_m → Prop} {s : ac_m} (H : w_X12_cools r1 p2 p3 Q s) : ac_M g i_X12_cools (d + 1) 0 0 [.ref 69, .ref r1, .int p2, .int p3] (false, 586, SH, s, τ) (liV τ Q) := by
  refine ac_ofX (by decide +kernel) rfl rfl rfl ?_
  refine ax_aload_n (pc' := 1) dX12_cools_0 rfl rfl ?_
  refine ax_bipush (pc' := 3) (v := (45 : Int32)) dX12_cools_1 (by decide) rfl ?_
  refine ax_bipush (pc' := 5) (v := (6 : Int32)) dX12_cools_3 (by decide) rfl ?_
  refine ax_iload_n (pc' := 6) dX12_cools_5 rfl rfl ?_
  refine ax_imul (pc' := 7) dX12_cools_6 rfl ?_
  refine ax_iadd (pc' := 8) dX12_cools_7 rfl ?_
  refine ax_iload_n (pc' := 9) dX12_cools_8 rfl rfl ?_
  refine ax_iadd (pc' := 10) dX12_cools_9 rfl ?_
  refine ax_bipush (pc' := 12) (v := (9 : Int32)) dX12_cools_10 (by decide) rfl ?_
  refine ax_aload_n (pc' := 13) dX12_cools_12 rfl rfl ?_
  refine ax_bipush (pc' := 15) (v := (45 : Int32)) dX12_cools_13 (by decide) rfl ?_
  refine ax_bipush (pc' := 17) (v := (6 : Int32)) dX12_cools_15 (by decide) rfl ?_
  refine ax_iload_n (pc' := 18) dX12_cools_17 rfl rfl ?_
  refine ax_imul (pc' := 19) dX12_cools_18 rfl ?_
  refine ax_iadd (pc' := 20) dX12_cools_19 rfl ?_
  refine ax_iload_n (pc' := 21) dX12_cools_20 rfl rfl ?_
  refine ax_iadd (pc' := 22) dX12_cools_21 rfl ?_
  obtain ⟨hj22, H⟩ := H
  refine ax_iald (pc' := 23) dX12_cools_22 hr1 hj22 hn1 rfl ?_
  refine ax_iconst (pc' := 24) (v := (1 : Int32)) dX12_cools_23 (by decide) rfl ?_
  refine ax_iadd (pc' := 25) dX12_cools_24 rfl ?_
  refine ay_S2 (pc' := 28) (ce' := 0) (sl' := 0) (mc2 := 0) (ms2 := 0) (I2 := i_X12_less) dX12_cools_25 ml_X12_247 rfl rfl rfl rfl rfl rfl rfl rfl (ac_M.imp (o_X12_less _ (9 : Int32) ((s r1 (((45 : Int32) + ((6 : Int32) * p2)) + p3).toNatClampNeg) + (1 : Int32)) H) ?_)
  rintro _ _ ⟨r25, s25, rfl, rfl, H⟩
  obtain ⟨hj28, H⟩ := H
  refine ax_iast (pc' := 29) dX12_cools_28 hr1 hj28 hn1 rfl ?_
  exact ax_vret dX12_cools_29 rfl rfl rfl ⟨_, rfl, rfl, H⟩
theorem o_X12_doesAgain {g : ac_G} {τ : Nat → Nat → Int64} (d : Nat) (r1 : Nat) (p2 : Int32) (hr1 : SH r1 = .inl (0, 83, 0)) (hn1 : Nat.blt r1 586 = true) {Q : Int32 → ac_m → Prop} {s : ac_m} (H : w_X12_doesAgain r1 p2 Q s) : ac_M g i_X12_doesAgain (d + 1) 0 0 [.ref 69, .ref r1, .int p2] (false, 586, SH, s, τ) (liI τ Q) := by
  refine ac_ofX (by decide +kernel) rfl rfl rfl ?_
  refine ax_aload_n (pc' := 1) dX12_doesAgain_0 rfl rfl ?_
  refine ax_iload_n (pc' := 2) dX12_doesAgain_1 rfl rfl ?_
  refine ay_S2 (pc' := 5) (ce' := 0) (sl' := 0) (mc2 := 0) (ms2 := 0) (I2 := i_X12_isThere) dX12_doesAgain_2 ml_X12_273 rfl rfl rfl rfl rfl rfl rfl rfl (ac_M.imp (o_X12_isThere _ r1 p2 hr1 hn1 H) ?_)
  rintro _ _ ⟨r2, s2, rfl, rfl, H⟩
  refine ax_if_eq (pc' := 8) (tgt := 10) dX12_doesAgain_5 (by decide) rfl (fun hc5 => ?_) (fun hc5 => ?_)
  · have H := H.1 hc5
    refine ax_aload_n (pc' := 11) dX12_doesAgain_10 rfl rfl ?_
    refine ax_aload_n (pc' := 12) dX12_doesAgain_11 rfl rfl ?_
    refine ax_iload_n (pc' := 13) dX12_doesAgain_12 rfl rfl ?_
    refine ay_V2 (pc' := 16) (ce' := 0) (sl' := 0) (mc2 := 0) (ms2 := 0) (I2 := i_X12_comes) dX12_doesAgain_13 ml_X12_200 sh_69 (by decide) rfl rfl rfl rfl rfl rfl rfl rfl rfl (ac_M.imp (o_X12_comes _ r1 p2 hr1 hn1 H) ?_)
    rintro _ _ ⟨s13, rfl, rfl, H⟩
    refine ax_iconst (pc' := 17) (v := (1 : Int32)) dX12_doesAgain_16 (by decide) rfl ?_
    exact ax_zret dX12_doesAgain_17 rfl rfl rfl rfl ⟨_, _, rfl, rfl, H⟩
  · have H := H.2 hc5
    refine ax_iconst (pc' := 9) (v := (0 : Int32)) dX12_doesAgain_8 (by decide) rfl ?_
    exact ax_zret dX12_doesAgain_9 rfl rfl rfl rfl ⟨_, _, rfl, rfl, H⟩
theorem o_X12_grazes {g : ac_G} {τ : Nat → Nat → Int64} (d : Nat) (r1 : Nat) (p2 : Int32) (hr1 : SH r1 = .inl (0, 83, 0)) (hn1 : Nat.blt r1 586 = true) {Q : ac_m → Prop} {s : ac_m} (H : w_X12_grazes r1 p2 Q s) : ac_M g i_X12_grazes (d + 1) 0 0 [.ref 69, .ref r1, .int p2] (false, 586, SH, s, τ) (liV τ Q) := by
  refine ac_ofX (by decide +kernel) rfl rfl rfl ?_
  refine ax_aload_n (pc' := 1) dX12_grazes_0 rfl rfl ?_
  refine ax_bipush (pc' := 3) (v := (26 : Int32)) dX12_grazes_1 (by decide) rfl ?_
  refine ax_iload_n (pc' := 4) dX12_grazes_3 rfl rfl ?_
  refine ax_iadd (pc' := 5) dX12_grazes_4 rfl ?_
  obtain ⟨hj5, H⟩ := H
  refine ax_iald (pc' := 6) dX12_grazes_5 hr1 hj5 hn1 rfl ?_
  refine ax_istore_n (pc' := 7) dX12_grazes_6 rfl rfl rfl ?_
  refine ax_aload_n (pc' := 8) dX12_grazes_7 rfl rfl ?_
  refine ax_getR (pc' := 11) dX12_grazes_8 fl_X12_73 sh_69 rfl rfl rfl ?_
  refine ax_iload_n (pc' := 12) dX12_grazes_11 rfl rfl ?_
  obtain ⟨hj12, H⟩ := H
  refine ax_iald (pc' := 13) dX12_grazes_12 sh_558 hj12 rfl rfl ?_
  refine ax_aload_n (pc' := 14) dX12_grazes_13 rfl rfl ?_
  refine ax_bipush (pc' := 16) (v := (39 : Int32)) dX12_grazes_14 (by decide) rfl ?_
  refine ax_iload_n (pc' := 17) dX12_grazes_16 rfl rfl ?_
  refine ax_iadd (pc' := 18) dX12_grazes_17 rfl ?_
  obtain ⟨hj18, H⟩ := H
  refine ax_iald (pc' := 19) dX12_grazes_18 hr1 hj18 hn1 rfl ?_
  refine ay_S2 (pc' := 22) (ce' := 0) (sl' := 0) (mc2 := 0) (ms2 := 0) (I2 := i_X12_less) dX12_grazes_19 ml_X12_247 rfl rfl rfl rfl rfl rfl rfl rfl (ac_M.imp (o_X12_less _ (s 558 p2.toNatClampNeg) (s r1 ((39 : Int32) + (s r1 ((26 : Int32) + p2).toNatClampNeg)).toNatClampNeg) H) ?_)
  rintro _ _ ⟨r19, s19, rfl, rfl, H⟩
  refine ax_istore (pc' := 24) dX12_grazes_22 rfl rfl rfl ?_
  refine ax_aload_n (pc' := 25) dX12_grazes_24 rfl rfl ?_
  refine ax_bipush (pc' := 27) (v := (39 : Int32)) dX12_grazes_25 (by decide) rfl ?_
  refine ax_iload_n (pc' := 28) dX12_grazes_27 rfl rfl ?_
  refine ax_iadd (pc' := 29) dX12_grazes_28 rfl ?_
  refine ax_dup2 (pc' := 30) dX12_grazes_29 rfl rfl rfl ?_
  obtain ⟨hj30, H⟩ := H
  refine ax_iald (pc' := 31) dX12_grazes_30 hr1 hj30 hn1 rfl ?_
  refine ax_iload (pc' := 33) dX12_grazes_31 rfl rfl ?_
  refine ax_isub (pc' := 34) dX12_grazes_33 rfl ?_
  obtain ⟨hj34, H⟩ := H
  refine ax_iast (pc' := 35) dX12_grazes_34 hr1 hj34 hn1 rfl ?_
  refine ax_aload_n (pc' := 36) dX12_grazes_35 rfl rfl ?_
  refine ax_iconst (pc' := 37) (v := (0 : Int32)) dX12_grazes_36 (by decide) rfl ?_
  refine ax_iload_n (pc' := 38) dX12_grazes_37 rfl rfl ?_
  refine ax_iadd (pc' := 39) dX12_grazes_38 rfl ?_
  refine ax_dup2 (pc' := 40) dX12_grazes_39 rfl rfl rfl ?_
  obtain ⟨hj40, H⟩ := H
  refine ax_iald (pc' := 41) dX12_grazes_40 hr1 hj40 hn1 rfl ?_
  refine ax_aload_n (pc' := 42) dX12_grazes_41 rfl rfl ?_
  refine ax_getR (pc' := 45) dX12_grazes_42 fl_X12_73 sh_69 rfl rfl rfl ?_
  refine ax_iload_n (pc' := 46) dX12_grazes_45 rfl rfl ?_
  obtain ⟨hj46, H⟩ := H
  refine ax_iald (pc' := 47) dX12_grazes_46 sh_558 hj46 rfl rfl ?_
  refine ax_iload (pc' := 49) dX12_grazes_47 rfl rfl ?_
  refine ax_isub (pc' := 50) dX12_grazes_49 rfl ?_
  refine ax_isub (pc' := 51) dX12_grazes_50 rfl ?_
  obtain ⟨hj51, H⟩ := H
  refine ax_iast (pc' := 52) dX12_grazes_51 hr1 hj51 hn1 rfl ?_
  refine ax_aload_n (pc' := 53) dX12_grazes_52 rfl rfl ?_
  refine ax_iconst (pc' := 54) (v := (0 : Int32)) dX12_grazes_53 (by decide) rfl ?_
  refine ax_iload_n (pc' := 55) dX12_grazes_54 rfl rfl ?_
  refine ax_iadd (pc' := 56) dX12_grazes_55 rfl ?_
  obtain ⟨hj56, H⟩ := H
  refine ax_iald (pc' := 57) dX12_grazes_56 hr1 hj56 hn1 rfl ?_
  refine ax_if_le (pc' := 60) (tgt := 61) dX12_grazes_57 (by decide) rfl (fun hc57 => ?_) (fun hc57 => ?_)
  · have H := H.1 hc57
    refine ax_aload_n (pc' := 62) dX12_grazes_61 rfl rfl ?_
    refine ax_iload_n (pc' := 63) dX12_grazes_62 rfl rfl ?_
    refine ay_S2 (pc' := 66) (ce' := 0) (sl' := 0) (mc2 := 0) (ms2 := 0) (I2 := i_X12_leaves) dX12_grazes_63 ml_X12_291 rfl rfl rfl rfl rfl rfl rfl rfl (ac_M.imp (o_X12_leaves _ r1 p2 hr1 hn1 H) ?_)
    rintro _ _ ⟨s63, rfl, rfl, H⟩
    refine ax_aload_n (pc' := 67) dX12_grazes_66 rfl rfl ?_
    refine ax_bipush (pc' := 69) (v := (81 : Int32)) dX12_grazes_67 (by decide) rfl ?_
    refine ax_dup2 (pc' := 70) dX12_grazes_69 rfl rfl rfl ?_
    refine ax_iald (pc' := 71) dX12_grazes_70 hr1 (ac_in (by decide)) hn1 rfl ?_
    refine ax_iconst (pc' := 72) (v := (1 : Int32)) dX12_grazes_71 (by decide) rfl ?_
    refine ax_iadd (pc' := 73) dX12_grazes_72 rfl ?_
    refine ax_iast (pc' := 74) dX12_grazes_73 hr1 (ac_in (by decide)) hn1 rfl ?_
    exact ax_vret dX12_grazes_74 rfl rfl rfl ⟨_, rfl, rfl, H⟩
  · have H := H.2 hc57
    exact ax_vret dX12_grazes_60 rfl rfl rfl ⟨_, rfl, rfl, H⟩
theorem ol_X12_dayEnds_92 {g : ac_G} {τ : Nat → Nat → Int64} (d : Nat) (r1 : Nat) (hr1 : SH r1 = .inl (0, 83, 0)) (hn1 : Nat.blt r1 586 = true) {Q : ac_m → Prop}    {x2 : Int32} {s : ac_m} (H : l_X12_dayEnds_92 r1 Q    x2 s) : ac_X g i_X12_dayEnds (d + 5) 0 0 (liV τ Q) 0 0 92 [some (.ref 69), some (.ref r1), some (.int x2)] [] (false, 586, SH, s, τ) := by
  refine H (fun x2 s => ac_X g i_X12_dayEnds (d + 5) 0 0 (liV τ Q) 0 0 92 [some (.ref 69), some (.ref r1), some (.int x2)] [] (false, 586, SH, s, τ)) ?_
  intro x2 s H
  refine ax_iload_n (pc' := 93) dX12_dayEnds_92 rfl rfl ?_
  refine ax_aload_n (pc' := 94) dX12_dayEnds_93 rfl rfl ?_
  refine ax_getR (pc' := 97) dX12_dayEnds_94 fl_X12_23 sh_69 rfl rfl rfl ?_
  refine ax_iconst (pc' := 98) (v := (0 : Int32)) dX12_dayEnds_97 (by decide) rfl ?_
  refine ax_iald (pc' := 99) dX12_dayEnds_98 sh_73 (ac_in (by decide)) rfl rfl ?_
  refine ax_icmp_ge (pc' := 102) (tgt := 134) dX12_dayEnds_99 (by decide) rfl (fun hc99 => ?_) (fun hc99 => ?_)
  · have H := H.1 hc99
    refine ax_aload_n (pc' := 135) dX12_dayEnds_134 rfl rfl ?_
    refine ax_bipush (pc' := 137) (v := (82 : Int32)) dX12_dayEnds_135 (by decide) rfl ?_
    refine ax_dup2 (pc' := 138) dX12_dayEnds_137 rfl rfl rfl ?_
    refine ax_iald (pc' := 139) dX12_dayEnds_138 hr1 (ac_in (by decide)) hn1 rfl ?_
    refine ax_iconst (pc' := 140) (v := (1 : Int32)) dX12_dayEnds_139 (by decide) rfl ?_
    refine ax_iadd (pc' := 141) dX12_dayEnds_140 rfl ?_
    refine ax_iast (pc' := 142) dX12_dayEnds_141 hr1 (ac_in (by decide)) hn1 rfl ?_
    exact ax_vret dX12_dayEnds_142 rfl rfl rfl ⟨_, rfl, rfl, H⟩
  · have H := H.2 hc99
    refine ax_aload_n (pc' := 103) dX12_dayEnds_102 rfl rfl ?_
    refine ax_bipush (pc' := 105) (v := (39 : Int32)) dX12_dayEnds_103 (by decide) rfl ?_
    refine ax_iload_n (pc' := 106) dX12_dayEnds_105 rfl rfl ?_
    refine ax_iadd (pc' := 107) dX12_dayEnds_106 rfl ?_
    refine ax_bipush (pc' := 109) (v := (99 : Int32)) dX12_dayEnds_107 (by decide) rfl ?_
    refine ax_aload_n (pc' := 110) dX12_dayEnds_109 rfl rfl ?_
    refine ax_bipush (pc' := 112) (v := (39 : Int32)) dX12_dayEnds_110 (by decide) rfl ?_
    refine ax_iload_n (pc' := 113) dX12_dayEnds_112 rfl rfl ?_
    refine ax_iadd (pc' := 114) dX12_dayEnds_113 rfl ?_
    obtain ⟨hj114, H⟩ := H
    refine ax_iald (pc' := 115) dX12_dayEnds_114 hr1 hj114 hn1 rfl ?_
    refine ax_aload_n (pc' := 116) dX12_dayEnds_115 rfl rfl ?_
    refine ax_getR (pc' := 119) dX12_dayEnds_116 fl_X12_31 sh_69 rfl rfl rfl ?_
    refine ax_iload_n (pc' := 120) dX12_dayEnds_119 rfl rfl ?_
    obtain ⟨hj120, H⟩ := H
    refine ax_aald (pc' := 121) dX12_dayEnds_120 sh_81 hj120 rfl rfl ?_
    refine ax_iconst (pc' := 122) (v := (1 : Int32)) dX12_dayEnds_121 (by decide) rfl ?_
    refine ax_iald (pc' := 123) dX12_dayEnds_122 (sh_r_82 _ (ac_lt hj120)) (ac_in (by decide)) (sh_n_82 _ (ac_lt hj120)) rfl ?_
    refine ax_iadd (pc' := 124) dX12_dayEnds_123 rfl ?_
    refine ay_S2 (pc' := 127) (ce' := 0) (sl' := 0) (mc2 := 0) (ms2 := 0) (I2 := i_X12_less) dX12_dayEnds_124 ml_X12_247 rfl rfl rfl rfl rfl rfl rfl rfl (ac_M.imp (o_X12_less _ (99 : Int32) ((s r1 ((39 : Int32) + x2).toNatClampNeg) + (s (82 + x2.toNatClampNeg) (1 : Int32).toNatClampNeg)) H) ?_)
    rintro _ _ ⟨r124, s124, rfl, rfl, H⟩
    obtain ⟨hj127, H⟩ := H
    refine ax_iast (pc' := 128) dX12_dayEnds_127 hr1 hj127 hn1 rfl ?_
    refine ax_iinc (pc' := 131) (v := (x2 + (1 : Int32))) dX12_dayEnds_128 rfl rfl rfl rfl rfl ?_
    refine ax_goto (tgt := 92) dX12_dayEnds_131 (by decide) ?_
    exact H
theorem ol_X12_dayEnds_56 {g : ac_G} {τ : Nat → Nat → Int64} (d : Nat) (r1 : Nat) (hr1 : SH r1 = .inl (0, 83, 0)) (hn1 : Nat.blt r1 586 = true) {Q : ac_m → Prop}    {x2 : Int32} {s : ac_m} (H : l_X12_dayEnds_56 r1 Q    x2 s) : ac_X g i_X12_dayEnds (d + 5) 0 0 (liV τ Q) 0 0 56 [some (.ref 69), some (.ref r1), some (.int x2)] [] (false, 586, SH, s, τ) := by
  refine H (fun x2 s => ac_X g i_X12_dayEnds (d + 5) 0 0 (liV τ Q) 0 0 56 [some (.ref 69), some (.ref r1), some (.int x2)] [] (false, 586, SH, s, τ)) ?_
  intro x2 s H
  refine ax_iload_n (pc' := 57) dX12_dayEnds_56 rfl rfl ?_
  refine ax_bipush (pc' := 59) (v := (12 : Int32)) dX12_dayEnds_57 (by decide) rfl ?_
  refine ax_icmp_gt (pc' := 62) (tgt := 90) dX12_dayEnds_59 (by decide) rfl (fun hc59 => ?_) (fun hc59 => ?_)
  · have H := H.1 hc59
    refine ax_iconst (pc' := 91) (v := (0 : Int32)) dX12_dayEnds_90 (by decide) rfl ?_
    refine ax_istore_n (pc' := 92) dX12_dayEnds_91 rfl rfl rfl ?_
    refine ol_X12_dayEnds_92 d r1 hr1 hn1     H
  · have H := H.2 hc59
    refine ax_aload_n (pc' := 63) dX12_dayEnds_62 rfl rfl ?_
    refine ax_bipush (pc' := 65) (v := (13 : Int32)) dX12_dayEnds_63 (by decide) rfl ?_
    refine ax_iload_n (pc' := 66) dX12_dayEnds_65 rfl rfl ?_
    refine ax_iadd (pc' := 67) dX12_dayEnds_66 rfl ?_
    refine ax_dup2 (pc' := 68) dX12_dayEnds_67 rfl rfl rfl ?_
    obtain ⟨hj68, H⟩ := H
    refine ax_iald (pc' := 69) dX12_dayEnds_68 hr1 hj68 hn1 rfl ?_
    refine ax_aload_n (pc' := 70) dX12_dayEnds_69 rfl rfl ?_
    refine ax_iload_n (pc' := 71) dX12_dayEnds_70 rfl rfl ?_
    refine ay_S2 (pc' := 74) (ce' := 0) (sl' := 0) (mc2 := 0) (ms2 := 0) (I2 := i_X12_isThere) dX12_dayEnds_71 ml_X12_273 rfl rfl rfl rfl rfl rfl rfl rfl (ac_M.imp (o_X12_isThere _ r1 x2 hr1 hn1 H) ?_)
    rintro _ _ ⟨r71, s71, rfl, rfl, H⟩
    refine ax_if_eq (pc' := 77) (tgt := 81) dX12_dayEnds_74 (by decide) rfl (fun hc74 => ?_) (fun hc74 => ?_)
    · have H := H.1 hc74
      refine ax_iconst (pc' := 82) (v := (0 : Int32)) dX12_dayEnds_81 (by decide) rfl ?_
      refine ax_iadd (pc' := 83) dX12_dayEnds_82 rfl ?_
      obtain ⟨hj83, H⟩ := H
      refine ax_iast (pc' := 84) dX12_dayEnds_83 hr1 hj83 hn1 rfl ?_
      refine ax_iinc (pc' := 87) (v := (x2 + (1 : Int32))) dX12_dayEnds_84 rfl rfl rfl rfl rfl ?_
      refine ax_goto (tgt := 56) dX12_dayEnds_87 (by decide) ?_
      exact H
    · have H := H.2 hc74
      refine ax_iconst (pc' := 78) (v := (1 : Int32)) dX12_dayEnds_77 (by decide) rfl ?_
      refine ax_goto (tgt := 82) dX12_dayEnds_78 (by decide) ?_
      refine ax_iadd (pc' := 83) dX12_dayEnds_82 rfl ?_
      obtain ⟨hj83, H⟩ := H
      refine ax_iast (pc' := 84) dX12_dayEnds_83 hr1 hj83 hn1 rfl ?_
      refine ax_iinc (pc' := 87) (v := (x2 + (1 : Int32))) dX12_dayEnds_84 rfl rfl rfl rfl rfl ?_
      refine ax_goto (tgt := 56) dX12_dayEnds_87 (by decide) ?_
      exact H
theorem ol_X12_dayEnds_28 {g : ac_G} {τ : Nat → Nat → Int64} (d : Nat) (r1 : Nat) (hr1 : SH r1 = .inl (0, 83, 0)) (hn1 : Nat.blt r1 586 = true) {Q : ac_m → Prop}    {x2 : Int32} {s : ac_m} (H : l_X12_dayEnds_28 r1 Q    x2 s) : ac_X g i_X12_dayEnds (d + 5) 0 0 (liV τ Q) 0 0 28 [some (.ref 69), some (.ref r1), some (.int x2)] [] (false, 586, SH, s, τ) := by
  refine H (fun x2 s => ac_X g i_X12_dayEnds (d + 5) 0 0 (liV τ Q) 0 0 28 [some (.ref 69), some (.ref r1), some (.int x2)] [] (false, 586, SH, s, τ)) ?_
  intro x2 s H
  refine ax_iload_n (pc' := 29) dX12_dayEnds_28 rfl rfl ?_
  refine ax_bipush (pc' := 31) (v := (12 : Int32)) dX12_dayEnds_29 (by decide) rfl ?_
  refine ax_icmp_gt (pc' := 34) (tgt := 54) dX12_dayEnds_31 (by decide) rfl (fun hc31 => ?_) (fun hc31 => ?_)
  · have H := H.1 hc31
    refine ax_iconst (pc' := 55) (v := (0 : Int32)) dX12_dayEnds_54 (by decide) rfl ?_
    refine ax_istore_n (pc' := 56) dX12_dayEnds_55 rfl rfl rfl ?_
    refine ol_X12_dayEnds_56 d r1 hr1 hn1     H
  · have H := H.2 hc31
    refine ax_aload_n (pc' := 35) dX12_dayEnds_34 rfl rfl ?_
    refine ax_iload_n (pc' := 36) dX12_dayEnds_35 rfl rfl ?_
    refine ay_S2 (pc' := 39) (ce' := 0) (sl' := 0) (mc2 := 0) (ms2 := 0) (I2 := i_X12_isThere) dX12_dayEnds_36 ml_X12_273 rfl rfl rfl rfl rfl rfl rfl rfl (ac_M.imp (o_X12_isThere _ r1 x2 hr1 hn1 H) ?_)
    rintro _ _ ⟨r36, s36, rfl, rfl, H⟩
    refine ax_if_eq (pc' := 42) (tgt := 48) dX12_dayEnds_39 (by decide) rfl (fun hc39 => ?_) (fun hc39 => ?_)
    · have H := H.1 hc39
      refine ax_iinc (pc' := 51) (v := (x2 + (1 : Int32))) dX12_dayEnds_48 rfl rfl rfl rfl rfl ?_
      refine ax_goto (tgt := 28) dX12_dayEnds_51 (by decide) ?_
      exact H
    · have H := H.2 hc39
      refine ax_aload_n (pc' := 43) dX12_dayEnds_42 rfl rfl ?_
      refine ax_aload_n (pc' := 44) dX12_dayEnds_43 rfl rfl ?_
      refine ax_iload_n (pc' := 45) dX12_dayEnds_44 rfl rfl ?_
      refine ay_V2 (pc' := 48) (ce' := 0) (sl' := 0) (mc2 := 0) (ms2 := 0) (I2 := i_X12_grazes) dX12_dayEnds_45 ml_X12_297 sh_69 (by decide) rfl rfl rfl rfl rfl rfl rfl rfl rfl (ac_M.imp (o_X12_grazes _ r1 x2 hr1 hn1 H) ?_)
      rintro _ _ ⟨s45, rfl, rfl, H⟩
      refine ax_iinc (pc' := 51) (v := (x2 + (1 : Int32))) dX12_dayEnds_48 rfl rfl rfl rfl rfl ?_
      refine ax_goto (tgt := 28) dX12_dayEnds_51 (by decide) ?_
      exact H
theorem ol_X12_dayEnds_2 {g : ac_G} {τ : Nat → Nat → Int64} (d : Nat) (r1 : Nat) (hr1 : SH r1 = .inl (0, 83, 0)) (hn1 : Nat.blt r1 586 = true) {Q : ac_m → Prop}    {x2 : Int32} {s : ac_m} (H : l_X12_dayEnds_2 r1 Q    x2 s) : ac_X g i_X12_dayEnds (d + 5) 0 0 (liV τ Q) 0 0 2 [some (.ref 69), some (.ref r1), some (.int x2)] [] (false, 586, SH, s, τ) := by
  refine H (fun x2 s => ac_X g i_X12_dayEnds (d + 5) 0 0 (liV τ Q) 0 0 2 [some (.ref 69), some (.ref r1), some (.int x2)] [] (false, 586, SH, s, τ)) ?_
  intro x2 s H
  refine ax_iload_n (pc' := 3) dX12_dayEnds_2 rfl rfl ?_
  refine ax_bipush (pc' := 5) (v := (12 : Int32)) dX12_dayEnds_3 (by decide) rfl ?_
  refine ax_icmp_gt (pc' := 8) (tgt := 26) dX12_dayEnds_5 (by decide) rfl (fun hc5 => ?_) (fun hc5 => ?_)
  · have H := H.1 hc5
    refine ax_iconst (pc' := 27) (v := (0 : Int32)) dX12_dayEnds_26 (by decide) rfl ?_
    refine ax_istore_n (pc' := 28) dX12_dayEnds_27 rfl rfl rfl ?_
    refine ol_X12_dayEnds_28 d r1 hr1 hn1     H
  · have H := H.2 hc5
    refine ax_aload_n (pc' := 9) dX12_dayEnds_8 rfl rfl ?_
    refine ax_getR (pc' := 12) dX12_dayEnds_9 fl_X12_73 sh_69 rfl rfl rfl ?_
    refine ax_iload_n (pc' := 13) dX12_dayEnds_12 rfl rfl ?_
    refine ax_aload_n (pc' := 14) dX12_dayEnds_13 rfl rfl ?_
    refine ax_aload_n (pc' := 15) dX12_dayEnds_14 rfl rfl ?_
    refine ax_iload_n (pc' := 16) dX12_dayEnds_15 rfl rfl ?_
    refine ay_V2 (pc' := 19) (ce' := 0) (sl' := 0) (mc2 := 0) (ms2 := 0) (I2 := i_X12_eatOf) dX12_dayEnds_16 ml_X12_294 sh_69 (by decide) rfl rfl rfl rfl rfl rfl rfl rfl rfl (ac_M.imp (o_X12_eatOf _ r1 x2 hr1 hn1 H) ?_)
    rintro _ _ ⟨r16, s16, rfl, rfl, H⟩
    obtain ⟨hj19, H⟩ := H
    refine ax_iast (pc' := 20) dX12_dayEnds_19 sh_558 hj19 rfl rfl ?_
    refine ax_iinc (pc' := 23) (v := (x2 + (1 : Int32))) dX12_dayEnds_20 rfl rfl rfl rfl rfl ?_
    refine ax_goto (tgt := 2) dX12_dayEnds_23 (by decide) ?_
    exact H
theorem o_X12_dayEnds {g : ac_G} {τ : Nat → Nat → Int64} (d : Nat) (r1 : Nat) (hr1 : SH r1 = .inl (0, 83, 0)) (hn1 : Nat.blt r1 586 = true) {Q : ac_m → Prop} {s : ac_m} (H : w_X12_dayEnds r1 Q s) : ac_M g i_X12_dayEnds (d + 5) 0 0 [.ref 69, .ref r1] (false, 586, SH, s, τ) (liV τ Q) := by
  refine ac_ofX (by decide +kernel) rfl rfl rfl ?_
  refine ax_iconst (pc' := 1) (v := (0 : Int32)) dX12_dayEnds_0 (by decide) rfl ?_
  refine ax_istore_n (pc' := 2) dX12_dayEnds_1 rfl rfl rfl ?_
  refine ol_X12_dayEnds_2 d r1 hr1 hn1     H
theorem o_X12_does {g : ac_G} {τ : Nat → Nat → Int64} (d : Nat) (r1 : Nat) (r2 : Nat) (hr1 : SH r1 = .inl (0, 83, 0)) (hn1 : Nat.blt r1 586 = true) (hr2 : SH r2 = .inl (0, 4, 0)) (hn2 : Nat.blt r2 586 = true) {Q : Int32 → ac_m → Prop} {s : ac_m} (H : w_X12_does r1 r2 Q s) : ac_M g i_X12_does (d + 6) 0 0 [.ref 69, .ref r1, .ref r2] (false, 586, SH, s, τ) (liI τ Q) := by
  refine ac_ofX (by decide +kernel) rfl rfl rfl ?_
  refine ax_aload_n (pc' := 1) dX12_does_0 rfl rfl ?_
  refine ax_iconst (pc' := 2) (v := (1 : Int32)) dX12_does_1 (by decide) rfl ?_
  refine ax_iald (pc' := 3) dX12_does_2 hr2 (ac_in (by decide)) hn2 rfl ?_
  refine ax_istore_n (pc' := 4) dX12_does_3 rfl rfl rfl ?_
  refine ax_aload_n (pc' := 5) dX12_does_4 rfl rfl ?_
  refine ax_iconst (pc' := 6) (v := (0 : Int32)) dX12_does_5 (by decide) rfl ?_
  refine ax_iald (pc' := 7) dX12_does_6 hr2 (ac_in (by decide)) hn2 rfl ?_
  by_cases hk7_0 : (s r2 (0 : Int32).toNatClampNeg) = (0 : Int32)
  · have H := H.1 hk7_0
    refine ax_tableIn (off := (33)) (tgt := 40) dX12_does_7 (by rw [hk7_0]; decide) (by rw [hk7_0]; decide) (by rw [hk7_0]; rfl) (by decide) ?_
    refine ax_aload_n (pc' := 41) dX12_does_40 rfl rfl ?_
    refine ax_iload_n (pc' := 42) dX12_does_41 rfl rfl ?_
    refine ay_S2 (pc' := 45) (ce' := 0) (sl' := 0) (mc2 := 0) (ms2 := 0) (I2 := i_X12_asks) dX12_does_42 ml_X12_300 rfl rfl rfl rfl rfl rfl rfl rfl (ac_M.imp (o_X12_asks _ r1 (s r2 (1 : Int32).toNatClampNeg) hr1 hn1 H) ?_)
    rintro _ _ ⟨r42, s42, rfl, rfl, H⟩
    obtain ⟨hb, H⟩ := H
    exact ax_zret dX12_does_45 rfl hb rfl rfl ⟨_, _, rfl, rfl, H⟩
  have H := H.2
  by_cases hk7_1 : (s r2 (0 : Int32).toNatClampNeg) = (1 : Int32)
  · have H := H.1 hk7_1
    refine ax_tableIn (off := (39)) (tgt := 46) dX12_does_7 (by rw [hk7_1]; decide) (by rw [hk7_1]; decide) (by rw [hk7_1]; rfl) (by decide) ?_
    refine ax_aload_n (pc' := 47) dX12_does_46 rfl rfl ?_
    refine ax_iload_n (pc' := 48) dX12_does_47 rfl rfl ?_
    refine ax_aload_n (pc' := 49) dX12_does_48 rfl rfl ?_
    refine ax_iconst (pc' := 50) (v := (2 : Int32)) dX12_does_49 (by decide) rfl ?_
    refine ax_iald (pc' := 51) dX12_does_50 hr2 (ac_in (by decide)) hn2 rfl ?_
    refine ay_S3 (pc' := 54) (ce' := 0) (sl' := 0) (mc2 := 0) (ms2 := 0) (I2 := i_X12_drives) dX12_does_51 ml_X12_303 rfl rfl rfl rfl rfl rfl rfl rfl (ac_M.imp (o_X12_drives _ r1 (s r2 (1 : Int32).toNatClampNeg) (s r2 (2 : Int32).toNatClampNeg) hr1 hn1 H) ?_)
    rintro _ _ ⟨r51, s51, rfl, rfl, H⟩
    obtain ⟨hb, H⟩ := H
    exact ax_zret dX12_does_54 rfl hb rfl rfl ⟨_, _, rfl, rfl, H⟩
  have H := H.2
  by_cases hk7_2 : (s r2 (0 : Int32).toNatClampNeg) = (2 : Int32)
  · have H := H.1 hk7_2
    refine ax_tableIn (off := (48)) (tgt := 55) dX12_does_7 (by rw [hk7_2]; decide) (by rw [hk7_2]; decide) (by rw [hk7_2]; rfl) (by decide) ?_
    refine ax_aload_n (pc' := 56) dX12_does_55 rfl rfl ?_
    refine ax_iload_n (pc' := 57) dX12_does_56 rfl rfl ?_
    refine ay_S2 (pc' := 60) (ce' := 0) (sl' := 0) (mc2 := 0) (ms2 := 0) (I2 := i_X12_asks) dX12_does_57 ml_X12_300 rfl rfl rfl rfl rfl rfl rfl rfl (ac_M.imp (o_X12_asks _ r1 (s r2 (1 : Int32).toNatClampNeg) hr1 hn1 H) ?_)
    rintro _ _ ⟨r57, s57, rfl, rfl, H⟩
    refine ax_if_ne (pc' := 63) (tgt := 65) dX12_does_60 (by decide) rfl (fun hc60 => ?_) (fun hc60 => ?_)
    · have H := H.1 hc60
      refine ax_aload_n (pc' := 66) dX12_does_65 rfl rfl ?_
      refine ax_aload_n (pc' := 67) dX12_does_66 rfl rfl ?_
      refine ax_aload_n (pc' := 68) dX12_does_67 rfl rfl ?_
      refine ax_getR (pc' := 71) dX12_does_68 fl_X12_37 sh_69 rfl rfl rfl ?_
      refine ax_iload_n (pc' := 72) dX12_does_71 rfl rfl ?_
      obtain ⟨hj72, H⟩ := H
      refine ax_aald (pc' := 73) dX12_does_72 sh_101 hj72 rfl rfl ?_
      refine ax_iconst (pc' := 74) (v := (0 : Int32)) dX12_does_73 (by decide) rfl ?_
      refine ax_iald (pc' := 75) dX12_does_74 (sh_r_102 _ (ac_lt hj72)) (ac_in (by decide)) (sh_n_102 _ (ac_lt hj72)) rfl ?_
      refine ax_aload_n (pc' := 76) dX12_does_75 rfl rfl ?_
      refine ax_getR (pc' := 79) dX12_does_76 fl_X12_37 sh_69 rfl rfl rfl ?_
      refine ax_iload_n (pc' := 80) dX12_does_79 rfl rfl ?_
      obtain ⟨hj80, H⟩ := H
      refine ax_aald (pc' := 81) dX12_does_80 sh_101 hj80 rfl rfl ?_
      refine ax_iconst (pc' := 82) (v := (1 : Int32)) dX12_does_81 (by decide) rfl ?_
      refine ax_iald (pc' := 83) dX12_does_82 (sh_r_102 _ (ac_lt hj80)) (ac_in (by decide)) (sh_n_102 _ (ac_lt hj80)) rfl ?_
      refine ay_V3 (pc' := 86) (ce' := 0) (sl' := 0) (mc2 := 0) (ms2 := 0) (I2 := i_X12_cools) dX12_does_83 ml_X12_307 sh_69 (by decide) rfl rfl rfl rfl rfl rfl rfl rfl rfl (ac_M.imp (o_X12_cools _ r1 (s57 (102 + (s r2 (1 : Int32).toNatClampNeg).toNatClampNeg) (0 : Int32).toNatClampNeg) (s57 (102 + (s r2 (1 : Int32).toNatClampNeg).toNatClampNeg) (1 : Int32).toNatClampNeg) hr1 hn1 H) ?_)
      rintro _ _ ⟨s83, rfl, rfl, H⟩
      refine ax_aload_n (pc' := 87) dX12_does_86 rfl rfl ?_
      refine ax_aload_n (pc' := 88) dX12_does_87 rfl rfl ?_
      refine ax_aload_n (pc' := 89) dX12_does_88 rfl rfl ?_
      refine ax_getR (pc' := 92) dX12_does_89 fl_X12_37 sh_69 rfl rfl rfl ?_
      refine ax_iload_n (pc' := 93) dX12_does_92 rfl rfl ?_
      obtain ⟨hj93, H⟩ := H
      refine ax_aald (pc' := 94) dX12_does_93 sh_101 hj93 rfl rfl ?_
      refine ax_iconst (pc' := 95) (v := (1 : Int32)) dX12_does_94 (by decide) rfl ?_
      refine ax_iald (pc' := 96) dX12_does_95 (sh_r_102 _ (ac_lt hj93)) (ac_in (by decide)) (sh_n_102 _ (ac_lt hj93)) rfl ?_
      refine ax_aload_n (pc' := 97) dX12_does_96 rfl rfl ?_
      refine ax_getR (pc' := 100) dX12_does_97 fl_X12_37 sh_69 rfl rfl rfl ?_
      refine ax_iload_n (pc' := 101) dX12_does_100 rfl rfl ?_
      obtain ⟨hj101, H⟩ := H
      refine ax_aald (pc' := 102) dX12_does_101 sh_101 hj101 rfl rfl ?_
      refine ax_iconst (pc' := 103) (v := (0 : Int32)) dX12_does_102 (by decide) rfl ?_
      refine ax_iald (pc' := 104) dX12_does_103 (sh_r_102 _ (ac_lt hj101)) (ac_in (by decide)) (sh_n_102 _ (ac_lt hj101)) rfl ?_
      refine ay_V3 (pc' := 107) (ce' := 0) (sl' := 0) (mc2 := 0) (ms2 := 0) (I2 := i_X12_cools) dX12_does_104 ml_X12_307 sh_69 (by decide) rfl rfl rfl rfl rfl rfl rfl rfl rfl (ac_M.imp (o_X12_cools _ r1 (s83 (102 + (s r2 (1 : Int32).toNatClampNeg).toNatClampNeg) (1 : Int32).toNatClampNeg) (s83 (102 + (s r2 (1 : Int32).toNatClampNeg).toNatClampNeg) (0 : Int32).toNatClampNeg) hr1 hn1 H) ?_)
      rintro _ _ ⟨s104, rfl, rfl, H⟩
      refine ax_iconst (pc' := 108) (v := (1 : Int32)) dX12_does_107 (by decide) rfl ?_
      exact ax_zret dX12_does_108 rfl rfl rfl rfl ⟨_, _, rfl, rfl, H⟩
    · have H := H.2 hc60
      refine ax_iconst (pc' := 64) (v := (0 : Int32)) dX12_does_63 (by decide) rfl ?_
      exact ax_zret dX12_does_64 rfl rfl rfl rfl ⟨_, _, rfl, rfl, H⟩
  have H := H.2
  by_cases hk7_3 : (s r2 (0 : Int32).toNatClampNeg) = (3 : Int32)
  · have H := H.1 hk7_3
    refine ax_tableIn (off := (102)) (tgt := 109) dX12_does_7 (by rw [hk7_3]; decide) (by rw [hk7_3]; decide) (by rw [hk7_3]; rfl) (by decide) ?_
    refine ax_aload_n (pc' := 110) dX12_does_109 rfl rfl ?_
    refine ax_aload_n (pc' := 111) dX12_does_110 rfl rfl ?_
    refine ax_iload_n (pc' := 112) dX12_does_111 rfl rfl ?_
    refine ay_V2 (pc' := 115) (ce' := 0) (sl' := 0) (mc2 := 0) (ms2 := 0) (I2 := i_X12_doesAgain) dX12_does_112 ml_X12_311 sh_69 (by decide) rfl rfl rfl rfl rfl rfl rfl rfl rfl (ac_M.imp (o_X12_doesAgain _ r1 (s r2 (1 : Int32).toNatClampNeg) hr1 hn1 H) ?_)
    rintro _ _ ⟨r112, s112, rfl, rfl, H⟩
    obtain ⟨hb, H⟩ := H
    exact ax_zret dX12_does_115 rfl hb rfl rfl ⟨_, _, rfl, rfl, H⟩
  have H := H.2
  by_cases hk7_4 : (s r2 (0 : Int32).toNatClampNeg) = (4 : Int32)
  · have H := H.1 hk7_4
    refine ax_tableIn (off := (109)) (tgt := 116) dX12_does_7 (by rw [hk7_4]; decide) (by rw [hk7_4]; decide) (by rw [hk7_4]; rfl) (by decide) ?_
    refine ax_aload_n (pc' := 117) dX12_does_116 rfl rfl ?_
    refine ax_bipush (pc' := 119) (v := (39 : Int32)) dX12_does_117 (by decide) rfl ?_
    refine ax_iload_n (pc' := 120) dX12_does_119 rfl rfl ?_
    refine ax_iadd (pc' := 121) dX12_does_120 rfl ?_
    obtain ⟨hj121, H⟩ := H
    refine ax_iald (pc' := 122) dX12_does_121 hr1 hj121 hn1 rfl ?_
    refine ax_bipush (pc' := 124) (v := (99 : Int32)) dX12_does_122 (by decide) rfl ?_
    refine ax_icmp_ne (pc' := 127) (tgt := 129) dX12_does_124 (by decide) rfl (fun hc124 => ?_) (fun hc124 => ?_)
    · have H := H.1 hc124
      refine ax_aload_n (pc' := 130) dX12_does_129 rfl rfl ?_
      refine ax_bipush (pc' := 132) (v := (39 : Int32)) dX12_does_130 (by decide) rfl ?_
      refine ax_iload_n (pc' := 133) dX12_does_132 rfl rfl ?_
      refine ax_iadd (pc' := 134) dX12_does_133 rfl ?_
      refine ax_bipush (pc' := 136) (v := (99 : Int32)) dX12_does_134 (by decide) rfl ?_
      refine ax_aload_n (pc' := 137) dX12_does_136 rfl rfl ?_
      refine ax_bipush (pc' := 139) (v := (39 : Int32)) dX12_does_137 (by decide) rfl ?_
      refine ax_iload_n (pc' := 140) dX12_does_139 rfl rfl ?_
      refine ax_iadd (pc' := 141) dX12_does_140 rfl ?_
      obtain ⟨hj141, H⟩ := H
      refine ax_iald (pc' := 142) dX12_does_141 hr1 hj141 hn1 rfl ?_
      refine ax_aload_n (pc' := 143) dX12_does_142 rfl rfl ?_
      refine ax_iconst (pc' := 144) (v := (2 : Int32)) dX12_does_143 (by decide) rfl ?_
      refine ax_iald (pc' := 145) dX12_does_144 hr2 (ac_in (by decide)) hn2 rfl ?_
      refine ax_iadd (pc' := 146) dX12_does_145 rfl ?_
      refine ay_S2 (pc' := 149) (ce' := 0) (sl' := 0) (mc2 := 0) (ms2 := 0) (I2 := i_X12_less) dX12_does_146 ml_X12_247 rfl rfl rfl rfl rfl rfl rfl rfl (ac_M.imp (o_X12_less _ (99 : Int32) ((s r1 ((39 : Int32) + (s r2 (1 : Int32).toNatClampNeg)).toNatClampNeg) + (s r2 (2 : Int32).toNatClampNeg)) H) ?_)
      rintro _ _ ⟨r146, s146, rfl, rfl, H⟩
      obtain ⟨hj149, H⟩ := H
      refine ax_iast (pc' := 150) dX12_does_149 hr1 hj149 hn1 rfl ?_
      refine ax_iconst (pc' := 151) (v := (1 : Int32)) dX12_does_150 (by decide) rfl ?_
      exact ax_zret dX12_does_151 rfl rfl rfl rfl ⟨_, _, rfl, rfl, H⟩
    · have H := H.2 hc124
      refine ax_iconst (pc' := 128) (v := (0 : Int32)) dX12_does_127 (by decide) rfl ?_
      exact ax_zret dX12_does_128 rfl rfl rfl rfl ⟨_, _, rfl, rfl, H⟩
  have H := H.2
  have H := H ⟨hk7_0, hk7_1, hk7_2, hk7_3, hk7_4⟩
  have hq0 : (s r2 (0 : Int32).toNatClampNeg).toInt ≠ 0 := ac_ne hk7_0
  have hq1 : (s r2 (0 : Int32).toNatClampNeg).toInt ≠ 1 := ac_ne hk7_1
  have hq2 : (s r2 (0 : Int32).toNatClampNeg).toInt ≠ 2 := ac_ne hk7_2
  have hq3 : (s r2 (0 : Int32).toNatClampNeg).toInt ≠ 3 := ac_ne hk7_3
  have hq4 : (s r2 (0 : Int32).toNatClampNeg).toInt ≠ 4 := ac_ne hk7_4
  refine ax_tableOut (tgt := 152) dX12_does_7 (by omega) (by decide) ?_
  refine ax_aload_n (pc' := 153) dX12_does_152 rfl rfl ?_
  refine ax_bipush (pc' := 155) (v := (82 : Int32)) dX12_does_153 (by decide) rfl ?_
  refine ax_iald (pc' := 156) dX12_does_155 hr1 (ac_in (by decide)) hn1 rfl ?_
  refine ax_sipush (pc' := 159) (v := (400 : Int32)) dX12_does_156 (by decide) rfl ?_
  refine ax_icmp_lt (pc' := 162) (tgt := 164) dX12_does_159 (by decide) rfl (fun hc159 => ?_) (fun hc159 => ?_)
  · have H := H.1 hc159
    refine ax_aload_n (pc' := 165) dX12_does_164 rfl rfl ?_
    refine ax_aload_n (pc' := 166) dX12_does_165 rfl rfl ?_
    refine ay_V1 (pc' := 169) (ce' := 0) (sl' := 0) (mc2 := 0) (ms2 := 0) (I2 := i_X12_dayEnds) dX12_does_166 ml_X12_314 sh_69 (by decide) rfl rfl rfl rfl rfl rfl rfl rfl rfl (ac_M.imp (o_X12_dayEnds _ r1 hr1 hn1 H) ?_)
    rintro _ _ ⟨s166, rfl, rfl, H⟩
    refine ax_iconst (pc' := 170) (v := (1 : Int32)) dX12_does_169 (by decide) rfl ?_
    exact ax_zret dX12_does_170 rfl rfl rfl rfl ⟨_, _, rfl, rfl, H⟩
  · have H := H.2 hc159
    refine ax_iconst (pc' := 163) (v := (0 : Int32)) dX12_does_162 (by decide) rfl ?_
    exact ax_zret dX12_does_163 rfl rfl rfl rfl ⟨_, _, rfl, rfl, H⟩
