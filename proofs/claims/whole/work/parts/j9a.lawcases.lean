theorem lc_feed {g : ac_G} {Q : ac_O → ac_W → Prop} {ce sl : Nat} {i : Int32} {s : ac_m} {τ : Nat → Nat → Int64} (hce : ce + 8 ≤ 601024) (hsl : sl + 48 ≤ 7293034) (hr : rd g i) (hI : Inv s) (hN : ∀ s' τ', Inv s' → lwX g Q (ce + 8) (sl + 48) 2585 i s' τ') : lwX g Q ce sl 220 i s τ := by
  refine ax_aload_n (pc' := 221) dL_law__220 rfl rfl ?_
  refine ax_aload_n (pc' := 222) dL_law__221 rfl rfl ?_
  refine ax_iload (pc' := 224) dL_law__222 rfl rfl ?_
  refine ax_iconst (pc' := 225) (v := (1 : Int32)) dL_law__224 (by decide) rfl ?_
  refine ax_iadd (pc' := 226) dL_law__225 rfl ?_
  refine ax_sld (pc' := 227) dL_law__226 hr.1 rfl ?_
  refine ax_aload_n (pc' := 228) dL_law__227 rfl rfl ?_
  refine ax_iload (pc' := 230) dL_law__228 rfl rfl ?_
  refine ax_iconst (pc' := 231) (v := (2 : Int32)) dL_law__230 (by decide) rfl ?_
  refine ax_iadd (pc' := 232) dL_law__231 rfl ?_
  refine ax_sld (pc' := 233) dL_law__232 hr.2.1 rfl ?_
  refine ax_aload_n (pc' := 234) dL_law__233 rfl rfl ?_
  refine ax_iload (pc' := 236) dL_law__234 rfl rfl ?_
  refine ax_iconst (pc' := 237) (v := (3 : Int32)) dL_law__236 (by decide) rfl ?_
  refine ax_iadd (pc' := 238) dL_law__237 rfl ?_
  refine ax_sld (pc' := 239) dL_law__238 hr.2.2.1 rfl ?_
  refine ax_aload_n (pc' := 240) dL_law__239 rfl rfl ?_
  refine ax_iload (pc' := 242) dL_law__240 rfl rfl ?_
  refine ax_iconst (pc' := 243) (v := (4 : Int32)) dL_law__242 (by decide) rfl ?_
  refine ax_iadd (pc' := 244) dL_law__243 rfl ?_
  refine ax_sld (pc' := 245) dL_law__244 hr.2.2.2.1 rfl ?_
  refine ax_aload_n (pc' := 246) dL_law__245 rfl rfl ?_
  refine ax_iload (pc' := 248) dL_law__246 rfl rfl ?_
  refine ax_iconst (pc' := 249) (v := (5 : Int32)) dL_law__248 (by decide) rfl ?_
  refine ax_iadd (pc' := 250) dL_law__249 rfl ?_
  refine ax_sld (pc' := 251) dL_law__250 hr.2.2.2.2.1 rfl ?_
  refine ax_invVL (pc' := 254) (ce' := ce + 0) (sl' := sl + 0) (a := 0) (As := [.int (g.2.2.2.2.2.2 (i + 1).toNatClampNeg), .int (g.2.2.2.2.2.2 (i + 2).toNatClampNeg), .int (g.2.2.2.2.2.2 (i + 3).toNatClampNeg), .int (g.2.2.2.2.2.2 (i + 4).toNatClampNeg), .int (g.2.2.2.2.2.2 (i + 5).toNatClampNeg)]) (S := []) (mc2 := 0) (ms2 := 0) (I2 := i_X11_feed) rfl dL_law__251 ll_117 sh_0 (by decide) rfl rfl rfl rfl rfl rfl rfl (by omega) (by omega) rfl (ac_M.imp (o_X11_feed _ (g.2.2.2.2.2.2 (i + 1).toNatClampNeg) (g.2.2.2.2.2.2 (i + 2).toNatClampNeg) (g.2.2.2.2.2.2 (i + 3).toNatClampNeg) (g.2.2.2.2.2.2 (i + 4).toNatClampNeg) (g.2.2.2.2.2.2 (i + 5).toNatClampNeg) (s_feed (g.2.2.2.2.2.2 (i + 1).toNatClampNeg) (g.2.2.2.2.2.2 (i + 2).toNatClampNeg) (g.2.2.2.2.2.2 (i + 3).toNatClampNeg) (g.2.2.2.2.2.2 (i + 4).toNatClampNeg) (g.2.2.2.2.2.2 (i + 5).toNatClampNeg) s hI)) ?_)
  rintro _ _ ⟨r, s1, rfl, rfl, H⟩
  show ac_X g i_L_law_ 100 601024 7293034 Q (ce + 0) (sl + 0) 254 [some (.ref 1000000), some (.ref 0), some (.ref 69), some (.ref 585), some (.int i), none, none, none] [.int r] (false, 586, SH, s1, τ)
  refine ax_aload_n (pc' := 255) dL_law__254 rfl rfl ?_
  refine ax_aload_n (pc' := 256) dL_law__255 rfl rfl ?_
  refine ax_iload (pc' := 258) dL_law__256 rfl rfl ?_
  refine ax_iconst (pc' := 259) (v := (1 : Int32)) dL_law__258 (by decide) rfl ?_
  refine ax_iadd (pc' := 260) dL_law__259 rfl ?_
  refine ax_sld (pc' := 261) dL_law__260 hr.1 rfl ?_
  refine ax_aload_n (pc' := 262) dL_law__261 rfl rfl ?_
  refine ax_iload (pc' := 264) dL_law__262 rfl rfl ?_
  refine ax_iconst (pc' := 265) (v := (2 : Int32)) dL_law__264 (by decide) rfl ?_
  refine ax_iadd (pc' := 266) dL_law__265 rfl ?_
  refine ax_sld (pc' := 267) dL_law__266 hr.2.1 rfl ?_
  refine ax_aload_n (pc' := 268) dL_law__267 rfl rfl ?_
  refine ax_iload (pc' := 270) dL_law__268 rfl rfl ?_
  refine ax_iconst (pc' := 271) (v := (3 : Int32)) dL_law__270 (by decide) rfl ?_
  refine ax_iadd (pc' := 272) dL_law__271 rfl ?_
  refine ax_sld (pc' := 273) dL_law__272 hr.2.2.1 rfl ?_
  refine ax_aload_n (pc' := 274) dL_law__273 rfl rfl ?_
  refine ax_iload (pc' := 276) dL_law__274 rfl rfl ?_
  refine ax_iconst (pc' := 277) (v := (4 : Int32)) dL_law__276 (by decide) rfl ?_
  refine ax_iadd (pc' := 278) dL_law__277 rfl ?_
  refine ax_sld (pc' := 279) dL_law__278 hr.2.2.2.1 rfl ?_
  refine ax_aload_n (pc' := 280) dL_law__279 rfl rfl ?_
  refine ax_iload (pc' := 282) dL_law__280 rfl rfl ?_
  refine ax_iconst (pc' := 283) (v := (5 : Int32)) dL_law__282 (by decide) rfl ?_
  refine ax_iadd (pc' := 284) dL_law__283 rfl ?_
  refine ax_sld (pc' := 285) dL_law__284 hr.2.2.2.2.1 rfl ?_
  refine ax_invVL (pc' := 288) (ce' := ce + 0) (sl' := sl + 0) (a := 69) (As := [.int (g.2.2.2.2.2.2 (i + 1).toNatClampNeg), .int (g.2.2.2.2.2.2 (i + 2).toNatClampNeg), .int (g.2.2.2.2.2.2 (i + 3).toNatClampNeg), .int (g.2.2.2.2.2.2 (i + 4).toNatClampNeg), .int (g.2.2.2.2.2.2 (i + 5).toNatClampNeg)]) (S := [.int r]) (mc2 := 0) (ms2 := 0) (I2 := i_X12_feed) rfl dL_law__285 ll_121 sh_69 (by decide) rfl rfl rfl rfl rfl rfl rfl (by omega) (by omega) rfl (ac_M.imp (o_X12_feed _ (g.2.2.2.2.2.2 (i + 1).toNatClampNeg) (g.2.2.2.2.2.2 (i + 2).toNatClampNeg) (g.2.2.2.2.2.2 (i + 3).toNatClampNeg) (g.2.2.2.2.2.2 (i + 4).toNatClampNeg) (g.2.2.2.2.2.2 (i + 5).toNatClampNeg) H) ?_)
  rintro _ _ ⟨b, s2, rfl, rfl, hb, h0, hI2⟩
  show ac_X g i_L_law_ 100 601024 7293034 Q (ce + 0) (sl + 0) 288 [some (.ref 1000000), some (.ref 0), some (.ref 69), some (.ref 585), some (.int i), none, none, none] [.int b, .int r] (false, 586, SH, s2, τ)
  refine ax_icmp_eq (pc' := 291) (tgt := 2585) dL_law__288 (by decide) rfl (fun _ => ?_) (fun z => absurd hb z)
  exact ax_widen (ce' := ce + 8) (sl' := sl + 48) (by omega) (by omega) (hN _ _ hI2)
theorem lc_hills {g : ac_G} {Q : ac_O → ac_W → Prop} {ce sl : Nat} {i : Int32} {s : ac_m} {τ : Nat → Nat → Int64} (hce : ce + 8 ≤ 601024) (hsl : sl + 48 ≤ 7293034) (hr : rd g i) (hI : Inv s) (hN : ∀ s' τ', Inv s' → lwX g Q (ce + 8) (sl + 48) 2585 i s' τ') : lwX g Q ce sl 293 i s τ := by
  refine ax_aload_n (pc' := 294) dL_law__293 rfl rfl ?_
  refine ax_aload_n (pc' := 295) dL_law__294 rfl rfl ?_
  refine ax_iload (pc' := 297) dL_law__295 rfl rfl ?_
  refine ax_iconst (pc' := 298) (v := (1 : Int32)) dL_law__297 (by decide) rfl ?_
  refine ax_iadd (pc' := 299) dL_law__298 rfl ?_
  refine ax_sld (pc' := 300) dL_law__299 hr.1 rfl ?_
  refine ax_aload_n (pc' := 301) dL_law__300 rfl rfl ?_
  refine ax_invSH (pc' := 304) (ce' := ce + 1) (sl' := sl + 6) (As := [.ref 0, .int (g.2.2.2.2.2.2 (i + 1).toNatClampNeg), .ref 585]) (S := []) (mc2 := 1) (ms2 := 6) (I2 := i_L_hills) rfl dL_law__301 ll_122 rfl (by decide) rfl rfl rfl rfl (by omega) (by omega) rfl (ac_M.imp (o_L_hills _ (g.2.2.2.2.2.2 (i + 1).toNatClampNeg) (s_hills (g.2.2.2.2.2.2 (i + 1).toNatClampNeg) s hI)) ?_)
  rintro _ _ (⟨r, s1, rfl, rfl, H⟩ | ⟨E, c, s1, rfl, rfl, hT, H⟩)
  · show ac_X g i_L_law_ 100 601024 7293034 Q (ce + 1) (sl + 6) 304 [some (.ref 1000000), some (.ref 0), some (.ref 69), some (.ref 585), some (.int i), none, none, none] [.int 0] (false, 586, SH, s1, (ac_uL τ 585 0 r.toInt64))
    refine ax_istore (pc' := 306) dL_law__304 rfl rfl rfl ?_
    refine ax_aload_n (pc' := 307) dL_law__306 rfl rfl ?_
    refine ax_aload_n (pc' := 308) dL_law__307 rfl rfl ?_
    refine ax_iload (pc' := 310) dL_law__308 rfl rfl ?_
    refine ax_iconst (pc' := 311) (v := (1 : Int32)) dL_law__310 (by decide) rfl ?_
    refine ax_iadd (pc' := 312) dL_law__311 rfl ?_
    refine ax_sld (pc' := 313) dL_law__312 hr.1 rfl ?_
    refine ax_invVL (pc' := 316) (ce' := ce + 1) (sl' := sl + 6) (a := 69) (As := [.int (g.2.2.2.2.2.2 (i + 1).toNatClampNeg)]) (S := []) (mc2 := 0) (ms2 := 0) (I2 := i_X12_hills) rfl dL_law__313 ll_127 sh_69 (by decide) rfl rfl rfl rfl rfl rfl rfl (by omega) (by omega) rfl (ac_M.imp (o_X12_hills _ (g.2.2.2.2.2.2 (i + 1).toNatClampNeg) H) ?_)
    rintro _ _ ⟨b, s2, rfl, rfl, hb, h0, hI2⟩
    show ac_X g i_L_law_ 100 601024 7293034 Q (ce + 1) (sl + 6) 316 [some (.ref 1000000), some (.ref 0), some (.ref 69), some (.ref 585), some (.int i), some (.int 0), none, none] [.int b] (false, 586, SH, s2, (ac_uL τ 585 0 r.toInt64))
    refine ax_istore (pc' := 318) dL_law__316 rfl rfl rfl ?_
    refine ax_aload_n (pc' := 319) dL_law__318 rfl rfl ?_
    refine ax_invVL (pc' := 322) (ce' := ce + 1) (sl' := sl + 6) (a := 69) (As := []) (S := []) (mc2 := 0) (ms2 := 0) (I2 := i_X12_thrown) rfl dL_law__319 ll_128 sh_69 (by decide) rfl rfl rfl rfl rfl rfl rfl (by omega) (by omega) rfl (ac_M.imp (o_X12_thrown _ (Q := fun r s => r = s2 69 0 ∧ s = s2) ⟨rfl, rfl⟩) ?_)
    rintro _ _ ⟨z, s3, rfl, rfl, rfl, rfl⟩
    show ac_X g i_L_law_ 100 601024 7293034 Q (ce + 1) (sl + 6) 322 [some (.ref 1000000), some (.ref 0), some (.ref 69), some (.ref 585), some (.int i), some (.int 0), some (.int b), none] [.int (s3 69 0)] (false, 586, SH, s3, (ac_uL τ 585 0 r.toInt64))
    refine ax_iload (pc' := 324) dL_law__322 rfl rfl ?_
    refine ax_icmp_eq (pc' := 327) (tgt := 329) dL_law__324 (by decide) rfl (fun _ => ?_) (fun z => absurd h0 z)
    refine ax_iload (pc' := 331) dL_law__329 rfl rfl ?_
    refine ax_if_ne (pc' := 334) (tgt := 346) dL_law__331 (by decide) rfl (fun z => absurd rfl z) (fun _ => ?_)
    refine ax_aload_n (pc' := 335) dL_law__334 rfl rfl ?_
    refine ax_iconst (pc' := 336) (v := (0 : Int32)) dL_law__335 (by decide) rfl ?_
    refine ax_lald (pc' := 337) dL_law__336 sh_585 (ac_in (by decide)) rfl rfl ?_
    refine ax_iload (pc' := 339) dL_law__337 rfl rfl ?_
    refine ax_i2l (pc' := 340) dL_law__339 rfl ?_
    rw [show ac_uL τ 585 0 r.toInt64 585 (0 : Int32).toNatClampNeg = r.toInt64 from uL_eq, hb]
    refine ax_lcmp (pc' := 341) dL_law__340 rfl ?_
    refine ax_if_eq (pc' := 344) (tgt := 346) dL_law__341 (by decide) rfl (fun _ => ?_) (fun z => absurd (lg_cmp_self _) z)
    refine ax_goto (tgt := 2585) dL_law__346 (by decide) ?_
    refine ax_widen (ce' := ce + 8) (sl' := sl + 48) (by omega) (by omega) (ax_fgt (hN _ _ hI2))
  · show ac_X g i_L_law_ 100 601024 7293034 Q (ce + 1) (sl + 6) 304 [some (.ref 1000000), some (.ref 0), some (.ref 69), some (.ref 585), some (.int i), none, none, none] [.int c] (false, 586, SH, s1, τ)
    refine ax_istore (pc' := 306) dL_law__304 rfl rfl rfl ?_
    refine ax_aload_n (pc' := 307) dL_law__306 rfl rfl ?_
    refine ax_aload_n (pc' := 308) dL_law__307 rfl rfl ?_
    refine ax_iload (pc' := 310) dL_law__308 rfl rfl ?_
    refine ax_iconst (pc' := 311) (v := (1 : Int32)) dL_law__310 (by decide) rfl ?_
    refine ax_iadd (pc' := 312) dL_law__311 rfl ?_
    refine ax_sld (pc' := 313) dL_law__312 hr.1 rfl ?_
    refine ax_invVL (pc' := 316) (ce' := ce + 1) (sl' := sl + 6) (a := 69) (As := [.int (g.2.2.2.2.2.2 (i + 1).toNatClampNeg)]) (S := []) (mc2 := 0) (ms2 := 0) (I2 := i_X12_hills) rfl dL_law__313 ll_127 sh_69 (by decide) rfl rfl rfl rfl rfl rfl rfl (by omega) (by omega) rfl (ac_M.imp (o_X12_hills _ (g.2.2.2.2.2.2 (i + 1).toNatClampNeg) H) ?_)
    rintro _ _ ⟨b, s2, rfl, rfl, hT2, hI2⟩
    show ac_X g i_L_law_ 100 601024 7293034 Q (ce + 1) (sl + 6) 316 [some (.ref 1000000), some (.ref 0), some (.ref 69), some (.ref 585), some (.int i), some (.int c), none, none] [.int b] (false, 586, SH, s2, τ)
    refine ax_istore (pc' := 318) dL_law__316 rfl rfl rfl ?_
    refine ax_aload_n (pc' := 319) dL_law__318 rfl rfl ?_
    refine ax_invVL (pc' := 322) (ce' := ce + 1) (sl' := sl + 6) (a := 69) (As := []) (S := []) (mc2 := 0) (ms2 := 0) (I2 := i_X12_thrown) rfl dL_law__319 ll_128 sh_69 (by decide) rfl rfl rfl rfl rfl rfl rfl (by omega) (by omega) rfl (ac_M.imp (o_X12_thrown _ (Q := fun r s => r = s2 69 0 ∧ s = s2) ⟨rfl, rfl⟩) ?_)
    rintro _ _ ⟨z, s3, rfl, rfl, rfl, rfl⟩
    show ac_X g i_L_law_ 100 601024 7293034 Q (ce + 1) (sl + 6) 322 [some (.ref 1000000), some (.ref 0), some (.ref 69), some (.ref 585), some (.int i), some (.int c), some (.int b), none] [.int (s3 69 0)] (false, 586, SH, s3, τ)
    refine ax_iload (pc' := 324) dL_law__322 rfl rfl ?_
    refine ax_icmp_eq (pc' := 327) (tgt := 329) dL_law__324 (by decide) rfl (fun _ => ?_) (fun z => absurd (thA_c hT2 hT).1 z)
    refine ax_iload (pc' := 331) dL_law__329 rfl rfl ?_
    refine ax_if_ne (pc' := 334) (tgt := 346) dL_law__331 (by decide) rfl (fun _ => ?_) (fun z => absurd z (thA_c hT hT).2)
    refine ax_goto (tgt := 2585) dL_law__346 (by decide) ?_
    refine ax_widen (ce' := ce + 8) (sl' := sl + 48) (by omega) (by omega) (ax_fgt (hN _ _ hI2))
theorem lc_law {g : ac_G} {Q : ac_O → ac_W → Prop} {ce sl : Nat} {i : Int32} {s : ac_m} {τ : Nat → Nat → Int64} (hce : ce + 8 ≤ 601024) (hsl : sl + 48 ≤ 7293034) (hr : rd g i) (hI : Inv s) (hN : ∀ s' τ', Inv s' → lwX g Q (ce + 8) (sl + 48) 2585 i s' τ') : lwX g Q ce sl 349 i s τ := by
  refine ax_aload_n (pc' := 350) dL_law__349 rfl rfl ?_
  refine ax_aload_n (pc' := 351) dL_law__350 rfl rfl ?_
  refine ax_iload (pc' := 353) dL_law__351 rfl rfl ?_
  refine ax_iconst (pc' := 354) (v := (1 : Int32)) dL_law__353 (by decide) rfl ?_
  refine ax_iadd (pc' := 355) dL_law__354 rfl ?_
  refine ax_sld (pc' := 356) dL_law__355 hr.1 rfl ?_
  refine ax_aload_n (pc' := 357) dL_law__356 rfl rfl ?_
  refine ax_invSH (pc' := 360) (ce' := ce + 1) (sl' := sl + 6) (As := [.ref 0, .int (g.2.2.2.2.2.2 (i + 1).toNatClampNeg), .ref 585]) (S := []) (mc2 := 1) (ms2 := 6) (I2 := i_L_law) rfl dL_law__357 ll_132 rfl (by decide) rfl rfl rfl rfl (by omega) (by omega) rfl (ac_M.imp (o_L_law _ (g.2.2.2.2.2.2 (i + 1).toNatClampNeg) (s_law (g.2.2.2.2.2.2 (i + 1).toNatClampNeg) s hI)) ?_)
  rintro _ _ (⟨r, s1, rfl, rfl, H⟩ | ⟨E, c, s1, rfl, rfl, hT, H⟩)
  · show ac_X g i_L_law_ 100 601024 7293034 Q (ce + 1) (sl + 6) 360 [some (.ref 1000000), some (.ref 0), some (.ref 69), some (.ref 585), some (.int i), none, none, none] [.int 0] (false, 586, SH, s1, (ac_uL τ 585 0 r.toInt64))
    refine ax_istore (pc' := 362) dL_law__360 rfl rfl rfl ?_
    refine ax_aload_n (pc' := 363) dL_law__362 rfl rfl ?_
    refine ax_aload_n (pc' := 364) dL_law__363 rfl rfl ?_
    refine ax_iload (pc' := 366) dL_law__364 rfl rfl ?_
    refine ax_iconst (pc' := 367) (v := (1 : Int32)) dL_law__366 (by decide) rfl ?_
    refine ax_iadd (pc' := 368) dL_law__367 rfl ?_
    refine ax_sld (pc' := 369) dL_law__368 hr.1 rfl ?_
    refine ax_invVL (pc' := 372) (ce' := ce + 1) (sl' := sl + 6) (a := 69) (As := [.int (g.2.2.2.2.2.2 (i + 1).toNatClampNeg)]) (S := []) (mc2 := 0) (ms2 := 0) (I2 := i_X12_law) rfl dL_law__369 ll_134 sh_69 (by decide) rfl rfl rfl rfl rfl rfl rfl (by omega) (by omega) rfl (ac_M.imp (o_X12_law _ (g.2.2.2.2.2.2 (i + 1).toNatClampNeg) H) ?_)
    rintro _ _ ⟨b, s2, rfl, rfl, hb, h0, hI2⟩
    show ac_X g i_L_law_ 100 601024 7293034 Q (ce + 1) (sl + 6) 372 [some (.ref 1000000), some (.ref 0), some (.ref 69), some (.ref 585), some (.int i), some (.int 0), none, none] [.int b] (false, 586, SH, s2, (ac_uL τ 585 0 r.toInt64))
    refine ax_istore (pc' := 374) dL_law__372 rfl rfl rfl ?_
    refine ax_aload_n (pc' := 375) dL_law__374 rfl rfl ?_
    refine ax_invVL (pc' := 378) (ce' := ce + 1) (sl' := sl + 6) (a := 69) (As := []) (S := []) (mc2 := 0) (ms2 := 0) (I2 := i_X12_thrown) rfl dL_law__375 ll_128 sh_69 (by decide) rfl rfl rfl rfl rfl rfl rfl (by omega) (by omega) rfl (ac_M.imp (o_X12_thrown _ (Q := fun r s => r = s2 69 0 ∧ s = s2) ⟨rfl, rfl⟩) ?_)
    rintro _ _ ⟨z, s3, rfl, rfl, rfl, rfl⟩
    show ac_X g i_L_law_ 100 601024 7293034 Q (ce + 1) (sl + 6) 378 [some (.ref 1000000), some (.ref 0), some (.ref 69), some (.ref 585), some (.int i), some (.int 0), some (.int b), none] [.int (s3 69 0)] (false, 586, SH, s3, (ac_uL τ 585 0 r.toInt64))
    refine ax_iload (pc' := 380) dL_law__378 rfl rfl ?_
    refine ax_icmp_eq (pc' := 383) (tgt := 385) dL_law__380 (by decide) rfl (fun _ => ?_) (fun z => absurd h0 z)
    refine ax_iload (pc' := 387) dL_law__385 rfl rfl ?_
    refine ax_if_ne (pc' := 390) (tgt := 402) dL_law__387 (by decide) rfl (fun z => absurd rfl z) (fun _ => ?_)
    refine ax_aload_n (pc' := 391) dL_law__390 rfl rfl ?_
    refine ax_iconst (pc' := 392) (v := (0 : Int32)) dL_law__391 (by decide) rfl ?_
    refine ax_lald (pc' := 393) dL_law__392 sh_585 (ac_in (by decide)) rfl rfl ?_
    refine ax_iload (pc' := 395) dL_law__393 rfl rfl ?_
    refine ax_i2l (pc' := 396) dL_law__395 rfl ?_
    rw [show ac_uL τ 585 0 r.toInt64 585 (0 : Int32).toNatClampNeg = r.toInt64 from uL_eq, hb]
    refine ax_lcmp (pc' := 397) dL_law__396 rfl ?_
    refine ax_if_eq (pc' := 400) (tgt := 402) dL_law__397 (by decide) rfl (fun _ => ?_) (fun z => absurd (lg_cmp_self _) z)
    refine ax_goto (tgt := 2585) dL_law__402 (by decide) ?_
    refine ax_widen (ce' := ce + 8) (sl' := sl + 48) (by omega) (by omega) (ax_fgt (hN _ _ hI2))
  · show ac_X g i_L_law_ 100 601024 7293034 Q (ce + 1) (sl + 6) 360 [some (.ref 1000000), some (.ref 0), some (.ref 69), some (.ref 585), some (.int i), none, none, none] [.int c] (false, 586, SH, s1, τ)
    refine ax_istore (pc' := 362) dL_law__360 rfl rfl rfl ?_
    refine ax_aload_n (pc' := 363) dL_law__362 rfl rfl ?_
    refine ax_aload_n (pc' := 364) dL_law__363 rfl rfl ?_
    refine ax_iload (pc' := 366) dL_law__364 rfl rfl ?_
    refine ax_iconst (pc' := 367) (v := (1 : Int32)) dL_law__366 (by decide) rfl ?_
    refine ax_iadd (pc' := 368) dL_law__367 rfl ?_
    refine ax_sld (pc' := 369) dL_law__368 hr.1 rfl ?_
    refine ax_invVL (pc' := 372) (ce' := ce + 1) (sl' := sl + 6) (a := 69) (As := [.int (g.2.2.2.2.2.2 (i + 1).toNatClampNeg)]) (S := []) (mc2 := 0) (ms2 := 0) (I2 := i_X12_law) rfl dL_law__369 ll_134 sh_69 (by decide) rfl rfl rfl rfl rfl rfl rfl (by omega) (by omega) rfl (ac_M.imp (o_X12_law _ (g.2.2.2.2.2.2 (i + 1).toNatClampNeg) H) ?_)
    rintro _ _ ⟨b, s2, rfl, rfl, hT2, hI2⟩
    show ac_X g i_L_law_ 100 601024 7293034 Q (ce + 1) (sl + 6) 372 [some (.ref 1000000), some (.ref 0), some (.ref 69), some (.ref 585), some (.int i), some (.int c), none, none] [.int b] (false, 586, SH, s2, τ)
    refine ax_istore (pc' := 374) dL_law__372 rfl rfl rfl ?_
    refine ax_aload_n (pc' := 375) dL_law__374 rfl rfl ?_
    refine ax_invVL (pc' := 378) (ce' := ce + 1) (sl' := sl + 6) (a := 69) (As := []) (S := []) (mc2 := 0) (ms2 := 0) (I2 := i_X12_thrown) rfl dL_law__375 ll_128 sh_69 (by decide) rfl rfl rfl rfl rfl rfl rfl (by omega) (by omega) rfl (ac_M.imp (o_X12_thrown _ (Q := fun r s => r = s2 69 0 ∧ s = s2) ⟨rfl, rfl⟩) ?_)
    rintro _ _ ⟨z, s3, rfl, rfl, rfl, rfl⟩
    show ac_X g i_L_law_ 100 601024 7293034 Q (ce + 1) (sl + 6) 378 [some (.ref 1000000), some (.ref 0), some (.ref 69), some (.ref 585), some (.int i), some (.int c), some (.int b), none] [.int (s3 69 0)] (false, 586, SH, s3, τ)
    refine ax_iload (pc' := 380) dL_law__378 rfl rfl ?_
    refine ax_icmp_eq (pc' := 383) (tgt := 385) dL_law__380 (by decide) rfl (fun _ => ?_) (fun z => absurd (thA_c hT2 hT).1 z)
    refine ax_iload (pc' := 387) dL_law__385 rfl rfl ?_
    refine ax_if_ne (pc' := 390) (tgt := 402) dL_law__387 (by decide) rfl (fun _ => ?_) (fun z => absurd z (thA_c hT hT).2)
    refine ax_goto (tgt := 2585) dL_law__402 (by decide) ?_
    refine ax_widen (ce' := ce + 8) (sl' := sl + 48) (by omega) (by omega) (ax_fgt (hN _ _ hI2))
theorem lc_work {g : ac_G} {Q : ac_O → ac_W → Prop} {ce sl : Nat} {i : Int32} {s : ac_m} {τ : Nat → Nat → Int64} (hce : ce + 8 ≤ 601024) (hsl : sl + 48 ≤ 7293034) (hr : rd g i) (hI : Inv s) (hN : ∀ s' τ', Inv s' → lwX g Q (ce + 8) (sl + 48) 2585 i s' τ') : lwX g Q ce sl 405 i s τ := by
  refine ax_aload_n (pc' := 406) dL_law__405 rfl rfl ?_
  refine ax_aload_n (pc' := 407) dL_law__406 rfl rfl ?_
  refine ax_iload (pc' := 409) dL_law__407 rfl rfl ?_
  refine ax_iconst (pc' := 410) (v := (1 : Int32)) dL_law__409 (by decide) rfl ?_
  refine ax_iadd (pc' := 411) dL_law__410 rfl ?_
  refine ax_sld (pc' := 412) dL_law__411 hr.1 rfl ?_
  refine ax_aload_n (pc' := 413) dL_law__412 rfl rfl ?_
  refine ax_invSH (pc' := 416) (ce' := ce + 1) (sl' := sl + 6) (As := [.ref 0, .int (g.2.2.2.2.2.2 (i + 1).toNatClampNeg), .ref 585]) (S := []) (mc2 := 1) (ms2 := 6) (I2 := i_L_work) rfl dL_law__413 ll_135 rfl (by decide) rfl rfl rfl rfl (by omega) (by omega) rfl (ac_M.imp (o_L_work _ (g.2.2.2.2.2.2 (i + 1).toNatClampNeg) (s_work (g.2.2.2.2.2.2 (i + 1).toNatClampNeg) s hI)) ?_)
  rintro _ _ (⟨r, s1, rfl, rfl, H⟩ | ⟨E, c, s1, rfl, rfl, hT, H⟩)
  · show ac_X g i_L_law_ 100 601024 7293034 Q (ce + 1) (sl + 6) 416 [some (.ref 1000000), some (.ref 0), some (.ref 69), some (.ref 585), some (.int i), none, none, none] [.int 0] (false, 586, SH, s1, (ac_uL τ 585 0 r.toInt64))
    refine ax_istore (pc' := 418) dL_law__416 rfl rfl rfl ?_
    refine ax_aload_n (pc' := 419) dL_law__418 rfl rfl ?_
    refine ax_aload_n (pc' := 420) dL_law__419 rfl rfl ?_
    refine ax_iload (pc' := 422) dL_law__420 rfl rfl ?_
    refine ax_iconst (pc' := 423) (v := (1 : Int32)) dL_law__422 (by decide) rfl ?_
    refine ax_iadd (pc' := 424) dL_law__423 rfl ?_
    refine ax_sld (pc' := 425) dL_law__424 hr.1 rfl ?_
    refine ax_invVL (pc' := 428) (ce' := ce + 1) (sl' := sl + 6) (a := 69) (As := [.int (g.2.2.2.2.2.2 (i + 1).toNatClampNeg)]) (S := []) (mc2 := 0) (ms2 := 0) (I2 := i_X12_work) rfl dL_law__425 ll_137 sh_69 (by decide) rfl rfl rfl rfl rfl rfl rfl (by omega) (by omega) rfl (ac_M.imp (o_X12_work _ (g.2.2.2.2.2.2 (i + 1).toNatClampNeg) H) ?_)
    rintro _ _ ⟨b, s2, rfl, rfl, hb, h0, hI2⟩
    show ac_X g i_L_law_ 100 601024 7293034 Q (ce + 1) (sl + 6) 428 [some (.ref 1000000), some (.ref 0), some (.ref 69), some (.ref 585), some (.int i), some (.int 0), none, none] [.int b] (false, 586, SH, s2, (ac_uL τ 585 0 r.toInt64))
    refine ax_istore (pc' := 430) dL_law__428 rfl rfl rfl ?_
    refine ax_aload_n (pc' := 431) dL_law__430 rfl rfl ?_
    refine ax_invVL (pc' := 434) (ce' := ce + 1) (sl' := sl + 6) (a := 69) (As := []) (S := []) (mc2 := 0) (ms2 := 0) (I2 := i_X12_thrown) rfl dL_law__431 ll_128 sh_69 (by decide) rfl rfl rfl rfl rfl rfl rfl (by omega) (by omega) rfl (ac_M.imp (o_X12_thrown _ (Q := fun r s => r = s2 69 0 ∧ s = s2) ⟨rfl, rfl⟩) ?_)
    rintro _ _ ⟨z, s3, rfl, rfl, rfl, rfl⟩
    show ac_X g i_L_law_ 100 601024 7293034 Q (ce + 1) (sl + 6) 434 [some (.ref 1000000), some (.ref 0), some (.ref 69), some (.ref 585), some (.int i), some (.int 0), some (.int b), none] [.int (s3 69 0)] (false, 586, SH, s3, (ac_uL τ 585 0 r.toInt64))
    refine ax_iload (pc' := 436) dL_law__434 rfl rfl ?_
    refine ax_icmp_eq (pc' := 439) (tgt := 441) dL_law__436 (by decide) rfl (fun _ => ?_) (fun z => absurd h0 z)
    refine ax_iload (pc' := 443) dL_law__441 rfl rfl ?_
    refine ax_if_ne (pc' := 446) (tgt := 458) dL_law__443 (by decide) rfl (fun z => absurd rfl z) (fun _ => ?_)
    refine ax_aload_n (pc' := 447) dL_law__446 rfl rfl ?_
    refine ax_iconst (pc' := 448) (v := (0 : Int32)) dL_law__447 (by decide) rfl ?_
    refine ax_lald (pc' := 449) dL_law__448 sh_585 (ac_in (by decide)) rfl rfl ?_
    refine ax_iload (pc' := 451) dL_law__449 rfl rfl ?_
    refine ax_i2l (pc' := 452) dL_law__451 rfl ?_
    rw [show ac_uL τ 585 0 r.toInt64 585 (0 : Int32).toNatClampNeg = r.toInt64 from uL_eq, hb]
    refine ax_lcmp (pc' := 453) dL_law__452 rfl ?_
    refine ax_if_eq (pc' := 456) (tgt := 458) dL_law__453 (by decide) rfl (fun _ => ?_) (fun z => absurd (lg_cmp_self _) z)
    refine ax_goto (tgt := 2585) dL_law__458 (by decide) ?_
    refine ax_widen (ce' := ce + 8) (sl' := sl + 48) (by omega) (by omega) (ax_fgt (hN _ _ hI2))
  · show ac_X g i_L_law_ 100 601024 7293034 Q (ce + 1) (sl + 6) 416 [some (.ref 1000000), some (.ref 0), some (.ref 69), some (.ref 585), some (.int i), none, none, none] [.int c] (false, 586, SH, s1, τ)
    refine ax_istore (pc' := 418) dL_law__416 rfl rfl rfl ?_
    refine ax_aload_n (pc' := 419) dL_law__418 rfl rfl ?_
    refine ax_aload_n (pc' := 420) dL_law__419 rfl rfl ?_
    refine ax_iload (pc' := 422) dL_law__420 rfl rfl ?_
    refine ax_iconst (pc' := 423) (v := (1 : Int32)) dL_law__422 (by decide) rfl ?_
    refine ax_iadd (pc' := 424) dL_law__423 rfl ?_
    refine ax_sld (pc' := 425) dL_law__424 hr.1 rfl ?_
    refine ax_invVL (pc' := 428) (ce' := ce + 1) (sl' := sl + 6) (a := 69) (As := [.int (g.2.2.2.2.2.2 (i + 1).toNatClampNeg)]) (S := []) (mc2 := 0) (ms2 := 0) (I2 := i_X12_work) rfl dL_law__425 ll_137 sh_69 (by decide) rfl rfl rfl rfl rfl rfl rfl (by omega) (by omega) rfl (ac_M.imp (o_X12_work _ (g.2.2.2.2.2.2 (i + 1).toNatClampNeg) H) ?_)
    rintro _ _ ⟨b, s2, rfl, rfl, hT2, hI2⟩
    show ac_X g i_L_law_ 100 601024 7293034 Q (ce + 1) (sl + 6) 428 [some (.ref 1000000), some (.ref 0), some (.ref 69), some (.ref 585), some (.int i), some (.int c), none, none] [.int b] (false, 586, SH, s2, τ)
    refine ax_istore (pc' := 430) dL_law__428 rfl rfl rfl ?_
    refine ax_aload_n (pc' := 431) dL_law__430 rfl rfl ?_
    refine ax_invVL (pc' := 434) (ce' := ce + 1) (sl' := sl + 6) (a := 69) (As := []) (S := []) (mc2 := 0) (ms2 := 0) (I2 := i_X12_thrown) rfl dL_law__431 ll_128 sh_69 (by decide) rfl rfl rfl rfl rfl rfl rfl (by omega) (by omega) rfl (ac_M.imp (o_X12_thrown _ (Q := fun r s => r = s2 69 0 ∧ s = s2) ⟨rfl, rfl⟩) ?_)
    rintro _ _ ⟨z, s3, rfl, rfl, rfl, rfl⟩
    show ac_X g i_L_law_ 100 601024 7293034 Q (ce + 1) (sl + 6) 434 [some (.ref 1000000), some (.ref 0), some (.ref 69), some (.ref 585), some (.int i), some (.int c), some (.int b), none] [.int (s3 69 0)] (false, 586, SH, s3, τ)
    refine ax_iload (pc' := 436) dL_law__434 rfl rfl ?_
    refine ax_icmp_eq (pc' := 439) (tgt := 441) dL_law__436 (by decide) rfl (fun _ => ?_) (fun z => absurd (thA_c hT2 hT).1 z)
    refine ax_iload (pc' := 443) dL_law__441 rfl rfl ?_
    refine ax_if_ne (pc' := 446) (tgt := 458) dL_law__443 (by decide) rfl (fun _ => ?_) (fun z => absurd z (thA_c hT hT).2)
    refine ax_goto (tgt := 2585) dL_law__458 (by decide) ?_
    refine ax_widen (ce' := ce + 8) (sl' := sl + 48) (by omega) (by omega) (ax_fgt (hN _ _ hI2))
theorem lc_book {g : ac_G} {Q : ac_O → ac_W → Prop} {ce sl : Nat} {i : Int32} {s : ac_m} {τ : Nat → Nat → Int64} (hce : ce + 8 ≤ 601024) (hsl : sl + 48 ≤ 7293034) (hr : rd g i) (hI : Inv s) (hN : ∀ s' τ', Inv s' → lwX g Q (ce + 8) (sl + 48) 2585 i s' τ') : lwX g Q ce sl 461 i s τ := by
  refine ax_aload_n (pc' := 462) dL_law__461 rfl rfl ?_
  refine ax_aload_n (pc' := 463) dL_law__462 rfl rfl ?_
  refine ax_iload (pc' := 465) dL_law__463 rfl rfl ?_
  refine ax_iconst (pc' := 466) (v := (1 : Int32)) dL_law__465 (by decide) rfl ?_
  refine ax_iadd (pc' := 467) dL_law__466 rfl ?_
  refine ax_sld (pc' := 468) dL_law__467 hr.1 rfl ?_
  refine ax_aload_n (pc' := 469) dL_law__468 rfl rfl ?_
  refine ax_invSH (pc' := 472) (ce' := ce + 1) (sl' := sl + 6) (As := [.ref 0, .int (g.2.2.2.2.2.2 (i + 1).toNatClampNeg), .ref 585]) (S := []) (mc2 := 1) (ms2 := 6) (I2 := i_L_book) rfl dL_law__469 ll_138 rfl (by decide) rfl rfl rfl rfl (by omega) (by omega) rfl (ac_M.imp (o_L_book _ (g.2.2.2.2.2.2 (i + 1).toNatClampNeg) (s_book (g.2.2.2.2.2.2 (i + 1).toNatClampNeg) s hI)) ?_)
  rintro _ _ (⟨r, s1, rfl, rfl, H⟩ | ⟨E, c, s1, rfl, rfl, hT, H⟩)
  · show ac_X g i_L_law_ 100 601024 7293034 Q (ce + 1) (sl + 6) 472 [some (.ref 1000000), some (.ref 0), some (.ref 69), some (.ref 585), some (.int i), none, none, none] [.int 0] (false, 586, SH, s1, (ac_uL τ 585 0 r.toInt64))
    refine ax_istore (pc' := 474) dL_law__472 rfl rfl rfl ?_
    refine ax_aload_n (pc' := 475) dL_law__474 rfl rfl ?_
    refine ax_aload_n (pc' := 476) dL_law__475 rfl rfl ?_
    refine ax_iload (pc' := 478) dL_law__476 rfl rfl ?_
    refine ax_iconst (pc' := 479) (v := (1 : Int32)) dL_law__478 (by decide) rfl ?_
    refine ax_iadd (pc' := 480) dL_law__479 rfl ?_
    refine ax_sld (pc' := 481) dL_law__480 hr.1 rfl ?_
    refine ax_invVL (pc' := 484) (ce' := ce + 1) (sl' := sl + 6) (a := 69) (As := [.int (g.2.2.2.2.2.2 (i + 1).toNatClampNeg)]) (S := []) (mc2 := 0) (ms2 := 0) (I2 := i_X12_book) rfl dL_law__481 ll_140 sh_69 (by decide) rfl rfl rfl rfl rfl rfl rfl (by omega) (by omega) rfl (ac_M.imp (o_X12_book _ (g.2.2.2.2.2.2 (i + 1).toNatClampNeg) H) ?_)
    rintro _ _ ⟨b, s2, rfl, rfl, hb, h0, hI2⟩
    show ac_X g i_L_law_ 100 601024 7293034 Q (ce + 1) (sl + 6) 484 [some (.ref 1000000), some (.ref 0), some (.ref 69), some (.ref 585), some (.int i), some (.int 0), none, none] [.int b] (false, 586, SH, s2, (ac_uL τ 585 0 r.toInt64))
    refine ax_istore (pc' := 486) dL_law__484 rfl rfl rfl ?_
    refine ax_aload_n (pc' := 487) dL_law__486 rfl rfl ?_
    refine ax_invVL (pc' := 490) (ce' := ce + 1) (sl' := sl + 6) (a := 69) (As := []) (S := []) (mc2 := 0) (ms2 := 0) (I2 := i_X12_thrown) rfl dL_law__487 ll_128 sh_69 (by decide) rfl rfl rfl rfl rfl rfl rfl (by omega) (by omega) rfl (ac_M.imp (o_X12_thrown _ (Q := fun r s => r = s2 69 0 ∧ s = s2) ⟨rfl, rfl⟩) ?_)
    rintro _ _ ⟨z, s3, rfl, rfl, rfl, rfl⟩
    show ac_X g i_L_law_ 100 601024 7293034 Q (ce + 1) (sl + 6) 490 [some (.ref 1000000), some (.ref 0), some (.ref 69), some (.ref 585), some (.int i), some (.int 0), some (.int b), none] [.int (s3 69 0)] (false, 586, SH, s3, (ac_uL τ 585 0 r.toInt64))
    refine ax_iload (pc' := 492) dL_law__490 rfl rfl ?_
    refine ax_icmp_eq (pc' := 495) (tgt := 497) dL_law__492 (by decide) rfl (fun _ => ?_) (fun z => absurd h0 z)
    refine ax_iload (pc' := 499) dL_law__497 rfl rfl ?_
    refine ax_if_ne (pc' := 502) (tgt := 514) dL_law__499 (by decide) rfl (fun z => absurd rfl z) (fun _ => ?_)
    refine ax_aload_n (pc' := 503) dL_law__502 rfl rfl ?_
    refine ax_iconst (pc' := 504) (v := (0 : Int32)) dL_law__503 (by decide) rfl ?_
    refine ax_lald (pc' := 505) dL_law__504 sh_585 (ac_in (by decide)) rfl rfl ?_
    refine ax_iload (pc' := 507) dL_law__505 rfl rfl ?_
    refine ax_i2l (pc' := 508) dL_law__507 rfl ?_
    rw [show ac_uL τ 585 0 r.toInt64 585 (0 : Int32).toNatClampNeg = r.toInt64 from uL_eq, hb]
    refine ax_lcmp (pc' := 509) dL_law__508 rfl ?_
    refine ax_if_eq (pc' := 512) (tgt := 514) dL_law__509 (by decide) rfl (fun _ => ?_) (fun z => absurd (lg_cmp_self _) z)
    refine ax_goto (tgt := 2585) dL_law__514 (by decide) ?_
    refine ax_widen (ce' := ce + 8) (sl' := sl + 48) (by omega) (by omega) (ax_fgt (hN _ _ hI2))
  · show ac_X g i_L_law_ 100 601024 7293034 Q (ce + 1) (sl + 6) 472 [some (.ref 1000000), some (.ref 0), some (.ref 69), some (.ref 585), some (.int i), none, none, none] [.int c] (false, 586, SH, s1, τ)
    refine ax_istore (pc' := 474) dL_law__472 rfl rfl rfl ?_
    refine ax_aload_n (pc' := 475) dL_law__474 rfl rfl ?_
    refine ax_aload_n (pc' := 476) dL_law__475 rfl rfl ?_
    refine ax_iload (pc' := 478) dL_law__476 rfl rfl ?_
    refine ax_iconst (pc' := 479) (v := (1 : Int32)) dL_law__478 (by decide) rfl ?_
    refine ax_iadd (pc' := 480) dL_law__479 rfl ?_
    refine ax_sld (pc' := 481) dL_law__480 hr.1 rfl ?_
    refine ax_invVL (pc' := 484) (ce' := ce + 1) (sl' := sl + 6) (a := 69) (As := [.int (g.2.2.2.2.2.2 (i + 1).toNatClampNeg)]) (S := []) (mc2 := 0) (ms2 := 0) (I2 := i_X12_book) rfl dL_law__481 ll_140 sh_69 (by decide) rfl rfl rfl rfl rfl rfl rfl (by omega) (by omega) rfl (ac_M.imp (o_X12_book _ (g.2.2.2.2.2.2 (i + 1).toNatClampNeg) H) ?_)
    rintro _ _ ⟨b, s2, rfl, rfl, hT2, hI2⟩
    show ac_X g i_L_law_ 100 601024 7293034 Q (ce + 1) (sl + 6) 484 [some (.ref 1000000), some (.ref 0), some (.ref 69), some (.ref 585), some (.int i), some (.int c), none, none] [.int b] (false, 586, SH, s2, τ)
    refine ax_istore (pc' := 486) dL_law__484 rfl rfl rfl ?_
    refine ax_aload_n (pc' := 487) dL_law__486 rfl rfl ?_
    refine ax_invVL (pc' := 490) (ce' := ce + 1) (sl' := sl + 6) (a := 69) (As := []) (S := []) (mc2 := 0) (ms2 := 0) (I2 := i_X12_thrown) rfl dL_law__487 ll_128 sh_69 (by decide) rfl rfl rfl rfl rfl rfl rfl (by omega) (by omega) rfl (ac_M.imp (o_X12_thrown _ (Q := fun r s => r = s2 69 0 ∧ s = s2) ⟨rfl, rfl⟩) ?_)
    rintro _ _ ⟨z, s3, rfl, rfl, rfl, rfl⟩
    show ac_X g i_L_law_ 100 601024 7293034 Q (ce + 1) (sl + 6) 490 [some (.ref 1000000), some (.ref 0), some (.ref 69), some (.ref 585), some (.int i), some (.int c), some (.int b), none] [.int (s3 69 0)] (false, 586, SH, s3, τ)
    refine ax_iload (pc' := 492) dL_law__490 rfl rfl ?_
    refine ax_icmp_eq (pc' := 495) (tgt := 497) dL_law__492 (by decide) rfl (fun _ => ?_) (fun z => absurd (thA_c hT2 hT).1 z)
    refine ax_iload (pc' := 499) dL_law__497 rfl rfl ?_
    refine ax_if_ne (pc' := 502) (tgt := 514) dL_law__499 (by decide) rfl (fun _ => ?_) (fun z => absurd z (thA_c hT hT).2)
    refine ax_goto (tgt := 2585) dL_law__514 (by decide) ?_
    refine ax_widen (ce' := ce + 8) (sl' := sl + 48) (by omega) (by omega) (ax_fgt (hN _ _ hI2))
theorem lc_fault {g : ac_G} {Q : ac_O → ac_W → Prop} {ce sl : Nat} {i : Int32} {s : ac_m} {τ : Nat → Nat → Int64} (hce : ce + 8 ≤ 601024) (hsl : sl + 48 ≤ 7293034) (hr : rd g i) (hI : Inv s) (hN : ∀ s' τ', Inv s' → lwX g Q (ce + 8) (sl + 48) 2585 i s' τ') : lwX g Q ce sl 517 i s τ := by
  refine ax_aload_n (pc' := 518) dL_law__517 rfl rfl ?_
  refine ax_invVL (pc' := 521) (ce' := ce + 0) (sl' := sl + 0) (a := 0) (As := []) (S := []) (mc2 := 0) (ms2 := 0) (I2 := i_X11_fault) rfl dL_law__518 ll_141 sh_0 (by decide) rfl rfl rfl rfl rfl rfl rfl (by omega) (by omega) rfl (ac_M.imp (o_X11_fault _  (s_fault  s hI)) ?_)
  rintro _ _ ⟨r, s1, rfl, rfl, H⟩
  show ac_X g i_L_law_ 100 601024 7293034 Q (ce + 0) (sl + 0) 521 [some (.ref 1000000), some (.ref 0), some (.ref 69), some (.ref 585), some (.int i), none, none, none] [.int r] (false, 586, SH, s1, τ)
  refine ax_aload_n (pc' := 522) dL_law__521 rfl rfl ?_
  refine ax_invVL (pc' := 525) (ce' := ce + 0) (sl' := sl + 0) (a := 69) (As := []) (S := [.int r]) (mc2 := 0) (ms2 := 0) (I2 := i_X12_fault) rfl dL_law__522 ll_144 sh_69 (by decide) rfl rfl rfl rfl rfl rfl rfl (by omega) (by omega) rfl (ac_M.imp (o_X12_fault _  H) ?_)
  rintro _ _ ⟨b, s2, rfl, rfl, hb, h0, hI2⟩
  show ac_X g i_L_law_ 100 601024 7293034 Q (ce + 0) (sl + 0) 525 [some (.ref 1000000), some (.ref 0), some (.ref 69), some (.ref 585), some (.int i), none, none, none] [.int b, .int r] (false, 586, SH, s2, τ)
  refine ax_icmp_eq (pc' := 528) (tgt := 2585) dL_law__525 (by decide) rfl (fun _ => ?_) (fun z => absurd hb z)
  exact ax_widen (ce' := ce + 8) (sl' := sl + 48) (by omega) (by omega) (hN _ _ hI2)
theorem lc_undo {g : ac_G} {Q : ac_O → ac_W → Prop} {ce sl : Nat} {i : Int32} {s : ac_m} {τ : Nat → Nat → Int64} (hce : ce + 8 ≤ 601024) (hsl : sl + 48 ≤ 7293034) (hr : rd g i) (hI : Inv s) (hN : ∀ s' τ', Inv s' → lwX g Q (ce + 8) (sl + 48) 2585 i s' τ') : lwX g Q ce sl 530 i s τ := by
  refine ax_aload_n (pc' := 531) dL_law__530 rfl rfl ?_
  refine ax_invVL (pc' := 534) (ce' := ce + 0) (sl' := sl + 0) (a := 0) (As := []) (S := []) (mc2 := 0) (ms2 := 0) (I2 := i_X11_undo) rfl dL_law__531 ll_145 sh_0 (by decide) rfl rfl rfl rfl rfl rfl rfl (by omega) (by omega) rfl (ac_M.imp (o_X11_undo _  (s_undo  s hI)) ?_)
  rintro _ _ ⟨r, s1, rfl, rfl, H⟩
  show ac_X g i_L_law_ 100 601024 7293034 Q (ce + 0) (sl + 0) 534 [some (.ref 1000000), some (.ref 0), some (.ref 69), some (.ref 585), some (.int i), none, none, none] [.int r] (false, 586, SH, s1, τ)
  refine ax_aload_n (pc' := 535) dL_law__534 rfl rfl ?_
  refine ax_invVL (pc' := 538) (ce' := ce + 0) (sl' := sl + 0) (a := 69) (As := []) (S := [.int r]) (mc2 := 0) (ms2 := 0) (I2 := i_X12_undo) rfl dL_law__535 ll_148 sh_69 (by decide) rfl rfl rfl rfl rfl rfl rfl (by omega) (by omega) rfl (ac_M.imp (o_X12_undo _  H) ?_)
  rintro _ _ ⟨b, s2, rfl, rfl, hb, h0, hI2⟩
  show ac_X g i_L_law_ 100 601024 7293034 Q (ce + 0) (sl + 0) 538 [some (.ref 1000000), some (.ref 0), some (.ref 69), some (.ref 585), some (.int i), none, none, none] [.int b, .int r] (false, 586, SH, s2, τ)
  refine ax_icmp_eq (pc' := 541) (tgt := 2585) dL_law__538 (by decide) rfl (fun _ => ?_) (fun z => absurd hb z)
  exact ax_widen (ce' := ce + 8) (sl' := sl + 48) (by omega) (by omega) (hN _ _ hI2)
theorem lc_told {g : ac_G} {Q : ac_O → ac_W → Prop} {ce sl : Nat} {i : Int32} {s : ac_m} {τ : Nat → Nat → Int64} (hce : ce + 8 ≤ 601024) (hsl : sl + 48 ≤ 7293034) (hr : rd g i) (hI : Inv s) (hN : ∀ s' τ', Inv s' → lwX g Q (ce + 8) (sl + 48) 2585 i s' τ') : lwX g Q ce sl 543 i s τ := by
  refine ax_aload_n (pc' := 544) dL_law__543 rfl rfl ?_
  refine ax_aload_n (pc' := 545) dL_law__544 rfl rfl ?_
  refine ax_iload (pc' := 547) dL_law__545 rfl rfl ?_
  refine ax_iconst (pc' := 548) (v := (1 : Int32)) dL_law__547 (by decide) rfl ?_
  refine ax_iadd (pc' := 549) dL_law__548 rfl ?_
  refine ax_sld (pc' := 550) dL_law__549 hr.1 rfl ?_
  refine ax_aload_n (pc' := 551) dL_law__550 rfl rfl ?_
  refine ax_invSH (pc' := 554) (ce' := ce + 1) (sl' := sl + 6) (As := [.ref 0, .int (g.2.2.2.2.2.2 (i + 1).toNatClampNeg), .ref 585]) (S := []) (mc2 := 1) (ms2 := 6) (I2 := i_L_told) rfl dL_law__551 ll_149 rfl (by decide) rfl rfl rfl rfl (by omega) (by omega) rfl (ac_M.imp (o_L_told _ (g.2.2.2.2.2.2 (i + 1).toNatClampNeg) (s_told (g.2.2.2.2.2.2 (i + 1).toNatClampNeg) s hI)) ?_)
  rintro _ _ (⟨r, s1, rfl, rfl, H⟩ | ⟨E, c, s1, rfl, rfl, hT, H⟩)
  · show ac_X g i_L_law_ 100 601024 7293034 Q (ce + 1) (sl + 6) 554 [some (.ref 1000000), some (.ref 0), some (.ref 69), some (.ref 585), some (.int i), none, none, none] [.int 0] (false, 586, SH, s1, (ac_uL τ 585 0 r.toInt64))
    refine ax_istore (pc' := 556) dL_law__554 rfl rfl rfl ?_
    refine ax_aload_n (pc' := 557) dL_law__556 rfl rfl ?_
    refine ax_aload_n (pc' := 558) dL_law__557 rfl rfl ?_
    refine ax_iload (pc' := 560) dL_law__558 rfl rfl ?_
    refine ax_iconst (pc' := 561) (v := (1 : Int32)) dL_law__560 (by decide) rfl ?_
    refine ax_iadd (pc' := 562) dL_law__561 rfl ?_
    refine ax_sld (pc' := 563) dL_law__562 hr.1 rfl ?_
    refine ax_invVL (pc' := 566) (ce' := ce + 1) (sl' := sl + 6) (a := 69) (As := [.int (g.2.2.2.2.2.2 (i + 1).toNatClampNeg)]) (S := []) (mc2 := 0) (ms2 := 0) (I2 := i_X12_told) rfl dL_law__563 ll_151 sh_69 (by decide) rfl rfl rfl rfl rfl rfl rfl (by omega) (by omega) rfl (ac_M.imp (o_X12_told _ (g.2.2.2.2.2.2 (i + 1).toNatClampNeg) H) ?_)
    rintro _ _ ⟨b, s2, rfl, rfl, hb, h0, hI2⟩
    show ac_X g i_L_law_ 100 601024 7293034 Q (ce + 1) (sl + 6) 566 [some (.ref 1000000), some (.ref 0), some (.ref 69), some (.ref 585), some (.int i), some (.int 0), none, none] [.int b] (false, 586, SH, s2, (ac_uL τ 585 0 r.toInt64))
    refine ax_istore (pc' := 568) dL_law__566 rfl rfl rfl ?_
    refine ax_aload_n (pc' := 569) dL_law__568 rfl rfl ?_
    refine ax_invVL (pc' := 572) (ce' := ce + 1) (sl' := sl + 6) (a := 69) (As := []) (S := []) (mc2 := 0) (ms2 := 0) (I2 := i_X12_thrown) rfl dL_law__569 ll_128 sh_69 (by decide) rfl rfl rfl rfl rfl rfl rfl (by omega) (by omega) rfl (ac_M.imp (o_X12_thrown _ (Q := fun r s => r = s2 69 0 ∧ s = s2) ⟨rfl, rfl⟩) ?_)
    rintro _ _ ⟨z, s3, rfl, rfl, rfl, rfl⟩
    show ac_X g i_L_law_ 100 601024 7293034 Q (ce + 1) (sl + 6) 572 [some (.ref 1000000), some (.ref 0), some (.ref 69), some (.ref 585), some (.int i), some (.int 0), some (.int b), none] [.int (s3 69 0)] (false, 586, SH, s3, (ac_uL τ 585 0 r.toInt64))
    refine ax_iload (pc' := 574) dL_law__572 rfl rfl ?_
    refine ax_icmp_eq (pc' := 577) (tgt := 579) dL_law__574 (by decide) rfl (fun _ => ?_) (fun z => absurd h0 z)
    refine ax_iload (pc' := 581) dL_law__579 rfl rfl ?_
    refine ax_if_ne (pc' := 584) (tgt := 596) dL_law__581 (by decide) rfl (fun z => absurd rfl z) (fun _ => ?_)
    refine ax_aload_n (pc' := 585) dL_law__584 rfl rfl ?_
    refine ax_iconst (pc' := 586) (v := (0 : Int32)) dL_law__585 (by decide) rfl ?_
    refine ax_lald (pc' := 587) dL_law__586 sh_585 (ac_in (by decide)) rfl rfl ?_
    refine ax_iload (pc' := 589) dL_law__587 rfl rfl ?_
    refine ax_i2l (pc' := 590) dL_law__589 rfl ?_
    rw [show ac_uL τ 585 0 r.toInt64 585 (0 : Int32).toNatClampNeg = r.toInt64 from uL_eq, hb]
    refine ax_lcmp (pc' := 591) dL_law__590 rfl ?_
    refine ax_if_eq (pc' := 594) (tgt := 596) dL_law__591 (by decide) rfl (fun _ => ?_) (fun z => absurd (lg_cmp_self _) z)
    refine ax_goto (tgt := 2585) dL_law__596 (by decide) ?_
    refine ax_widen (ce' := ce + 8) (sl' := sl + 48) (by omega) (by omega) (ax_fgt (hN _ _ hI2))
  · show ac_X g i_L_law_ 100 601024 7293034 Q (ce + 1) (sl + 6) 554 [some (.ref 1000000), some (.ref 0), some (.ref 69), some (.ref 585), some (.int i), none, none, none] [.int c] (false, 586, SH, s1, τ)
    refine ax_istore (pc' := 556) dL_law__554 rfl rfl rfl ?_
    refine ax_aload_n (pc' := 557) dL_law__556 rfl rfl ?_
    refine ax_aload_n (pc' := 558) dL_law__557 rfl rfl ?_
    refine ax_iload (pc' := 560) dL_law__558 rfl rfl ?_
    refine ax_iconst (pc' := 561) (v := (1 : Int32)) dL_law__560 (by decide) rfl ?_
    refine ax_iadd (pc' := 562) dL_law__561 rfl ?_
    refine ax_sld (pc' := 563) dL_law__562 hr.1 rfl ?_
    refine ax_invVL (pc' := 566) (ce' := ce + 1) (sl' := sl + 6) (a := 69) (As := [.int (g.2.2.2.2.2.2 (i + 1).toNatClampNeg)]) (S := []) (mc2 := 0) (ms2 := 0) (I2 := i_X12_told) rfl dL_law__563 ll_151 sh_69 (by decide) rfl rfl rfl rfl rfl rfl rfl (by omega) (by omega) rfl (ac_M.imp (o_X12_told _ (g.2.2.2.2.2.2 (i + 1).toNatClampNeg) H) ?_)
    rintro _ _ ⟨b, s2, rfl, rfl, hT2, hI2⟩
    show ac_X g i_L_law_ 100 601024 7293034 Q (ce + 1) (sl + 6) 566 [some (.ref 1000000), some (.ref 0), some (.ref 69), some (.ref 585), some (.int i), some (.int c), none, none] [.int b] (false, 586, SH, s2, τ)
    refine ax_istore (pc' := 568) dL_law__566 rfl rfl rfl ?_
    refine ax_aload_n (pc' := 569) dL_law__568 rfl rfl ?_
    refine ax_invVL (pc' := 572) (ce' := ce + 1) (sl' := sl + 6) (a := 69) (As := []) (S := []) (mc2 := 0) (ms2 := 0) (I2 := i_X12_thrown) rfl dL_law__569 ll_128 sh_69 (by decide) rfl rfl rfl rfl rfl rfl rfl (by omega) (by omega) rfl (ac_M.imp (o_X12_thrown _ (Q := fun r s => r = s2 69 0 ∧ s = s2) ⟨rfl, rfl⟩) ?_)
    rintro _ _ ⟨z, s3, rfl, rfl, rfl, rfl⟩
    show ac_X g i_L_law_ 100 601024 7293034 Q (ce + 1) (sl + 6) 572 [some (.ref 1000000), some (.ref 0), some (.ref 69), some (.ref 585), some (.int i), some (.int c), some (.int b), none] [.int (s3 69 0)] (false, 586, SH, s3, τ)
    refine ax_iload (pc' := 574) dL_law__572 rfl rfl ?_
    refine ax_icmp_eq (pc' := 577) (tgt := 579) dL_law__574 (by decide) rfl (fun _ => ?_) (fun z => absurd (thA_c hT2 hT).1 z)
    refine ax_iload (pc' := 581) dL_law__579 rfl rfl ?_
    refine ax_if_ne (pc' := 584) (tgt := 596) dL_law__581 (by decide) rfl (fun _ => ?_) (fun z => absurd z (thA_c hT hT).2)
    refine ax_goto (tgt := 2585) dL_law__596 (by decide) ?_
    refine ax_widen (ce' := ce + 8) (sl' := sl + 48) (by omega) (by omega) (ax_fgt (hN _ _ hI2))
theorem lc_folk {g : ac_G} {Q : ac_O → ac_W → Prop} {ce sl : Nat} {i : Int32} {s : ac_m} {τ : Nat → Nat → Int64} (hce : ce + 8 ≤ 601024) (hsl : sl + 48 ≤ 7293034) (hr : rd g i) (hI : Inv s) (hN : ∀ s' τ', Inv s' → lwX g Q (ce + 8) (sl + 48) 2585 i s' τ') : lwX g Q ce sl 599 i s τ := by
  refine ax_aload_n (pc' := 600) dL_law__599 rfl rfl ?_
  refine ax_aload_n (pc' := 601) dL_law__600 rfl rfl ?_
  refine ax_iload (pc' := 603) dL_law__601 rfl rfl ?_
  refine ax_iconst (pc' := 604) (v := (1 : Int32)) dL_law__603 (by decide) rfl ?_
  refine ax_iadd (pc' := 605) dL_law__604 rfl ?_
  refine ax_sld (pc' := 606) dL_law__605 hr.1 rfl ?_
  refine ax_aload_n (pc' := 607) dL_law__606 rfl rfl ?_
  refine ax_iload (pc' := 609) dL_law__607 rfl rfl ?_
  refine ax_iconst (pc' := 610) (v := (2 : Int32)) dL_law__609 (by decide) rfl ?_
  refine ax_iadd (pc' := 611) dL_law__610 rfl ?_
  refine ax_sld (pc' := 612) dL_law__611 hr.2.1 rfl ?_
  refine ax_aload_n (pc' := 613) dL_law__612 rfl rfl ?_
  refine ax_invSH (pc' := 616) (ce' := ce + 2) (sl' := sl + 12) (As := [.ref 0, .int (g.2.2.2.2.2.2 (i + 1).toNatClampNeg), .int (g.2.2.2.2.2.2 (i + 2).toNatClampNeg), .ref 585]) (S := []) (mc2 := 2) (ms2 := 12) (I2 := i_L_folk) rfl dL_law__613 ll_152 rfl (by decide) rfl rfl rfl rfl (by omega) (by omega) rfl (ac_M.imp (o_L_folk _ (g.2.2.2.2.2.2 (i + 1).toNatClampNeg) (g.2.2.2.2.2.2 (i + 2).toNatClampNeg) (s_folk (g.2.2.2.2.2.2 (i + 1).toNatClampNeg) (g.2.2.2.2.2.2 (i + 2).toNatClampNeg) s hI)) ?_)
  rintro _ _ (⟨r, s1, rfl, rfl, H⟩ | ⟨E, c, s1, rfl, rfl, hT, H⟩)
  · show ac_X g i_L_law_ 100 601024 7293034 Q (ce + 2) (sl + 12) 616 [some (.ref 1000000), some (.ref 0), some (.ref 69), some (.ref 585), some (.int i), none, none, none] [.int 0] (false, 586, SH, s1, (ac_uL τ 585 0 r.toInt64))
    refine ax_istore (pc' := 618) dL_law__616 rfl rfl rfl ?_
    refine ax_aload_n (pc' := 619) dL_law__618 rfl rfl ?_
    refine ax_aload_n (pc' := 620) dL_law__619 rfl rfl ?_
    refine ax_iload (pc' := 622) dL_law__620 rfl rfl ?_
    refine ax_iconst (pc' := 623) (v := (1 : Int32)) dL_law__622 (by decide) rfl ?_
    refine ax_iadd (pc' := 624) dL_law__623 rfl ?_
    refine ax_sld (pc' := 625) dL_law__624 hr.1 rfl ?_
    refine ax_aload_n (pc' := 626) dL_law__625 rfl rfl ?_
    refine ax_iload (pc' := 628) dL_law__626 rfl rfl ?_
    refine ax_iconst (pc' := 629) (v := (2 : Int32)) dL_law__628 (by decide) rfl ?_
    refine ax_iadd (pc' := 630) dL_law__629 rfl ?_
    refine ax_sld (pc' := 631) dL_law__630 hr.2.1 rfl ?_
    refine ax_invVL (pc' := 634) (ce' := ce + 2) (sl' := sl + 12) (a := 69) (As := [.int (g.2.2.2.2.2.2 (i + 1).toNatClampNeg), .int (g.2.2.2.2.2.2 (i + 2).toNatClampNeg)]) (S := []) (mc2 := 0) (ms2 := 0) (I2 := i_X12_folk) rfl dL_law__631 ll_155 sh_69 (by decide) rfl rfl rfl rfl rfl rfl rfl (by omega) (by omega) rfl (ac_M.imp (o_X12_folk _ (g.2.2.2.2.2.2 (i + 1).toNatClampNeg) (g.2.2.2.2.2.2 (i + 2).toNatClampNeg) H) ?_)
    rintro _ _ ⟨b, s2, rfl, rfl, hb, h0, hI2⟩
    show ac_X g i_L_law_ 100 601024 7293034 Q (ce + 2) (sl + 12) 634 [some (.ref 1000000), some (.ref 0), some (.ref 69), some (.ref 585), some (.int i), some (.int 0), none, none] [.int b] (false, 586, SH, s2, (ac_uL τ 585 0 r.toInt64))
    refine ax_istore (pc' := 636) dL_law__634 rfl rfl rfl ?_
    refine ax_aload_n (pc' := 637) dL_law__636 rfl rfl ?_
    refine ax_invVL (pc' := 640) (ce' := ce + 2) (sl' := sl + 12) (a := 69) (As := []) (S := []) (mc2 := 0) (ms2 := 0) (I2 := i_X12_thrown) rfl dL_law__637 ll_128 sh_69 (by decide) rfl rfl rfl rfl rfl rfl rfl (by omega) (by omega) rfl (ac_M.imp (o_X12_thrown _ (Q := fun r s => r = s2 69 0 ∧ s = s2) ⟨rfl, rfl⟩) ?_)
    rintro _ _ ⟨z, s3, rfl, rfl, rfl, rfl⟩
    show ac_X g i_L_law_ 100 601024 7293034 Q (ce + 2) (sl + 12) 640 [some (.ref 1000000), some (.ref 0), some (.ref 69), some (.ref 585), some (.int i), some (.int 0), some (.int b), none] [.int (s3 69 0)] (false, 586, SH, s3, (ac_uL τ 585 0 r.toInt64))
    refine ax_iload (pc' := 642) dL_law__640 rfl rfl ?_
    refine ax_icmp_eq (pc' := 645) (tgt := 647) dL_law__642 (by decide) rfl (fun _ => ?_) (fun z => absurd h0 z)
    refine ax_iload (pc' := 649) dL_law__647 rfl rfl ?_
    refine ax_if_ne (pc' := 652) (tgt := 664) dL_law__649 (by decide) rfl (fun z => absurd rfl z) (fun _ => ?_)
    refine ax_aload_n (pc' := 653) dL_law__652 rfl rfl ?_
    refine ax_iconst (pc' := 654) (v := (0 : Int32)) dL_law__653 (by decide) rfl ?_
    refine ax_lald (pc' := 655) dL_law__654 sh_585 (ac_in (by decide)) rfl rfl ?_
    refine ax_iload (pc' := 657) dL_law__655 rfl rfl ?_
    refine ax_i2l (pc' := 658) dL_law__657 rfl ?_
    rw [show ac_uL τ 585 0 r.toInt64 585 (0 : Int32).toNatClampNeg = r.toInt64 from uL_eq, hb]
    refine ax_lcmp (pc' := 659) dL_law__658 rfl ?_
    refine ax_if_eq (pc' := 662) (tgt := 664) dL_law__659 (by decide) rfl (fun _ => ?_) (fun z => absurd (lg_cmp_self _) z)
    refine ax_goto (tgt := 2585) dL_law__664 (by decide) ?_
    refine ax_widen (ce' := ce + 8) (sl' := sl + 48) (by omega) (by omega) (ax_fgt (hN _ _ hI2))
  · show ac_X g i_L_law_ 100 601024 7293034 Q (ce + 2) (sl + 12) 616 [some (.ref 1000000), some (.ref 0), some (.ref 69), some (.ref 585), some (.int i), none, none, none] [.int c] (false, 586, SH, s1, τ)
    refine ax_istore (pc' := 618) dL_law__616 rfl rfl rfl ?_
    refine ax_aload_n (pc' := 619) dL_law__618 rfl rfl ?_
    refine ax_aload_n (pc' := 620) dL_law__619 rfl rfl ?_
    refine ax_iload (pc' := 622) dL_law__620 rfl rfl ?_
    refine ax_iconst (pc' := 623) (v := (1 : Int32)) dL_law__622 (by decide) rfl ?_
    refine ax_iadd (pc' := 624) dL_law__623 rfl ?_
    refine ax_sld (pc' := 625) dL_law__624 hr.1 rfl ?_
    refine ax_aload_n (pc' := 626) dL_law__625 rfl rfl ?_
    refine ax_iload (pc' := 628) dL_law__626 rfl rfl ?_
    refine ax_iconst (pc' := 629) (v := (2 : Int32)) dL_law__628 (by decide) rfl ?_
    refine ax_iadd (pc' := 630) dL_law__629 rfl ?_
    refine ax_sld (pc' := 631) dL_law__630 hr.2.1 rfl ?_
    refine ax_invVL (pc' := 634) (ce' := ce + 2) (sl' := sl + 12) (a := 69) (As := [.int (g.2.2.2.2.2.2 (i + 1).toNatClampNeg), .int (g.2.2.2.2.2.2 (i + 2).toNatClampNeg)]) (S := []) (mc2 := 0) (ms2 := 0) (I2 := i_X12_folk) rfl dL_law__631 ll_155 sh_69 (by decide) rfl rfl rfl rfl rfl rfl rfl (by omega) (by omega) rfl (ac_M.imp (o_X12_folk _ (g.2.2.2.2.2.2 (i + 1).toNatClampNeg) (g.2.2.2.2.2.2 (i + 2).toNatClampNeg) H) ?_)
    rintro _ _ ⟨b, s2, rfl, rfl, hT2, hI2⟩
    show ac_X g i_L_law_ 100 601024 7293034 Q (ce + 2) (sl + 12) 634 [some (.ref 1000000), some (.ref 0), some (.ref 69), some (.ref 585), some (.int i), some (.int c), none, none] [.int b] (false, 586, SH, s2, τ)
    refine ax_istore (pc' := 636) dL_law__634 rfl rfl rfl ?_
    refine ax_aload_n (pc' := 637) dL_law__636 rfl rfl ?_
    refine ax_invVL (pc' := 640) (ce' := ce + 2) (sl' := sl + 12) (a := 69) (As := []) (S := []) (mc2 := 0) (ms2 := 0) (I2 := i_X12_thrown) rfl dL_law__637 ll_128 sh_69 (by decide) rfl rfl rfl rfl rfl rfl rfl (by omega) (by omega) rfl (ac_M.imp (o_X12_thrown _ (Q := fun r s => r = s2 69 0 ∧ s = s2) ⟨rfl, rfl⟩) ?_)
    rintro _ _ ⟨z, s3, rfl, rfl, rfl, rfl⟩
    show ac_X g i_L_law_ 100 601024 7293034 Q (ce + 2) (sl + 12) 640 [some (.ref 1000000), some (.ref 0), some (.ref 69), some (.ref 585), some (.int i), some (.int c), some (.int b), none] [.int (s3 69 0)] (false, 586, SH, s3, τ)
    refine ax_iload (pc' := 642) dL_law__640 rfl rfl ?_
    refine ax_icmp_eq (pc' := 645) (tgt := 647) dL_law__642 (by decide) rfl (fun _ => ?_) (fun z => absurd (thB_c hT2 hT).1 z)
    refine ax_iload (pc' := 649) dL_law__647 rfl rfl ?_
    refine ax_if_ne (pc' := 652) (tgt := 664) dL_law__649 (by decide) rfl (fun _ => ?_) (fun z => absurd z (thB_c hT hT).2)
    refine ax_goto (tgt := 2585) dL_law__664 (by decide) ?_
    refine ax_widen (ce' := ce + 8) (sl' := sl + 48) (by omega) (by omega) (ax_fgt (hN _ _ hI2))
theorem lc_beast {g : ac_G} {Q : ac_O → ac_W → Prop} {ce sl : Nat} {i : Int32} {s : ac_m} {τ : Nat → Nat → Int64} (hce : ce + 8 ≤ 601024) (hsl : sl + 48 ≤ 7293034) (hr : rd g i) (hI : Inv s) (hN : ∀ s' τ', Inv s' → lwX g Q (ce + 8) (sl + 48) 2585 i s' τ') : lwX g Q ce sl 667 i s τ := by
  refine ax_aload_n (pc' := 668) dL_law__667 rfl rfl ?_
  refine ax_aload_n (pc' := 669) dL_law__668 rfl rfl ?_
  refine ax_iload (pc' := 671) dL_law__669 rfl rfl ?_
  refine ax_iconst (pc' := 672) (v := (1 : Int32)) dL_law__671 (by decide) rfl ?_
  refine ax_iadd (pc' := 673) dL_law__672 rfl ?_
  refine ax_sld (pc' := 674) dL_law__673 hr.1 rfl ?_
  refine ax_aload_n (pc' := 675) dL_law__674 rfl rfl ?_
  refine ax_iload (pc' := 677) dL_law__675 rfl rfl ?_
  refine ax_iconst (pc' := 678) (v := (2 : Int32)) dL_law__677 (by decide) rfl ?_
  refine ax_iadd (pc' := 679) dL_law__678 rfl ?_
  refine ax_sld (pc' := 680) dL_law__679 hr.2.1 rfl ?_
  refine ax_aload_n (pc' := 681) dL_law__680 rfl rfl ?_
  refine ax_invSH (pc' := 684) (ce' := ce + 2) (sl' := sl + 12) (As := [.ref 0, .int (g.2.2.2.2.2.2 (i + 1).toNatClampNeg), .int (g.2.2.2.2.2.2 (i + 2).toNatClampNeg), .ref 585]) (S := []) (mc2 := 2) (ms2 := 12) (I2 := i_L_beast) rfl dL_law__681 ll_156 rfl (by decide) rfl rfl rfl rfl (by omega) (by omega) rfl (ac_M.imp (o_L_beast _ (g.2.2.2.2.2.2 (i + 1).toNatClampNeg) (g.2.2.2.2.2.2 (i + 2).toNatClampNeg) (s_beast (g.2.2.2.2.2.2 (i + 1).toNatClampNeg) (g.2.2.2.2.2.2 (i + 2).toNatClampNeg) s hI)) ?_)
  rintro _ _ (⟨r, s1, rfl, rfl, H⟩ | ⟨E, c, s1, rfl, rfl, hT, H⟩)
  · show ac_X g i_L_law_ 100 601024 7293034 Q (ce + 2) (sl + 12) 684 [some (.ref 1000000), some (.ref 0), some (.ref 69), some (.ref 585), some (.int i), none, none, none] [.int 0] (false, 586, SH, s1, (ac_uL τ 585 0 r.toInt64))
    refine ax_istore (pc' := 686) dL_law__684 rfl rfl rfl ?_
    refine ax_aload_n (pc' := 687) dL_law__686 rfl rfl ?_
    refine ax_aload_n (pc' := 688) dL_law__687 rfl rfl ?_
    refine ax_iload (pc' := 690) dL_law__688 rfl rfl ?_
    refine ax_iconst (pc' := 691) (v := (1 : Int32)) dL_law__690 (by decide) rfl ?_
    refine ax_iadd (pc' := 692) dL_law__691 rfl ?_
    refine ax_sld (pc' := 693) dL_law__692 hr.1 rfl ?_
    refine ax_aload_n (pc' := 694) dL_law__693 rfl rfl ?_
    refine ax_iload (pc' := 696) dL_law__694 rfl rfl ?_
    refine ax_iconst (pc' := 697) (v := (2 : Int32)) dL_law__696 (by decide) rfl ?_
    refine ax_iadd (pc' := 698) dL_law__697 rfl ?_
    refine ax_sld (pc' := 699) dL_law__698 hr.2.1 rfl ?_
    refine ax_invVL (pc' := 702) (ce' := ce + 2) (sl' := sl + 12) (a := 69) (As := [.int (g.2.2.2.2.2.2 (i + 1).toNatClampNeg), .int (g.2.2.2.2.2.2 (i + 2).toNatClampNeg)]) (S := []) (mc2 := 0) (ms2 := 0) (I2 := i_X12_beast) rfl dL_law__699 ll_158 sh_69 (by decide) rfl rfl rfl rfl rfl rfl rfl (by omega) (by omega) rfl (ac_M.imp (o_X12_beast _ (g.2.2.2.2.2.2 (i + 1).toNatClampNeg) (g.2.2.2.2.2.2 (i + 2).toNatClampNeg) H) ?_)
    rintro _ _ ⟨b, s2, rfl, rfl, hb, h0, hI2⟩
    show ac_X g i_L_law_ 100 601024 7293034 Q (ce + 2) (sl + 12) 702 [some (.ref 1000000), some (.ref 0), some (.ref 69), some (.ref 585), some (.int i), some (.int 0), none, none] [.int b] (false, 586, SH, s2, (ac_uL τ 585 0 r.toInt64))
    refine ax_istore (pc' := 704) dL_law__702 rfl rfl rfl ?_
    refine ax_aload_n (pc' := 705) dL_law__704 rfl rfl ?_
    refine ax_invVL (pc' := 708) (ce' := ce + 2) (sl' := sl + 12) (a := 69) (As := []) (S := []) (mc2 := 0) (ms2 := 0) (I2 := i_X12_thrown) rfl dL_law__705 ll_128 sh_69 (by decide) rfl rfl rfl rfl rfl rfl rfl (by omega) (by omega) rfl (ac_M.imp (o_X12_thrown _ (Q := fun r s => r = s2 69 0 ∧ s = s2) ⟨rfl, rfl⟩) ?_)
    rintro _ _ ⟨z, s3, rfl, rfl, rfl, rfl⟩
    show ac_X g i_L_law_ 100 601024 7293034 Q (ce + 2) (sl + 12) 708 [some (.ref 1000000), some (.ref 0), some (.ref 69), some (.ref 585), some (.int i), some (.int 0), some (.int b), none] [.int (s3 69 0)] (false, 586, SH, s3, (ac_uL τ 585 0 r.toInt64))
    refine ax_iload (pc' := 710) dL_law__708 rfl rfl ?_
    refine ax_icmp_eq (pc' := 713) (tgt := 715) dL_law__710 (by decide) rfl (fun _ => ?_) (fun z => absurd h0 z)
    refine ax_iload (pc' := 717) dL_law__715 rfl rfl ?_
    refine ax_if_ne (pc' := 720) (tgt := 732) dL_law__717 (by decide) rfl (fun z => absurd rfl z) (fun _ => ?_)
    refine ax_aload_n (pc' := 721) dL_law__720 rfl rfl ?_
    refine ax_iconst (pc' := 722) (v := (0 : Int32)) dL_law__721 (by decide) rfl ?_
    refine ax_lald (pc' := 723) dL_law__722 sh_585 (ac_in (by decide)) rfl rfl ?_
    refine ax_iload (pc' := 725) dL_law__723 rfl rfl ?_
    refine ax_i2l (pc' := 726) dL_law__725 rfl ?_
    rw [show ac_uL τ 585 0 r.toInt64 585 (0 : Int32).toNatClampNeg = r.toInt64 from uL_eq, hb]
    refine ax_lcmp (pc' := 727) dL_law__726 rfl ?_
    refine ax_if_eq (pc' := 730) (tgt := 732) dL_law__727 (by decide) rfl (fun _ => ?_) (fun z => absurd (lg_cmp_self _) z)
    refine ax_goto (tgt := 2585) dL_law__732 (by decide) ?_
    refine ax_widen (ce' := ce + 8) (sl' := sl + 48) (by omega) (by omega) (ax_fgt (hN _ _ hI2))
  · show ac_X g i_L_law_ 100 601024 7293034 Q (ce + 2) (sl + 12) 684 [some (.ref 1000000), some (.ref 0), some (.ref 69), some (.ref 585), some (.int i), none, none, none] [.int c] (false, 586, SH, s1, τ)
    refine ax_istore (pc' := 686) dL_law__684 rfl rfl rfl ?_
    refine ax_aload_n (pc' := 687) dL_law__686 rfl rfl ?_
    refine ax_aload_n (pc' := 688) dL_law__687 rfl rfl ?_
    refine ax_iload (pc' := 690) dL_law__688 rfl rfl ?_
    refine ax_iconst (pc' := 691) (v := (1 : Int32)) dL_law__690 (by decide) rfl ?_
    refine ax_iadd (pc' := 692) dL_law__691 rfl ?_
    refine ax_sld (pc' := 693) dL_law__692 hr.1 rfl ?_
    refine ax_aload_n (pc' := 694) dL_law__693 rfl rfl ?_
    refine ax_iload (pc' := 696) dL_law__694 rfl rfl ?_
    refine ax_iconst (pc' := 697) (v := (2 : Int32)) dL_law__696 (by decide) rfl ?_
    refine ax_iadd (pc' := 698) dL_law__697 rfl ?_
    refine ax_sld (pc' := 699) dL_law__698 hr.2.1 rfl ?_
    refine ax_invVL (pc' := 702) (ce' := ce + 2) (sl' := sl + 12) (a := 69) (As := [.int (g.2.2.2.2.2.2 (i + 1).toNatClampNeg), .int (g.2.2.2.2.2.2 (i + 2).toNatClampNeg)]) (S := []) (mc2 := 0) (ms2 := 0) (I2 := i_X12_beast) rfl dL_law__699 ll_158 sh_69 (by decide) rfl rfl rfl rfl rfl rfl rfl (by omega) (by omega) rfl (ac_M.imp (o_X12_beast _ (g.2.2.2.2.2.2 (i + 1).toNatClampNeg) (g.2.2.2.2.2.2 (i + 2).toNatClampNeg) H) ?_)
    rintro _ _ ⟨b, s2, rfl, rfl, hT2, hI2⟩
    show ac_X g i_L_law_ 100 601024 7293034 Q (ce + 2) (sl + 12) 702 [some (.ref 1000000), some (.ref 0), some (.ref 69), some (.ref 585), some (.int i), some (.int c), none, none] [.int b] (false, 586, SH, s2, τ)
    refine ax_istore (pc' := 704) dL_law__702 rfl rfl rfl ?_
    refine ax_aload_n (pc' := 705) dL_law__704 rfl rfl ?_
    refine ax_invVL (pc' := 708) (ce' := ce + 2) (sl' := sl + 12) (a := 69) (As := []) (S := []) (mc2 := 0) (ms2 := 0) (I2 := i_X12_thrown) rfl dL_law__705 ll_128 sh_69 (by decide) rfl rfl rfl rfl rfl rfl rfl (by omega) (by omega) rfl (ac_M.imp (o_X12_thrown _ (Q := fun r s => r = s2 69 0 ∧ s = s2) ⟨rfl, rfl⟩) ?_)
    rintro _ _ ⟨z, s3, rfl, rfl, rfl, rfl⟩
    show ac_X g i_L_law_ 100 601024 7293034 Q (ce + 2) (sl + 12) 708 [some (.ref 1000000), some (.ref 0), some (.ref 69), some (.ref 585), some (.int i), some (.int c), some (.int b), none] [.int (s3 69 0)] (false, 586, SH, s3, τ)
    refine ax_iload (pc' := 710) dL_law__708 rfl rfl ?_
    refine ax_icmp_eq (pc' := 713) (tgt := 715) dL_law__710 (by decide) rfl (fun _ => ?_) (fun z => absurd (thB_c hT2 hT).1 z)
    refine ax_iload (pc' := 717) dL_law__715 rfl rfl ?_
    refine ax_if_ne (pc' := 720) (tgt := 732) dL_law__717 (by decide) rfl (fun _ => ?_) (fun z => absurd z (thB_c hT hT).2)
    refine ax_goto (tgt := 2585) dL_law__732 (by decide) ?_
    refine ax_widen (ce' := ce + 8) (sl' := sl + 48) (by omega) (by omega) (ax_fgt (hN _ _ hI2))
theorem lc_fair {g : ac_G} {Q : ac_O → ac_W → Prop} {ce sl : Nat} {i : Int32} {s : ac_m} {τ : Nat → Nat → Int64} (hce : ce + 8 ≤ 601024) (hsl : sl + 48 ≤ 7293034) (hr : rd g i) (hI : Inv s) (hN : ∀ s' τ', Inv s' → lwX g Q (ce + 8) (sl + 48) 2585 i s' τ') : lwX g Q ce sl 735 i s τ := by
  refine ax_aload_n (pc' := 736) dL_law__735 rfl rfl ?_
  refine ax_aload_n (pc' := 737) dL_law__736 rfl rfl ?_
  refine ax_iload (pc' := 739) dL_law__737 rfl rfl ?_
  refine ax_iconst (pc' := 740) (v := (1 : Int32)) dL_law__739 (by decide) rfl ?_
  refine ax_iadd (pc' := 741) dL_law__740 rfl ?_
  refine ax_sld (pc' := 742) dL_law__741 hr.1 rfl ?_
  refine ax_aload_n (pc' := 743) dL_law__742 rfl rfl ?_
  refine ax_iload (pc' := 745) dL_law__743 rfl rfl ?_
  refine ax_iconst (pc' := 746) (v := (2 : Int32)) dL_law__745 (by decide) rfl ?_
  refine ax_iadd (pc' := 747) dL_law__746 rfl ?_
  refine ax_sld (pc' := 748) dL_law__747 hr.2.1 rfl ?_
  refine ax_aload_n (pc' := 749) dL_law__748 rfl rfl ?_
  refine ax_invSH (pc' := 752) (ce' := ce + 2) (sl' := sl + 12) (As := [.ref 0, .int (g.2.2.2.2.2.2 (i + 1).toNatClampNeg), .int (g.2.2.2.2.2.2 (i + 2).toNatClampNeg), .ref 585]) (S := []) (mc2 := 2) (ms2 := 12) (I2 := i_L_fair) rfl dL_law__749 ll_159 rfl (by decide) rfl rfl rfl rfl (by omega) (by omega) rfl (ac_M.imp (o_L_fair _ (g.2.2.2.2.2.2 (i + 1).toNatClampNeg) (g.2.2.2.2.2.2 (i + 2).toNatClampNeg) (s_fair (g.2.2.2.2.2.2 (i + 1).toNatClampNeg) (g.2.2.2.2.2.2 (i + 2).toNatClampNeg) s hI)) ?_)
  rintro _ _ (⟨r, s1, rfl, rfl, H⟩ | ⟨E, c, s1, rfl, rfl, hT, H⟩)
  · show ac_X g i_L_law_ 100 601024 7293034 Q (ce + 2) (sl + 12) 752 [some (.ref 1000000), some (.ref 0), some (.ref 69), some (.ref 585), some (.int i), none, none, none] [.int 0] (false, 586, SH, s1, (ac_uL τ 585 0 r.toInt64))
    refine ax_istore (pc' := 754) dL_law__752 rfl rfl rfl ?_
    refine ax_aload_n (pc' := 755) dL_law__754 rfl rfl ?_
    refine ax_aload_n (pc' := 756) dL_law__755 rfl rfl ?_
    refine ax_iload (pc' := 758) dL_law__756 rfl rfl ?_
    refine ax_iconst (pc' := 759) (v := (1 : Int32)) dL_law__758 (by decide) rfl ?_
    refine ax_iadd (pc' := 760) dL_law__759 rfl ?_
    refine ax_sld (pc' := 761) dL_law__760 hr.1 rfl ?_
    refine ax_aload_n (pc' := 762) dL_law__761 rfl rfl ?_
    refine ax_iload (pc' := 764) dL_law__762 rfl rfl ?_
    refine ax_iconst (pc' := 765) (v := (2 : Int32)) dL_law__764 (by decide) rfl ?_
    refine ax_iadd (pc' := 766) dL_law__765 rfl ?_
    refine ax_sld (pc' := 767) dL_law__766 hr.2.1 rfl ?_
    refine ax_invVL (pc' := 770) (ce' := ce + 2) (sl' := sl + 12) (a := 69) (As := [.int (g.2.2.2.2.2.2 (i + 1).toNatClampNeg), .int (g.2.2.2.2.2.2 (i + 2).toNatClampNeg)]) (S := []) (mc2 := 0) (ms2 := 0) (I2 := i_X12_fair) rfl dL_law__767 ll_161 sh_69 (by decide) rfl rfl rfl rfl rfl rfl rfl (by omega) (by omega) rfl (ac_M.imp (o_X12_fair _ (g.2.2.2.2.2.2 (i + 1).toNatClampNeg) (g.2.2.2.2.2.2 (i + 2).toNatClampNeg) H) ?_)
    rintro _ _ ⟨b, s2, rfl, rfl, hb, h0, hI2⟩
    show ac_X g i_L_law_ 100 601024 7293034 Q (ce + 2) (sl + 12) 770 [some (.ref 1000000), some (.ref 0), some (.ref 69), some (.ref 585), some (.int i), some (.int 0), none, none] [.int b] (false, 586, SH, s2, (ac_uL τ 585 0 r.toInt64))
    refine ax_istore (pc' := 772) dL_law__770 rfl rfl rfl ?_
    refine ax_aload_n (pc' := 773) dL_law__772 rfl rfl ?_
    refine ax_invVL (pc' := 776) (ce' := ce + 2) (sl' := sl + 12) (a := 69) (As := []) (S := []) (mc2 := 0) (ms2 := 0) (I2 := i_X12_thrown) rfl dL_law__773 ll_128 sh_69 (by decide) rfl rfl rfl rfl rfl rfl rfl (by omega) (by omega) rfl (ac_M.imp (o_X12_thrown _ (Q := fun r s => r = s2 69 0 ∧ s = s2) ⟨rfl, rfl⟩) ?_)
    rintro _ _ ⟨z, s3, rfl, rfl, rfl, rfl⟩
    show ac_X g i_L_law_ 100 601024 7293034 Q (ce + 2) (sl + 12) 776 [some (.ref 1000000), some (.ref 0), some (.ref 69), some (.ref 585), some (.int i), some (.int 0), some (.int b), none] [.int (s3 69 0)] (false, 586, SH, s3, (ac_uL τ 585 0 r.toInt64))
    refine ax_iload (pc' := 778) dL_law__776 rfl rfl ?_
    refine ax_icmp_eq (pc' := 781) (tgt := 783) dL_law__778 (by decide) rfl (fun _ => ?_) (fun z => absurd h0 z)
    refine ax_iload (pc' := 785) dL_law__783 rfl rfl ?_
    refine ax_if_ne (pc' := 788) (tgt := 800) dL_law__785 (by decide) rfl (fun z => absurd rfl z) (fun _ => ?_)
    refine ax_aload_n (pc' := 789) dL_law__788 rfl rfl ?_
    refine ax_iconst (pc' := 790) (v := (0 : Int32)) dL_law__789 (by decide) rfl ?_
    refine ax_lald (pc' := 791) dL_law__790 sh_585 (ac_in (by decide)) rfl rfl ?_
    refine ax_iload (pc' := 793) dL_law__791 rfl rfl ?_
    refine ax_i2l (pc' := 794) dL_law__793 rfl ?_
    rw [show ac_uL τ 585 0 r.toInt64 585 (0 : Int32).toNatClampNeg = r.toInt64 from uL_eq, hb]
    refine ax_lcmp (pc' := 795) dL_law__794 rfl ?_
    refine ax_if_eq (pc' := 798) (tgt := 800) dL_law__795 (by decide) rfl (fun _ => ?_) (fun z => absurd (lg_cmp_self _) z)
    refine ax_goto (tgt := 2585) dL_law__800 (by decide) ?_
    refine ax_widen (ce' := ce + 8) (sl' := sl + 48) (by omega) (by omega) (ax_fgt (hN _ _ hI2))
  · show ac_X g i_L_law_ 100 601024 7293034 Q (ce + 2) (sl + 12) 752 [some (.ref 1000000), some (.ref 0), some (.ref 69), some (.ref 585), some (.int i), none, none, none] [.int c] (false, 586, SH, s1, τ)
    refine ax_istore (pc' := 754) dL_law__752 rfl rfl rfl ?_
    refine ax_aload_n (pc' := 755) dL_law__754 rfl rfl ?_
    refine ax_aload_n (pc' := 756) dL_law__755 rfl rfl ?_
    refine ax_iload (pc' := 758) dL_law__756 rfl rfl ?_
    refine ax_iconst (pc' := 759) (v := (1 : Int32)) dL_law__758 (by decide) rfl ?_
    refine ax_iadd (pc' := 760) dL_law__759 rfl ?_
    refine ax_sld (pc' := 761) dL_law__760 hr.1 rfl ?_
    refine ax_aload_n (pc' := 762) dL_law__761 rfl rfl ?_
    refine ax_iload (pc' := 764) dL_law__762 rfl rfl ?_
    refine ax_iconst (pc' := 765) (v := (2 : Int32)) dL_law__764 (by decide) rfl ?_
    refine ax_iadd (pc' := 766) dL_law__765 rfl ?_
    refine ax_sld (pc' := 767) dL_law__766 hr.2.1 rfl ?_
    refine ax_invVL (pc' := 770) (ce' := ce + 2) (sl' := sl + 12) (a := 69) (As := [.int (g.2.2.2.2.2.2 (i + 1).toNatClampNeg), .int (g.2.2.2.2.2.2 (i + 2).toNatClampNeg)]) (S := []) (mc2 := 0) (ms2 := 0) (I2 := i_X12_fair) rfl dL_law__767 ll_161 sh_69 (by decide) rfl rfl rfl rfl rfl rfl rfl (by omega) (by omega) rfl (ac_M.imp (o_X12_fair _ (g.2.2.2.2.2.2 (i + 1).toNatClampNeg) (g.2.2.2.2.2.2 (i + 2).toNatClampNeg) H) ?_)
    rintro _ _ ⟨b, s2, rfl, rfl, hT2, hI2⟩
    show ac_X g i_L_law_ 100 601024 7293034 Q (ce + 2) (sl + 12) 770 [some (.ref 1000000), some (.ref 0), some (.ref 69), some (.ref 585), some (.int i), some (.int c), none, none] [.int b] (false, 586, SH, s2, τ)
    refine ax_istore (pc' := 772) dL_law__770 rfl rfl rfl ?_
    refine ax_aload_n (pc' := 773) dL_law__772 rfl rfl ?_
    refine ax_invVL (pc' := 776) (ce' := ce + 2) (sl' := sl + 12) (a := 69) (As := []) (S := []) (mc2 := 0) (ms2 := 0) (I2 := i_X12_thrown) rfl dL_law__773 ll_128 sh_69 (by decide) rfl rfl rfl rfl rfl rfl rfl (by omega) (by omega) rfl (ac_M.imp (o_X12_thrown _ (Q := fun r s => r = s2 69 0 ∧ s = s2) ⟨rfl, rfl⟩) ?_)
    rintro _ _ ⟨z, s3, rfl, rfl, rfl, rfl⟩
    show ac_X g i_L_law_ 100 601024 7293034 Q (ce + 2) (sl + 12) 776 [some (.ref 1000000), some (.ref 0), some (.ref 69), some (.ref 585), some (.int i), some (.int c), some (.int b), none] [.int (s3 69 0)] (false, 586, SH, s3, τ)
    refine ax_iload (pc' := 778) dL_law__776 rfl rfl ?_
    refine ax_icmp_eq (pc' := 781) (tgt := 783) dL_law__778 (by decide) rfl (fun _ => ?_) (fun z => absurd (thB_c hT2 hT).1 z)
    refine ax_iload (pc' := 785) dL_law__783 rfl rfl ?_
    refine ax_if_ne (pc' := 788) (tgt := 800) dL_law__785 (by decide) rfl (fun _ => ?_) (fun z => absurd z (thB_c hT hT).2)
    refine ax_goto (tgt := 2585) dL_law__800 (by decide) ?_
    refine ax_widen (ce' := ce + 8) (sl' := sl + 48) (by omega) (by omega) (ax_fgt (hN _ _ hI2))
theorem lc_cool {g : ac_G} {Q : ac_O → ac_W → Prop} {ce sl : Nat} {i : Int32} {s : ac_m} {τ : Nat → Nat → Int64} (hce : ce + 8 ≤ 601024) (hsl : sl + 48 ≤ 7293034) (hr : rd g i) (hI : Inv s) (hN : ∀ s' τ', Inv s' → lwX g Q (ce + 8) (sl + 48) 2585 i s' τ') : lwX g Q ce sl 803 i s τ := by
  refine ax_aload_n (pc' := 804) dL_law__803 rfl rfl ?_
  refine ax_aload_n (pc' := 805) dL_law__804 rfl rfl ?_
  refine ax_iload (pc' := 807) dL_law__805 rfl rfl ?_
  refine ax_iconst (pc' := 808) (v := (1 : Int32)) dL_law__807 (by decide) rfl ?_
  refine ax_iadd (pc' := 809) dL_law__808 rfl ?_
  refine ax_sld (pc' := 810) dL_law__809 hr.1 rfl ?_
  refine ax_aload_n (pc' := 811) dL_law__810 rfl rfl ?_
  refine ax_iload (pc' := 813) dL_law__811 rfl rfl ?_
  refine ax_iconst (pc' := 814) (v := (2 : Int32)) dL_law__813 (by decide) rfl ?_
  refine ax_iadd (pc' := 815) dL_law__814 rfl ?_
  refine ax_sld (pc' := 816) dL_law__815 hr.2.1 rfl ?_
  refine ax_aload_n (pc' := 817) dL_law__816 rfl rfl ?_
  refine ax_invSH (pc' := 820) (ce' := ce + 2) (sl' := sl + 12) (As := [.ref 0, .int (g.2.2.2.2.2.2 (i + 1).toNatClampNeg), .int (g.2.2.2.2.2.2 (i + 2).toNatClampNeg), .ref 585]) (S := []) (mc2 := 2) (ms2 := 12) (I2 := i_L_cool) rfl dL_law__817 ll_162 rfl (by decide) rfl rfl rfl rfl (by omega) (by omega) rfl (ac_M.imp (o_L_cool _ (g.2.2.2.2.2.2 (i + 1).toNatClampNeg) (g.2.2.2.2.2.2 (i + 2).toNatClampNeg) (s_cool (g.2.2.2.2.2.2 (i + 1).toNatClampNeg) (g.2.2.2.2.2.2 (i + 2).toNatClampNeg) s hI)) ?_)
  rintro _ _ (⟨r, s1, rfl, rfl, H⟩ | ⟨E, c, s1, rfl, rfl, hT, H⟩)
  · show ac_X g i_L_law_ 100 601024 7293034 Q (ce + 2) (sl + 12) 820 [some (.ref 1000000), some (.ref 0), some (.ref 69), some (.ref 585), some (.int i), none, none, none] [.int 0] (false, 586, SH, s1, (ac_uL τ 585 0 r.toInt64))
    refine ax_istore (pc' := 822) dL_law__820 rfl rfl rfl ?_
    refine ax_aload_n (pc' := 823) dL_law__822 rfl rfl ?_
    refine ax_aload_n (pc' := 824) dL_law__823 rfl rfl ?_
    refine ax_iload (pc' := 826) dL_law__824 rfl rfl ?_
    refine ax_iconst (pc' := 827) (v := (1 : Int32)) dL_law__826 (by decide) rfl ?_
    refine ax_iadd (pc' := 828) dL_law__827 rfl ?_
    refine ax_sld (pc' := 829) dL_law__828 hr.1 rfl ?_
    refine ax_aload_n (pc' := 830) dL_law__829 rfl rfl ?_
    refine ax_iload (pc' := 832) dL_law__830 rfl rfl ?_
    refine ax_iconst (pc' := 833) (v := (2 : Int32)) dL_law__832 (by decide) rfl ?_
    refine ax_iadd (pc' := 834) dL_law__833 rfl ?_
    refine ax_sld (pc' := 835) dL_law__834 hr.2.1 rfl ?_
    refine ax_invVL (pc' := 838) (ce' := ce + 2) (sl' := sl + 12) (a := 69) (As := [.int (g.2.2.2.2.2.2 (i + 1).toNatClampNeg), .int (g.2.2.2.2.2.2 (i + 2).toNatClampNeg)]) (S := []) (mc2 := 0) (ms2 := 0) (I2 := i_X12_cool) rfl dL_law__835 ll_164 sh_69 (by decide) rfl rfl rfl rfl rfl rfl rfl (by omega) (by omega) rfl (ac_M.imp (o_X12_cool _ (g.2.2.2.2.2.2 (i + 1).toNatClampNeg) (g.2.2.2.2.2.2 (i + 2).toNatClampNeg) H) ?_)
    rintro _ _ ⟨b, s2, rfl, rfl, hb, h0, hI2⟩
    show ac_X g i_L_law_ 100 601024 7293034 Q (ce + 2) (sl + 12) 838 [some (.ref 1000000), some (.ref 0), some (.ref 69), some (.ref 585), some (.int i), some (.int 0), none, none] [.int b] (false, 586, SH, s2, (ac_uL τ 585 0 r.toInt64))
    refine ax_istore (pc' := 840) dL_law__838 rfl rfl rfl ?_
    refine ax_aload_n (pc' := 841) dL_law__840 rfl rfl ?_
    refine ax_invVL (pc' := 844) (ce' := ce + 2) (sl' := sl + 12) (a := 69) (As := []) (S := []) (mc2 := 0) (ms2 := 0) (I2 := i_X12_thrown) rfl dL_law__841 ll_128 sh_69 (by decide) rfl rfl rfl rfl rfl rfl rfl (by omega) (by omega) rfl (ac_M.imp (o_X12_thrown _ (Q := fun r s => r = s2 69 0 ∧ s = s2) ⟨rfl, rfl⟩) ?_)
    rintro _ _ ⟨z, s3, rfl, rfl, rfl, rfl⟩
    show ac_X g i_L_law_ 100 601024 7293034 Q (ce + 2) (sl + 12) 844 [some (.ref 1000000), some (.ref 0), some (.ref 69), some (.ref 585), some (.int i), some (.int 0), some (.int b), none] [.int (s3 69 0)] (false, 586, SH, s3, (ac_uL τ 585 0 r.toInt64))
    refine ax_iload (pc' := 846) dL_law__844 rfl rfl ?_
    refine ax_icmp_eq (pc' := 849) (tgt := 851) dL_law__846 (by decide) rfl (fun _ => ?_) (fun z => absurd h0 z)
    refine ax_iload (pc' := 853) dL_law__851 rfl rfl ?_
    refine ax_if_ne (pc' := 856) (tgt := 868) dL_law__853 (by decide) rfl (fun z => absurd rfl z) (fun _ => ?_)
    refine ax_aload_n (pc' := 857) dL_law__856 rfl rfl ?_
    refine ax_iconst (pc' := 858) (v := (0 : Int32)) dL_law__857 (by decide) rfl ?_
    refine ax_lald (pc' := 859) dL_law__858 sh_585 (ac_in (by decide)) rfl rfl ?_
    refine ax_iload (pc' := 861) dL_law__859 rfl rfl ?_
    refine ax_i2l (pc' := 862) dL_law__861 rfl ?_
    rw [show ac_uL τ 585 0 r.toInt64 585 (0 : Int32).toNatClampNeg = r.toInt64 from uL_eq, hb]
    refine ax_lcmp (pc' := 863) dL_law__862 rfl ?_
    refine ax_if_eq (pc' := 866) (tgt := 868) dL_law__863 (by decide) rfl (fun _ => ?_) (fun z => absurd (lg_cmp_self _) z)
    refine ax_goto (tgt := 2585) dL_law__868 (by decide) ?_
    refine ax_widen (ce' := ce + 8) (sl' := sl + 48) (by omega) (by omega) (ax_fgt (hN _ _ hI2))
  · show ac_X g i_L_law_ 100 601024 7293034 Q (ce + 2) (sl + 12) 820 [some (.ref 1000000), some (.ref 0), some (.ref 69), some (.ref 585), some (.int i), none, none, none] [.int c] (false, 586, SH, s1, τ)
    refine ax_istore (pc' := 822) dL_law__820 rfl rfl rfl ?_
    refine ax_aload_n (pc' := 823) dL_law__822 rfl rfl ?_
    refine ax_aload_n (pc' := 824) dL_law__823 rfl rfl ?_
    refine ax_iload (pc' := 826) dL_law__824 rfl rfl ?_
    refine ax_iconst (pc' := 827) (v := (1 : Int32)) dL_law__826 (by decide) rfl ?_
    refine ax_iadd (pc' := 828) dL_law__827 rfl ?_
    refine ax_sld (pc' := 829) dL_law__828 hr.1 rfl ?_
    refine ax_aload_n (pc' := 830) dL_law__829 rfl rfl ?_
    refine ax_iload (pc' := 832) dL_law__830 rfl rfl ?_
    refine ax_iconst (pc' := 833) (v := (2 : Int32)) dL_law__832 (by decide) rfl ?_
    refine ax_iadd (pc' := 834) dL_law__833 rfl ?_
    refine ax_sld (pc' := 835) dL_law__834 hr.2.1 rfl ?_
    refine ax_invVL (pc' := 838) (ce' := ce + 2) (sl' := sl + 12) (a := 69) (As := [.int (g.2.2.2.2.2.2 (i + 1).toNatClampNeg), .int (g.2.2.2.2.2.2 (i + 2).toNatClampNeg)]) (S := []) (mc2 := 0) (ms2 := 0) (I2 := i_X12_cool) rfl dL_law__835 ll_164 sh_69 (by decide) rfl rfl rfl rfl rfl rfl rfl (by omega) (by omega) rfl (ac_M.imp (o_X12_cool _ (g.2.2.2.2.2.2 (i + 1).toNatClampNeg) (g.2.2.2.2.2.2 (i + 2).toNatClampNeg) H) ?_)
    rintro _ _ ⟨b, s2, rfl, rfl, hT2, hI2⟩
    show ac_X g i_L_law_ 100 601024 7293034 Q (ce + 2) (sl + 12) 838 [some (.ref 1000000), some (.ref 0), some (.ref 69), some (.ref 585), some (.int i), some (.int c), none, none] [.int b] (false, 586, SH, s2, τ)
    refine ax_istore (pc' := 840) dL_law__838 rfl rfl rfl ?_
    refine ax_aload_n (pc' := 841) dL_law__840 rfl rfl ?_
    refine ax_invVL (pc' := 844) (ce' := ce + 2) (sl' := sl + 12) (a := 69) (As := []) (S := []) (mc2 := 0) (ms2 := 0) (I2 := i_X12_thrown) rfl dL_law__841 ll_128 sh_69 (by decide) rfl rfl rfl rfl rfl rfl rfl (by omega) (by omega) rfl (ac_M.imp (o_X12_thrown _ (Q := fun r s => r = s2 69 0 ∧ s = s2) ⟨rfl, rfl⟩) ?_)
    rintro _ _ ⟨z, s3, rfl, rfl, rfl, rfl⟩
    show ac_X g i_L_law_ 100 601024 7293034 Q (ce + 2) (sl + 12) 844 [some (.ref 1000000), some (.ref 0), some (.ref 69), some (.ref 585), some (.int i), some (.int c), some (.int b), none] [.int (s3 69 0)] (false, 586, SH, s3, τ)
    refine ax_iload (pc' := 846) dL_law__844 rfl rfl ?_
    refine ax_icmp_eq (pc' := 849) (tgt := 851) dL_law__846 (by decide) rfl (fun _ => ?_) (fun z => absurd (thN_c hT2 hT).1 z)
    refine ax_iload (pc' := 853) dL_law__851 rfl rfl ?_
    refine ax_if_ne (pc' := 856) (tgt := 868) dL_law__853 (by decide) rfl (fun _ => ?_) (fun z => absurd z (thN_c hT hT).2)
    refine ax_goto (tgt := 2585) dL_law__868 (by decide) ?_
    refine ax_widen (ce' := ce + 8) (sl' := sl + 48) (by omega) (by omega) (ax_fgt (hN _ _ hI2))
theorem lc_would {g : ac_G} {Q : ac_O → ac_W → Prop} {ce sl : Nat} {i : Int32} {s : ac_m} {τ : Nat → Nat → Int64} (hce : ce + 8 ≤ 601024) (hsl : sl + 48 ≤ 7293034) (hr : rd g i) (hI : Inv s) (hN : ∀ s' τ', Inv s' → lwX g Q (ce + 8) (sl + 48) 2585 i s' τ') : lwX g Q ce sl 871 i s τ := by
  refine ax_aload_n (pc' := 872) dL_law__871 rfl rfl ?_
  refine ax_aload_n (pc' := 873) dL_law__872 rfl rfl ?_
  refine ax_iload (pc' := 875) dL_law__873 rfl rfl ?_
  refine ax_iconst (pc' := 876) (v := (1 : Int32)) dL_law__875 (by decide) rfl ?_
  refine ax_iadd (pc' := 877) dL_law__876 rfl ?_
  refine ax_sld (pc' := 878) dL_law__877 hr.1 rfl ?_
  refine ax_aload_n (pc' := 879) dL_law__878 rfl rfl ?_
  refine ax_iload (pc' := 881) dL_law__879 rfl rfl ?_
  refine ax_iconst (pc' := 882) (v := (2 : Int32)) dL_law__881 (by decide) rfl ?_
  refine ax_iadd (pc' := 883) dL_law__882 rfl ?_
  refine ax_sld (pc' := 884) dL_law__883 hr.2.1 rfl ?_
  refine ax_aload_n (pc' := 885) dL_law__884 rfl rfl ?_
  refine ax_iload (pc' := 887) dL_law__885 rfl rfl ?_
  refine ax_iconst (pc' := 888) (v := (3 : Int32)) dL_law__887 (by decide) rfl ?_
  refine ax_iadd (pc' := 889) dL_law__888 rfl ?_
  refine ax_sld (pc' := 890) dL_law__889 hr.2.2.1 rfl ?_
  refine ax_aload_n (pc' := 891) dL_law__890 rfl rfl ?_
  refine ax_iload (pc' := 893) dL_law__891 rfl rfl ?_
  refine ax_iconst (pc' := 894) (v := (4 : Int32)) dL_law__893 (by decide) rfl ?_
  refine ax_iadd (pc' := 895) dL_law__894 rfl ?_
  refine ax_sld (pc' := 896) dL_law__895 hr.2.2.2.1 rfl ?_
  refine ax_aload_n (pc' := 897) dL_law__896 rfl rfl ?_
  refine ax_iload (pc' := 899) dL_law__897 rfl rfl ?_
  refine ax_iconst (pc' := 900) (v := (5 : Int32)) dL_law__899 (by decide) rfl ?_
  refine ax_iadd (pc' := 901) dL_law__900 rfl ?_
  refine ax_sld (pc' := 902) dL_law__901 hr.2.2.2.2.1 rfl ?_
  refine ax_aload_n (pc' := 903) dL_law__902 rfl rfl ?_
  refine ax_iload (pc' := 905) dL_law__903 rfl rfl ?_
  refine ax_bipush (pc' := 907) (v := (6 : Int32)) dL_law__905 (by decide) rfl ?_
  refine ax_iadd (pc' := 908) dL_law__907 rfl ?_
  refine ax_sld (pc' := 909) dL_law__908 hr.2.2.2.2.2.1 rfl ?_
  refine ax_aload_n (pc' := 910) dL_law__909 rfl rfl ?_
  refine ax_iload (pc' := 912) dL_law__910 rfl rfl ?_
  refine ax_bipush (pc' := 914) (v := (7 : Int32)) dL_law__912 (by decide) rfl ?_
  refine ax_iadd (pc' := 915) dL_law__914 rfl ?_
  refine ax_sld (pc' := 916) dL_law__915 hr.2.2.2.2.2.2.1 rfl ?_
  refine ax_aload_n (pc' := 917) dL_law__916 rfl rfl ?_
  refine ax_iload (pc' := 919) dL_law__917 rfl rfl ?_
  refine ax_bipush (pc' := 921) (v := (8 : Int32)) dL_law__919 (by decide) rfl ?_
  refine ax_iadd (pc' := 922) dL_law__921 rfl ?_
  refine ax_sld (pc' := 923) dL_law__922 hr.2.2.2.2.2.2.2 rfl ?_
  refine ax_aload_n (pc' := 924) dL_law__923 rfl rfl ?_
  refine ax_invSH (pc' := 927) (ce' := ce + 8) (sl' := sl + 48) (As := [.ref 0, .int (g.2.2.2.2.2.2 (i + 1).toNatClampNeg), .int (g.2.2.2.2.2.2 (i + 2).toNatClampNeg), .int (g.2.2.2.2.2.2 (i + 3).toNatClampNeg), .int (g.2.2.2.2.2.2 (i + 4).toNatClampNeg), .int (g.2.2.2.2.2.2 (i + 5).toNatClampNeg), .int (g.2.2.2.2.2.2 (i + 6).toNatClampNeg), .int (g.2.2.2.2.2.2 (i + 7).toNatClampNeg), .int (g.2.2.2.2.2.2 (i + 8).toNatClampNeg), .ref 585]) (S := []) (mc2 := 8) (ms2 := 48) (I2 := i_L_would) rfl dL_law__924 ll_165 rfl (by decide) rfl rfl rfl rfl (by omega) (by omega) rfl (ac_M.imp (o_L_would _ (g.2.2.2.2.2.2 (i + 1).toNatClampNeg) (g.2.2.2.2.2.2 (i + 2).toNatClampNeg) (g.2.2.2.2.2.2 (i + 3).toNatClampNeg) (g.2.2.2.2.2.2 (i + 4).toNatClampNeg) (g.2.2.2.2.2.2 (i + 5).toNatClampNeg) (g.2.2.2.2.2.2 (i + 6).toNatClampNeg) (g.2.2.2.2.2.2 (i + 7).toNatClampNeg) (g.2.2.2.2.2.2 (i + 8).toNatClampNeg) (s_would (g.2.2.2.2.2.2 (i + 1).toNatClampNeg) (g.2.2.2.2.2.2 (i + 2).toNatClampNeg) (g.2.2.2.2.2.2 (i + 3).toNatClampNeg) (g.2.2.2.2.2.2 (i + 4).toNatClampNeg) (g.2.2.2.2.2.2 (i + 5).toNatClampNeg) (g.2.2.2.2.2.2 (i + 6).toNatClampNeg) (g.2.2.2.2.2.2 (i + 7).toNatClampNeg) (g.2.2.2.2.2.2 (i + 8).toNatClampNeg) s hI)) ?_)
  rintro _ _ (⟨r, s1, rfl, rfl, H⟩ | ⟨E, c, s1, rfl, rfl, hT, H⟩)
  · show ac_X g i_L_law_ 100 601024 7293034 Q (ce + 8) (sl + 48) 927 [some (.ref 1000000), some (.ref 0), some (.ref 69), some (.ref 585), some (.int i), none, none, none] [.int 0] (false, 586, SH, s1, (ac_uL τ 585 0 r.toInt64))
    refine ax_istore (pc' := 929) dL_law__927 rfl rfl rfl ?_
    refine ax_aload_n (pc' := 930) dL_law__929 rfl rfl ?_
    refine ax_aload_n (pc' := 931) dL_law__930 rfl rfl ?_
    refine ax_iload (pc' := 933) dL_law__931 rfl rfl ?_
    refine ax_iconst (pc' := 934) (v := (1 : Int32)) dL_law__933 (by decide) rfl ?_
    refine ax_iadd (pc' := 935) dL_law__934 rfl ?_
    refine ax_sld (pc' := 936) dL_law__935 hr.1 rfl ?_
    refine ax_aload_n (pc' := 937) dL_law__936 rfl rfl ?_
    refine ax_iload (pc' := 939) dL_law__937 rfl rfl ?_
    refine ax_iconst (pc' := 940) (v := (2 : Int32)) dL_law__939 (by decide) rfl ?_
    refine ax_iadd (pc' := 941) dL_law__940 rfl ?_
    refine ax_sld (pc' := 942) dL_law__941 hr.2.1 rfl ?_
    refine ax_aload_n (pc' := 943) dL_law__942 rfl rfl ?_
    refine ax_iload (pc' := 945) dL_law__943 rfl rfl ?_
    refine ax_iconst (pc' := 946) (v := (3 : Int32)) dL_law__945 (by decide) rfl ?_
    refine ax_iadd (pc' := 947) dL_law__946 rfl ?_
    refine ax_sld (pc' := 948) dL_law__947 hr.2.2.1 rfl ?_
    refine ax_aload_n (pc' := 949) dL_law__948 rfl rfl ?_
    refine ax_iload (pc' := 951) dL_law__949 rfl rfl ?_
    refine ax_iconst (pc' := 952) (v := (4 : Int32)) dL_law__951 (by decide) rfl ?_
    refine ax_iadd (pc' := 953) dL_law__952 rfl ?_
    refine ax_sld (pc' := 954) dL_law__953 hr.2.2.2.1 rfl ?_
    refine ax_aload_n (pc' := 955) dL_law__954 rfl rfl ?_
    refine ax_iload (pc' := 957) dL_law__955 rfl rfl ?_
    refine ax_iconst (pc' := 958) (v := (5 : Int32)) dL_law__957 (by decide) rfl ?_
    refine ax_iadd (pc' := 959) dL_law__958 rfl ?_
    refine ax_sld (pc' := 960) dL_law__959 hr.2.2.2.2.1 rfl ?_
    refine ax_aload_n (pc' := 961) dL_law__960 rfl rfl ?_
    refine ax_iload (pc' := 963) dL_law__961 rfl rfl ?_
    refine ax_bipush (pc' := 965) (v := (6 : Int32)) dL_law__963 (by decide) rfl ?_
    refine ax_iadd (pc' := 966) dL_law__965 rfl ?_
    refine ax_sld (pc' := 967) dL_law__966 hr.2.2.2.2.2.1 rfl ?_
    refine ax_aload_n (pc' := 968) dL_law__967 rfl rfl ?_
    refine ax_iload (pc' := 970) dL_law__968 rfl rfl ?_
    refine ax_bipush (pc' := 972) (v := (7 : Int32)) dL_law__970 (by decide) rfl ?_
    refine ax_iadd (pc' := 973) dL_law__972 rfl ?_
    refine ax_sld (pc' := 974) dL_law__973 hr.2.2.2.2.2.2.1 rfl ?_
    refine ax_aload_n (pc' := 975) dL_law__974 rfl rfl ?_
    refine ax_iload (pc' := 977) dL_law__975 rfl rfl ?_
    refine ax_bipush (pc' := 979) (v := (8 : Int32)) dL_law__977 (by decide) rfl ?_
    refine ax_iadd (pc' := 980) dL_law__979 rfl ?_
    refine ax_sld (pc' := 981) dL_law__980 hr.2.2.2.2.2.2.2 rfl ?_
    refine ax_invVL (pc' := 984) (ce' := ce + 8) (sl' := sl + 48) (a := 69) (As := [.int (g.2.2.2.2.2.2 (i + 1).toNatClampNeg), .int (g.2.2.2.2.2.2 (i + 2).toNatClampNeg), .int (g.2.2.2.2.2.2 (i + 3).toNatClampNeg), .int (g.2.2.2.2.2.2 (i + 4).toNatClampNeg), .int (g.2.2.2.2.2.2 (i + 5).toNatClampNeg), .int (g.2.2.2.2.2.2 (i + 6).toNatClampNeg), .int (g.2.2.2.2.2.2 (i + 7).toNatClampNeg), .int (g.2.2.2.2.2.2 (i + 8).toNatClampNeg)]) (S := []) (mc2 := 0) (ms2 := 0) (I2 := i_X12_would) rfl dL_law__981 ll_168 sh_69 (by decide) rfl rfl rfl rfl rfl rfl rfl (by omega) (by omega) rfl (ac_M.imp (o_X12_would _ (g.2.2.2.2.2.2 (i + 1).toNatClampNeg) (g.2.2.2.2.2.2 (i + 2).toNatClampNeg) (g.2.2.2.2.2.2 (i + 3).toNatClampNeg) (g.2.2.2.2.2.2 (i + 4).toNatClampNeg) (g.2.2.2.2.2.2 (i + 5).toNatClampNeg) (g.2.2.2.2.2.2 (i + 6).toNatClampNeg) (g.2.2.2.2.2.2 (i + 7).toNatClampNeg) (g.2.2.2.2.2.2 (i + 8).toNatClampNeg) H) ?_)
    rintro _ _ ⟨b, s2, rfl, rfl, hb, h0, hI2⟩
    show ac_X g i_L_law_ 100 601024 7293034 Q (ce + 8) (sl + 48) 984 [some (.ref 1000000), some (.ref 0), some (.ref 69), some (.ref 585), some (.int i), some (.int 0), none, none] [.int b] (false, 586, SH, s2, (ac_uL τ 585 0 r.toInt64))
    refine ax_istore (pc' := 986) dL_law__984 rfl rfl rfl ?_
    refine ax_aload_n (pc' := 987) dL_law__986 rfl rfl ?_
    refine ax_invVL (pc' := 990) (ce' := ce + 8) (sl' := sl + 48) (a := 69) (As := []) (S := []) (mc2 := 0) (ms2 := 0) (I2 := i_X12_thrown) rfl dL_law__987 ll_128 sh_69 (by decide) rfl rfl rfl rfl rfl rfl rfl (by omega) (by omega) rfl (ac_M.imp (o_X12_thrown _ (Q := fun r s => r = s2 69 0 ∧ s = s2) ⟨rfl, rfl⟩) ?_)
    rintro _ _ ⟨z, s3, rfl, rfl, rfl, rfl⟩
    show ac_X g i_L_law_ 100 601024 7293034 Q (ce + 8) (sl + 48) 990 [some (.ref 1000000), some (.ref 0), some (.ref 69), some (.ref 585), some (.int i), some (.int 0), some (.int b), none] [.int (s3 69 0)] (false, 586, SH, s3, (ac_uL τ 585 0 r.toInt64))
    refine ax_iload (pc' := 992) dL_law__990 rfl rfl ?_
    refine ax_icmp_eq (pc' := 995) (tgt := 997) dL_law__992 (by decide) rfl (fun _ => ?_) (fun z => absurd h0 z)
    refine ax_iload (pc' := 999) dL_law__997 rfl rfl ?_
    refine ax_if_ne (pc' := 1002) (tgt := 1014) dL_law__999 (by decide) rfl (fun z => absurd rfl z) (fun _ => ?_)
    refine ax_aload_n (pc' := 1003) dL_law__1002 rfl rfl ?_
    refine ax_iconst (pc' := 1004) (v := (0 : Int32)) dL_law__1003 (by decide) rfl ?_
    refine ax_lald (pc' := 1005) dL_law__1004 sh_585 (ac_in (by decide)) rfl rfl ?_
    refine ax_iload (pc' := 1007) dL_law__1005 rfl rfl ?_
    refine ax_i2l (pc' := 1008) dL_law__1007 rfl ?_
    rw [show ac_uL τ 585 0 r.toInt64 585 (0 : Int32).toNatClampNeg = r.toInt64 from uL_eq, hb]
    refine ax_lcmp (pc' := 1009) dL_law__1008 rfl ?_
    refine ax_if_eq (pc' := 1012) (tgt := 1014) dL_law__1009 (by decide) rfl (fun _ => ?_) (fun z => absurd (lg_cmp_self _) z)
    refine ax_goto (tgt := 2585) dL_law__1014 (by decide) ?_
    refine ax_widen (ce' := ce + 8) (sl' := sl + 48) (by omega) (by omega) (ax_fgt (hN _ _ hI2))
  · show ac_X g i_L_law_ 100 601024 7293034 Q (ce + 8) (sl + 48) 927 [some (.ref 1000000), some (.ref 0), some (.ref 69), some (.ref 585), some (.int i), none, none, none] [.int c] (false, 586, SH, s1, τ)
    refine ax_istore (pc' := 929) dL_law__927 rfl rfl rfl ?_
    refine ax_aload_n (pc' := 930) dL_law__929 rfl rfl ?_
    refine ax_aload_n (pc' := 931) dL_law__930 rfl rfl ?_
    refine ax_iload (pc' := 933) dL_law__931 rfl rfl ?_
    refine ax_iconst (pc' := 934) (v := (1 : Int32)) dL_law__933 (by decide) rfl ?_
    refine ax_iadd (pc' := 935) dL_law__934 rfl ?_
    refine ax_sld (pc' := 936) dL_law__935 hr.1 rfl ?_
    refine ax_aload_n (pc' := 937) dL_law__936 rfl rfl ?_
    refine ax_iload (pc' := 939) dL_law__937 rfl rfl ?_
    refine ax_iconst (pc' := 940) (v := (2 : Int32)) dL_law__939 (by decide) rfl ?_
    refine ax_iadd (pc' := 941) dL_law__940 rfl ?_
    refine ax_sld (pc' := 942) dL_law__941 hr.2.1 rfl ?_
    refine ax_aload_n (pc' := 943) dL_law__942 rfl rfl ?_
    refine ax_iload (pc' := 945) dL_law__943 rfl rfl ?_
    refine ax_iconst (pc' := 946) (v := (3 : Int32)) dL_law__945 (by decide) rfl ?_
    refine ax_iadd (pc' := 947) dL_law__946 rfl ?_
    refine ax_sld (pc' := 948) dL_law__947 hr.2.2.1 rfl ?_
    refine ax_aload_n (pc' := 949) dL_law__948 rfl rfl ?_
    refine ax_iload (pc' := 951) dL_law__949 rfl rfl ?_
    refine ax_iconst (pc' := 952) (v := (4 : Int32)) dL_law__951 (by decide) rfl ?_
    refine ax_iadd (pc' := 953) dL_law__952 rfl ?_
    refine ax_sld (pc' := 954) dL_law__953 hr.2.2.2.1 rfl ?_
    refine ax_aload_n (pc' := 955) dL_law__954 rfl rfl ?_
    refine ax_iload (pc' := 957) dL_law__955 rfl rfl ?_
    refine ax_iconst (pc' := 958) (v := (5 : Int32)) dL_law__957 (by decide) rfl ?_
    refine ax_iadd (pc' := 959) dL_law__958 rfl ?_
    refine ax_sld (pc' := 960) dL_law__959 hr.2.2.2.2.1 rfl ?_
    refine ax_aload_n (pc' := 961) dL_law__960 rfl rfl ?_
    refine ax_iload (pc' := 963) dL_law__961 rfl rfl ?_
    refine ax_bipush (pc' := 965) (v := (6 : Int32)) dL_law__963 (by decide) rfl ?_
    refine ax_iadd (pc' := 966) dL_law__965 rfl ?_
    refine ax_sld (pc' := 967) dL_law__966 hr.2.2.2.2.2.1 rfl ?_
    refine ax_aload_n (pc' := 968) dL_law__967 rfl rfl ?_
    refine ax_iload (pc' := 970) dL_law__968 rfl rfl ?_
    refine ax_bipush (pc' := 972) (v := (7 : Int32)) dL_law__970 (by decide) rfl ?_
    refine ax_iadd (pc' := 973) dL_law__972 rfl ?_
    refine ax_sld (pc' := 974) dL_law__973 hr.2.2.2.2.2.2.1 rfl ?_
    refine ax_aload_n (pc' := 975) dL_law__974 rfl rfl ?_
    refine ax_iload (pc' := 977) dL_law__975 rfl rfl ?_
    refine ax_bipush (pc' := 979) (v := (8 : Int32)) dL_law__977 (by decide) rfl ?_
    refine ax_iadd (pc' := 980) dL_law__979 rfl ?_
    refine ax_sld (pc' := 981) dL_law__980 hr.2.2.2.2.2.2.2 rfl ?_
    refine ax_invVL (pc' := 984) (ce' := ce + 8) (sl' := sl + 48) (a := 69) (As := [.int (g.2.2.2.2.2.2 (i + 1).toNatClampNeg), .int (g.2.2.2.2.2.2 (i + 2).toNatClampNeg), .int (g.2.2.2.2.2.2 (i + 3).toNatClampNeg), .int (g.2.2.2.2.2.2 (i + 4).toNatClampNeg), .int (g.2.2.2.2.2.2 (i + 5).toNatClampNeg), .int (g.2.2.2.2.2.2 (i + 6).toNatClampNeg), .int (g.2.2.2.2.2.2 (i + 7).toNatClampNeg), .int (g.2.2.2.2.2.2 (i + 8).toNatClampNeg)]) (S := []) (mc2 := 0) (ms2 := 0) (I2 := i_X12_would) rfl dL_law__981 ll_168 sh_69 (by decide) rfl rfl rfl rfl rfl rfl rfl (by omega) (by omega) rfl (ac_M.imp (o_X12_would _ (g.2.2.2.2.2.2 (i + 1).toNatClampNeg) (g.2.2.2.2.2.2 (i + 2).toNatClampNeg) (g.2.2.2.2.2.2 (i + 3).toNatClampNeg) (g.2.2.2.2.2.2 (i + 4).toNatClampNeg) (g.2.2.2.2.2.2 (i + 5).toNatClampNeg) (g.2.2.2.2.2.2 (i + 6).toNatClampNeg) (g.2.2.2.2.2.2 (i + 7).toNatClampNeg) (g.2.2.2.2.2.2 (i + 8).toNatClampNeg) H) ?_)
    rintro _ _ ⟨b, s2, rfl, rfl, hT2, hI2⟩
    show ac_X g i_L_law_ 100 601024 7293034 Q (ce + 8) (sl + 48) 984 [some (.ref 1000000), some (.ref 0), some (.ref 69), some (.ref 585), some (.int i), some (.int c), none, none] [.int b] (false, 586, SH, s2, τ)
    refine ax_istore (pc' := 986) dL_law__984 rfl rfl rfl ?_
    refine ax_aload_n (pc' := 987) dL_law__986 rfl rfl ?_
    refine ax_invVL (pc' := 990) (ce' := ce + 8) (sl' := sl + 48) (a := 69) (As := []) (S := []) (mc2 := 0) (ms2 := 0) (I2 := i_X12_thrown) rfl dL_law__987 ll_128 sh_69 (by decide) rfl rfl rfl rfl rfl rfl rfl (by omega) (by omega) rfl (ac_M.imp (o_X12_thrown _ (Q := fun r s => r = s2 69 0 ∧ s = s2) ⟨rfl, rfl⟩) ?_)
    rintro _ _ ⟨z, s3, rfl, rfl, rfl, rfl⟩
    show ac_X g i_L_law_ 100 601024 7293034 Q (ce + 8) (sl + 48) 990 [some (.ref 1000000), some (.ref 0), some (.ref 69), some (.ref 585), some (.int i), some (.int c), some (.int b), none] [.int (s3 69 0)] (false, 586, SH, s3, τ)
    refine ax_iload (pc' := 992) dL_law__990 rfl rfl ?_
    refine ax_icmp_eq (pc' := 995) (tgt := 997) dL_law__992 (by decide) rfl (fun _ => ?_) (fun z => absurd (thA_c hT2 hT).1 z)
    refine ax_iload (pc' := 999) dL_law__997 rfl rfl ?_
    refine ax_if_ne (pc' := 1002) (tgt := 1014) dL_law__999 (by decide) rfl (fun _ => ?_) (fun z => absurd z (thA_c hT hT).2)
    refine ax_goto (tgt := 2585) dL_law__1014 (by decide) ?_
    refine ax_widen (ce' := ce + 8) (sl' := sl + 48) (by omega) (by omega) (ax_fgt (hN _ _ hI2))
theorem lc_ahead {g : ac_G} {Q : ac_O → ac_W → Prop} {ce sl : Nat} {i : Int32} {s : ac_m} {τ : Nat → Nat → Int64} (hce : ce + 8 ≤ 601024) (hsl : sl + 48 ≤ 7293034) (hr : rd g i) (hI : Inv s) (hN : ∀ s' τ', Inv s' → lwX g Q (ce + 8) (sl + 48) 2585 i s' τ') : lwX g Q ce sl 1017 i s τ := by
  refine ax_aload_n (pc' := 1018) dL_law__1017 rfl rfl ?_
  refine ax_aload_n (pc' := 1019) dL_law__1018 rfl rfl ?_
  refine ax_iload (pc' := 1021) dL_law__1019 rfl rfl ?_
  refine ax_iconst (pc' := 1022) (v := (1 : Int32)) dL_law__1021 (by decide) rfl ?_
  refine ax_iadd (pc' := 1023) dL_law__1022 rfl ?_
  refine ax_sld (pc' := 1024) dL_law__1023 hr.1 rfl ?_
  refine ax_aload_n (pc' := 1025) dL_law__1024 rfl rfl ?_
  refine ax_iload (pc' := 1027) dL_law__1025 rfl rfl ?_
  refine ax_iconst (pc' := 1028) (v := (2 : Int32)) dL_law__1027 (by decide) rfl ?_
  refine ax_iadd (pc' := 1029) dL_law__1028 rfl ?_
  refine ax_sld (pc' := 1030) dL_law__1029 hr.2.1 rfl ?_
  refine ax_aload_n (pc' := 1031) dL_law__1030 rfl rfl ?_
  refine ax_invSH (pc' := 1034) (ce' := ce + 2) (sl' := sl + 12) (As := [.ref 0, .int (g.2.2.2.2.2.2 (i + 1).toNatClampNeg), .int (g.2.2.2.2.2.2 (i + 2).toNatClampNeg), .ref 585]) (S := []) (mc2 := 2) (ms2 := 12) (I2 := i_L_ahead) rfl dL_law__1031 ll_169 rfl (by decide) rfl rfl rfl rfl (by omega) (by omega) rfl (ac_M.imp (o_L_ahead _ (g.2.2.2.2.2.2 (i + 1).toNatClampNeg) (g.2.2.2.2.2.2 (i + 2).toNatClampNeg) (s_ahead (g.2.2.2.2.2.2 (i + 1).toNatClampNeg) (g.2.2.2.2.2.2 (i + 2).toNatClampNeg) s hI)) ?_)
  rintro _ _ (⟨r, s1, rfl, rfl, H⟩ | ⟨E, c, s1, rfl, rfl, hT, H⟩)
  · show ac_X g i_L_law_ 100 601024 7293034 Q (ce + 2) (sl + 12) 1034 [some (.ref 1000000), some (.ref 0), some (.ref 69), some (.ref 585), some (.int i), none, none, none] [.int 0] (false, 586, SH, s1, (ac_uL τ 585 0 r.toInt64))
    refine ax_istore (pc' := 1036) dL_law__1034 rfl rfl rfl ?_
    refine ax_aload_n (pc' := 1037) dL_law__1036 rfl rfl ?_
    refine ax_aload_n (pc' := 1038) dL_law__1037 rfl rfl ?_
    refine ax_iload (pc' := 1040) dL_law__1038 rfl rfl ?_
    refine ax_iconst (pc' := 1041) (v := (1 : Int32)) dL_law__1040 (by decide) rfl ?_
    refine ax_iadd (pc' := 1042) dL_law__1041 rfl ?_
    refine ax_sld (pc' := 1043) dL_law__1042 hr.1 rfl ?_
    refine ax_aload_n (pc' := 1044) dL_law__1043 rfl rfl ?_
    refine ax_iload (pc' := 1046) dL_law__1044 rfl rfl ?_
    refine ax_iconst (pc' := 1047) (v := (2 : Int32)) dL_law__1046 (by decide) rfl ?_
    refine ax_iadd (pc' := 1048) dL_law__1047 rfl ?_
    refine ax_sld (pc' := 1049) dL_law__1048 hr.2.1 rfl ?_
    refine ax_invVL (pc' := 1052) (ce' := ce + 2) (sl' := sl + 12) (a := 69) (As := [.int (g.2.2.2.2.2.2 (i + 1).toNatClampNeg), .int (g.2.2.2.2.2.2 (i + 2).toNatClampNeg)]) (S := []) (mc2 := 0) (ms2 := 0) (I2 := i_X12_ahead) rfl dL_law__1049 ll_171 sh_69 (by decide) rfl rfl rfl rfl rfl rfl rfl (by omega) (by omega) rfl (ac_M.imp (o_X12_ahead _ (g.2.2.2.2.2.2 (i + 1).toNatClampNeg) (g.2.2.2.2.2.2 (i + 2).toNatClampNeg) H) ?_)
    rintro _ _ ⟨b, s2, rfl, rfl, hb, h0, hI2⟩
    show ac_X g i_L_law_ 100 601024 7293034 Q (ce + 2) (sl + 12) 1052 [some (.ref 1000000), some (.ref 0), some (.ref 69), some (.ref 585), some (.int i), some (.int 0), none, none] [.int b] (false, 586, SH, s2, (ac_uL τ 585 0 r.toInt64))
    refine ax_istore (pc' := 1054) dL_law__1052 rfl rfl rfl ?_
    refine ax_aload_n (pc' := 1055) dL_law__1054 rfl rfl ?_
    refine ax_invVL (pc' := 1058) (ce' := ce + 2) (sl' := sl + 12) (a := 69) (As := []) (S := []) (mc2 := 0) (ms2 := 0) (I2 := i_X12_thrown) rfl dL_law__1055 ll_128 sh_69 (by decide) rfl rfl rfl rfl rfl rfl rfl (by omega) (by omega) rfl (ac_M.imp (o_X12_thrown _ (Q := fun r s => r = s2 69 0 ∧ s = s2) ⟨rfl, rfl⟩) ?_)
    rintro _ _ ⟨z, s3, rfl, rfl, rfl, rfl⟩
    show ac_X g i_L_law_ 100 601024 7293034 Q (ce + 2) (sl + 12) 1058 [some (.ref 1000000), some (.ref 0), some (.ref 69), some (.ref 585), some (.int i), some (.int 0), some (.int b), none] [.int (s3 69 0)] (false, 586, SH, s3, (ac_uL τ 585 0 r.toInt64))
    refine ax_iload (pc' := 1060) dL_law__1058 rfl rfl ?_
    refine ax_icmp_eq (pc' := 1063) (tgt := 1065) dL_law__1060 (by decide) rfl (fun _ => ?_) (fun z => absurd h0 z)
    refine ax_iload (pc' := 1067) dL_law__1065 rfl rfl ?_
    refine ax_if_ne (pc' := 1070) (tgt := 1082) dL_law__1067 (by decide) rfl (fun z => absurd rfl z) (fun _ => ?_)
    refine ax_aload_n (pc' := 1071) dL_law__1070 rfl rfl ?_
    refine ax_iconst (pc' := 1072) (v := (0 : Int32)) dL_law__1071 (by decide) rfl ?_
    refine ax_lald (pc' := 1073) dL_law__1072 sh_585 (ac_in (by decide)) rfl rfl ?_
    refine ax_iload (pc' := 1075) dL_law__1073 rfl rfl ?_
    refine ax_i2l (pc' := 1076) dL_law__1075 rfl ?_
    rw [show ac_uL τ 585 0 r.toInt64 585 (0 : Int32).toNatClampNeg = r.toInt64 from uL_eq, hb]
    refine ax_lcmp (pc' := 1077) dL_law__1076 rfl ?_
    refine ax_if_eq (pc' := 1080) (tgt := 1082) dL_law__1077 (by decide) rfl (fun _ => ?_) (fun z => absurd (lg_cmp_self _) z)
    refine ax_goto (tgt := 2585) dL_law__1082 (by decide) ?_
    refine ax_widen (ce' := ce + 8) (sl' := sl + 48) (by omega) (by omega) (ax_fgt (hN _ _ hI2))
  · show ac_X g i_L_law_ 100 601024 7293034 Q (ce + 2) (sl + 12) 1034 [some (.ref 1000000), some (.ref 0), some (.ref 69), some (.ref 585), some (.int i), none, none, none] [.int c] (false, 586, SH, s1, τ)
    refine ax_istore (pc' := 1036) dL_law__1034 rfl rfl rfl ?_
    refine ax_aload_n (pc' := 1037) dL_law__1036 rfl rfl ?_
    refine ax_aload_n (pc' := 1038) dL_law__1037 rfl rfl ?_
    refine ax_iload (pc' := 1040) dL_law__1038 rfl rfl ?_
    refine ax_iconst (pc' := 1041) (v := (1 : Int32)) dL_law__1040 (by decide) rfl ?_
    refine ax_iadd (pc' := 1042) dL_law__1041 rfl ?_
    refine ax_sld (pc' := 1043) dL_law__1042 hr.1 rfl ?_
    refine ax_aload_n (pc' := 1044) dL_law__1043 rfl rfl ?_
    refine ax_iload (pc' := 1046) dL_law__1044 rfl rfl ?_
    refine ax_iconst (pc' := 1047) (v := (2 : Int32)) dL_law__1046 (by decide) rfl ?_
    refine ax_iadd (pc' := 1048) dL_law__1047 rfl ?_
    refine ax_sld (pc' := 1049) dL_law__1048 hr.2.1 rfl ?_
    refine ax_invVL (pc' := 1052) (ce' := ce + 2) (sl' := sl + 12) (a := 69) (As := [.int (g.2.2.2.2.2.2 (i + 1).toNatClampNeg), .int (g.2.2.2.2.2.2 (i + 2).toNatClampNeg)]) (S := []) (mc2 := 0) (ms2 := 0) (I2 := i_X12_ahead) rfl dL_law__1049 ll_171 sh_69 (by decide) rfl rfl rfl rfl rfl rfl rfl (by omega) (by omega) rfl (ac_M.imp (o_X12_ahead _ (g.2.2.2.2.2.2 (i + 1).toNatClampNeg) (g.2.2.2.2.2.2 (i + 2).toNatClampNeg) H) ?_)
    rintro _ _ ⟨b, s2, rfl, rfl, hT2, hI2⟩
    show ac_X g i_L_law_ 100 601024 7293034 Q (ce + 2) (sl + 12) 1052 [some (.ref 1000000), some (.ref 0), some (.ref 69), some (.ref 585), some (.int i), some (.int c), none, none] [.int b] (false, 586, SH, s2, τ)
    refine ax_istore (pc' := 1054) dL_law__1052 rfl rfl rfl ?_
    refine ax_aload_n (pc' := 1055) dL_law__1054 rfl rfl ?_
    refine ax_invVL (pc' := 1058) (ce' := ce + 2) (sl' := sl + 12) (a := 69) (As := []) (S := []) (mc2 := 0) (ms2 := 0) (I2 := i_X12_thrown) rfl dL_law__1055 ll_128 sh_69 (by decide) rfl rfl rfl rfl rfl rfl rfl (by omega) (by omega) rfl (ac_M.imp (o_X12_thrown _ (Q := fun r s => r = s2 69 0 ∧ s = s2) ⟨rfl, rfl⟩) ?_)
    rintro _ _ ⟨z, s3, rfl, rfl, rfl, rfl⟩
    show ac_X g i_L_law_ 100 601024 7293034 Q (ce + 2) (sl + 12) 1058 [some (.ref 1000000), some (.ref 0), some (.ref 69), some (.ref 585), some (.int i), some (.int c), some (.int b), none] [.int (s3 69 0)] (false, 586, SH, s3, τ)
    refine ax_iload (pc' := 1060) dL_law__1058 rfl rfl ?_
    refine ax_icmp_eq (pc' := 1063) (tgt := 1065) dL_law__1060 (by decide) rfl (fun _ => ?_) (fun z => absurd (thA_c hT2 hT).1 z)
    refine ax_iload (pc' := 1067) dL_law__1065 rfl rfl ?_
    refine ax_if_ne (pc' := 1070) (tgt := 1082) dL_law__1067 (by decide) rfl (fun _ => ?_) (fun z => absurd z (thA_c hT hT).2)
    refine ax_goto (tgt := 2585) dL_law__1082 (by decide) ?_
    refine ax_widen (ce' := ce + 8) (sl' := sl + 48) (by omega) (by omega) (ax_fgt (hN _ _ hI2))
theorem lc_bare {g : ac_G} {Q : ac_O → ac_W → Prop} {ce sl : Nat} {i : Int32} {s : ac_m} {τ : Nat → Nat → Int64} (hce : ce + 8 ≤ 601024) (hsl : sl + 48 ≤ 7293034) (hr : rd g i) (hI : Inv s) (hN : ∀ s' τ', Inv s' → lwX g Q (ce + 8) (sl + 48) 2585 i s' τ') : lwX g Q ce sl 1085 i s τ := by
  refine ax_aload_n (pc' := 1086) dL_law__1085 rfl rfl ?_
  refine ax_aload_n (pc' := 1087) dL_law__1086 rfl rfl ?_
  refine ax_iload (pc' := 1089) dL_law__1087 rfl rfl ?_
  refine ax_iconst (pc' := 1090) (v := (1 : Int32)) dL_law__1089 (by decide) rfl ?_
  refine ax_iadd (pc' := 1091) dL_law__1090 rfl ?_
  refine ax_sld (pc' := 1092) dL_law__1091 hr.1 rfl ?_
  refine ax_aload_n (pc' := 1093) dL_law__1092 rfl rfl ?_
  refine ax_invSH (pc' := 1096) (ce' := ce + 1) (sl' := sl + 6) (As := [.ref 0, .int (g.2.2.2.2.2.2 (i + 1).toNatClampNeg), .ref 585]) (S := []) (mc2 := 1) (ms2 := 6) (I2 := i_L_bare) rfl dL_law__1093 ll_172 rfl (by decide) rfl rfl rfl rfl (by omega) (by omega) rfl (ac_M.imp (o_L_bare _ (g.2.2.2.2.2.2 (i + 1).toNatClampNeg) (s_bare (g.2.2.2.2.2.2 (i + 1).toNatClampNeg) s hI)) ?_)
  rintro _ _ (⟨r, s1, rfl, rfl, H⟩ | ⟨E, c, s1, rfl, rfl, hT, H⟩)
  · show ac_X g i_L_law_ 100 601024 7293034 Q (ce + 1) (sl + 6) 1096 [some (.ref 1000000), some (.ref 0), some (.ref 69), some (.ref 585), some (.int i), none, none, none] [.int 0] (false, 586, SH, s1, (ac_uL τ 585 0 r.toInt64))
    refine ax_istore (pc' := 1098) dL_law__1096 rfl rfl rfl ?_
    refine ax_aload_n (pc' := 1099) dL_law__1098 rfl rfl ?_
    refine ax_aload_n (pc' := 1100) dL_law__1099 rfl rfl ?_
    refine ax_iload (pc' := 1102) dL_law__1100 rfl rfl ?_
    refine ax_iconst (pc' := 1103) (v := (1 : Int32)) dL_law__1102 (by decide) rfl ?_
    refine ax_iadd (pc' := 1104) dL_law__1103 rfl ?_
    refine ax_sld (pc' := 1105) dL_law__1104 hr.1 rfl ?_
    refine ax_invVL (pc' := 1108) (ce' := ce + 1) (sl' := sl + 6) (a := 69) (As := [.int (g.2.2.2.2.2.2 (i + 1).toNatClampNeg)]) (S := []) (mc2 := 0) (ms2 := 0) (I2 := i_X12_bare) rfl dL_law__1105 ll_174 sh_69 (by decide) rfl rfl rfl rfl rfl rfl rfl (by omega) (by omega) rfl (ac_M.imp (o_X12_bare _ (g.2.2.2.2.2.2 (i + 1).toNatClampNeg) H) ?_)
    rintro _ _ ⟨b, s2, rfl, rfl, hb, h0, hI2⟩
    show ac_X g i_L_law_ 100 601024 7293034 Q (ce + 1) (sl + 6) 1108 [some (.ref 1000000), some (.ref 0), some (.ref 69), some (.ref 585), some (.int i), some (.int 0), none, none] [.int b] (false, 586, SH, s2, (ac_uL τ 585 0 r.toInt64))
    refine ax_istore (pc' := 1110) dL_law__1108 rfl rfl rfl ?_
    refine ax_aload_n (pc' := 1111) dL_law__1110 rfl rfl ?_
    refine ax_invVL (pc' := 1114) (ce' := ce + 1) (sl' := sl + 6) (a := 69) (As := []) (S := []) (mc2 := 0) (ms2 := 0) (I2 := i_X12_thrown) rfl dL_law__1111 ll_128 sh_69 (by decide) rfl rfl rfl rfl rfl rfl rfl (by omega) (by omega) rfl (ac_M.imp (o_X12_thrown _ (Q := fun r s => r = s2 69 0 ∧ s = s2) ⟨rfl, rfl⟩) ?_)
    rintro _ _ ⟨z, s3, rfl, rfl, rfl, rfl⟩
    show ac_X g i_L_law_ 100 601024 7293034 Q (ce + 1) (sl + 6) 1114 [some (.ref 1000000), some (.ref 0), some (.ref 69), some (.ref 585), some (.int i), some (.int 0), some (.int b), none] [.int (s3 69 0)] (false, 586, SH, s3, (ac_uL τ 585 0 r.toInt64))
    refine ax_iload (pc' := 1116) dL_law__1114 rfl rfl ?_
    refine ax_icmp_eq (pc' := 1119) (tgt := 1121) dL_law__1116 (by decide) rfl (fun _ => ?_) (fun z => absurd h0 z)
    refine ax_iload (pc' := 1123) dL_law__1121 rfl rfl ?_
    refine ax_if_ne (pc' := 1126) (tgt := 1138) dL_law__1123 (by decide) rfl (fun z => absurd rfl z) (fun _ => ?_)
    refine ax_aload_n (pc' := 1127) dL_law__1126 rfl rfl ?_
    refine ax_iconst (pc' := 1128) (v := (0 : Int32)) dL_law__1127 (by decide) rfl ?_
    refine ax_lald (pc' := 1129) dL_law__1128 sh_585 (ac_in (by decide)) rfl rfl ?_
    refine ax_iload (pc' := 1131) dL_law__1129 rfl rfl ?_
    refine ax_i2l (pc' := 1132) dL_law__1131 rfl ?_
    rw [show ac_uL τ 585 0 r.toInt64 585 (0 : Int32).toNatClampNeg = r.toInt64 from uL_eq, hb]
    refine ax_lcmp (pc' := 1133) dL_law__1132 rfl ?_
    refine ax_if_eq (pc' := 1136) (tgt := 1138) dL_law__1133 (by decide) rfl (fun _ => ?_) (fun z => absurd (lg_cmp_self _) z)
    refine ax_goto (tgt := 2585) dL_law__1138 (by decide) ?_
    refine ax_widen (ce' := ce + 8) (sl' := sl + 48) (by omega) (by omega) (ax_fgt (hN _ _ hI2))
  · show ac_X g i_L_law_ 100 601024 7293034 Q (ce + 1) (sl + 6) 1096 [some (.ref 1000000), some (.ref 0), some (.ref 69), some (.ref 585), some (.int i), none, none, none] [.int c] (false, 586, SH, s1, τ)
    refine ax_istore (pc' := 1098) dL_law__1096 rfl rfl rfl ?_
    refine ax_aload_n (pc' := 1099) dL_law__1098 rfl rfl ?_
    refine ax_aload_n (pc' := 1100) dL_law__1099 rfl rfl ?_
    refine ax_iload (pc' := 1102) dL_law__1100 rfl rfl ?_
    refine ax_iconst (pc' := 1103) (v := (1 : Int32)) dL_law__1102 (by decide) rfl ?_
    refine ax_iadd (pc' := 1104) dL_law__1103 rfl ?_
    refine ax_sld (pc' := 1105) dL_law__1104 hr.1 rfl ?_
    refine ax_invVL (pc' := 1108) (ce' := ce + 1) (sl' := sl + 6) (a := 69) (As := [.int (g.2.2.2.2.2.2 (i + 1).toNatClampNeg)]) (S := []) (mc2 := 0) (ms2 := 0) (I2 := i_X12_bare) rfl dL_law__1105 ll_174 sh_69 (by decide) rfl rfl rfl rfl rfl rfl rfl (by omega) (by omega) rfl (ac_M.imp (o_X12_bare _ (g.2.2.2.2.2.2 (i + 1).toNatClampNeg) H) ?_)
    rintro _ _ ⟨b, s2, rfl, rfl, hT2, hI2⟩
    show ac_X g i_L_law_ 100 601024 7293034 Q (ce + 1) (sl + 6) 1108 [some (.ref 1000000), some (.ref 0), some (.ref 69), some (.ref 585), some (.int i), some (.int c), none, none] [.int b] (false, 586, SH, s2, τ)
    refine ax_istore (pc' := 1110) dL_law__1108 rfl rfl rfl ?_
    refine ax_aload_n (pc' := 1111) dL_law__1110 rfl rfl ?_
    refine ax_invVL (pc' := 1114) (ce' := ce + 1) (sl' := sl + 6) (a := 69) (As := []) (S := []) (mc2 := 0) (ms2 := 0) (I2 := i_X12_thrown) rfl dL_law__1111 ll_128 sh_69 (by decide) rfl rfl rfl rfl rfl rfl rfl (by omega) (by omega) rfl (ac_M.imp (o_X12_thrown _ (Q := fun r s => r = s2 69 0 ∧ s = s2) ⟨rfl, rfl⟩) ?_)
    rintro _ _ ⟨z, s3, rfl, rfl, rfl, rfl⟩
    show ac_X g i_L_law_ 100 601024 7293034 Q (ce + 1) (sl + 6) 1114 [some (.ref 1000000), some (.ref 0), some (.ref 69), some (.ref 585), some (.int i), some (.int c), some (.int b), none] [.int (s3 69 0)] (false, 586, SH, s3, τ)
    refine ax_iload (pc' := 1116) dL_law__1114 rfl rfl ?_
    refine ax_icmp_eq (pc' := 1119) (tgt := 1121) dL_law__1116 (by decide) rfl (fun _ => ?_) (fun z => absurd (thN_c hT2 hT).1 z)
    refine ax_iload (pc' := 1123) dL_law__1121 rfl rfl ?_
    refine ax_if_ne (pc' := 1126) (tgt := 1138) dL_law__1123 (by decide) rfl (fun _ => ?_) (fun z => absurd z (thN_c hT hT).2)
    refine ax_goto (tgt := 2585) dL_law__1138 (by decide) ?_
    refine ax_widen (ce' := ce + 8) (sl' := sl + 48) (by omega) (by omega) (ax_fgt (hN _ _ hI2))
theorem lc_cancel {g : ac_G} {Q : ac_O → ac_W → Prop} {ce sl : Nat} {i : Int32} {s : ac_m} {τ : Nat → Nat → Int64} (hce : ce + 8 ≤ 601024) (hsl : sl + 48 ≤ 7293034) (hr : rd g i) (hI : Inv s) (hN : ∀ s' τ', Inv s' → lwX g Q (ce + 8) (sl + 48) 2585 i s' τ') : lwX g Q ce sl 1141 i s τ := by
  refine ax_aload_n (pc' := 1142) dL_law__1141 rfl rfl ?_
  refine ax_invVL (pc' := 1145) (ce' := ce + 0) (sl' := sl + 0) (a := 0) (As := []) (S := []) (mc2 := 0) (ms2 := 0) (I2 := i_X11_cancel) rfl dL_law__1142 ll_175 sh_0 (by decide) rfl rfl rfl rfl rfl rfl rfl (by omega) (by omega) rfl (ac_M.imp (o_X11_cancel _  (s_cancel  s hI)) ?_)
  rintro _ _ ⟨r, s1, rfl, rfl, H⟩
  show ac_X g i_L_law_ 100 601024 7293034 Q (ce + 0) (sl + 0) 1145 [some (.ref 1000000), some (.ref 0), some (.ref 69), some (.ref 585), some (.int i), none, none, none] [.int r] (false, 586, SH, s1, τ)
  refine ax_aload_n (pc' := 1146) dL_law__1145 rfl rfl ?_
  refine ax_invVL (pc' := 1149) (ce' := ce + 0) (sl' := sl + 0) (a := 69) (As := []) (S := [.int r]) (mc2 := 0) (ms2 := 0) (I2 := i_X12_cancel) rfl dL_law__1146 ll_178 sh_69 (by decide) rfl rfl rfl rfl rfl rfl rfl (by omega) (by omega) rfl (ac_M.imp (o_X12_cancel _  H) ?_)
  rintro _ _ ⟨b, s2, rfl, rfl, hb, h0, hI2⟩
  show ac_X g i_L_law_ 100 601024 7293034 Q (ce + 0) (sl + 0) 1149 [some (.ref 1000000), some (.ref 0), some (.ref 69), some (.ref 585), some (.int i), none, none, none] [.int b, .int r] (false, 586, SH, s2, τ)
  refine ax_icmp_eq (pc' := 1152) (tgt := 2585) dL_law__1149 (by decide) rfl (fun _ => ?_) (fun z => absurd hb z)
  exact ax_widen (ce' := ce + 8) (sl' := sl + 48) (by omega) (by omega) (hN _ _ hI2)
theorem lc_herd {g : ac_G} {Q : ac_O → ac_W → Prop} {ce sl : Nat} {i : Int32} {s : ac_m} {τ : Nat → Nat → Int64} (hce : ce + 8 ≤ 601024) (hsl : sl + 48 ≤ 7293034) (hr : rd g i) (hI : Inv s) (hN : ∀ s' τ', Inv s' → lwX g Q (ce + 8) (sl + 48) 2585 i s' τ') : lwX g Q ce sl 1154 i s τ := by
  refine ax_aload_n (pc' := 1155) dL_law__1154 rfl rfl ?_
  refine ax_aload_n (pc' := 1156) dL_law__1155 rfl rfl ?_
  refine ax_iload (pc' := 1158) dL_law__1156 rfl rfl ?_
  refine ax_iconst (pc' := 1159) (v := (1 : Int32)) dL_law__1158 (by decide) rfl ?_
  refine ax_iadd (pc' := 1160) dL_law__1159 rfl ?_
  refine ax_sld (pc' := 1161) dL_law__1160 hr.1 rfl ?_
  refine ax_aload_n (pc' := 1162) dL_law__1161 rfl rfl ?_
  refine ax_iload (pc' := 1164) dL_law__1162 rfl rfl ?_
  refine ax_iconst (pc' := 1165) (v := (2 : Int32)) dL_law__1164 (by decide) rfl ?_
  refine ax_iadd (pc' := 1166) dL_law__1165 rfl ?_
  refine ax_sld (pc' := 1167) dL_law__1166 hr.2.1 rfl ?_
  refine ax_aload_n (pc' := 1168) dL_law__1167 rfl rfl ?_
  refine ax_invSH (pc' := 1171) (ce' := ce + 2) (sl' := sl + 12) (As := [.ref 0, .int (g.2.2.2.2.2.2 (i + 1).toNatClampNeg), .int (g.2.2.2.2.2.2 (i + 2).toNatClampNeg), .ref 585]) (S := []) (mc2 := 2) (ms2 := 12) (I2 := i_L_herd) rfl dL_law__1168 ll_179 rfl (by decide) rfl rfl rfl rfl (by omega) (by omega) rfl (ac_M.imp (o_L_herd _ (g.2.2.2.2.2.2 (i + 1).toNatClampNeg) (g.2.2.2.2.2.2 (i + 2).toNatClampNeg) (s_herd (g.2.2.2.2.2.2 (i + 1).toNatClampNeg) (g.2.2.2.2.2.2 (i + 2).toNatClampNeg) s hI)) ?_)
  rintro _ _ (⟨r, s1, rfl, rfl, H⟩ | ⟨E, c, s1, rfl, rfl, hT, H⟩)
  · show ac_X g i_L_law_ 100 601024 7293034 Q (ce + 2) (sl + 12) 1171 [some (.ref 1000000), some (.ref 0), some (.ref 69), some (.ref 585), some (.int i), none, none, none] [.int 0] (false, 586, SH, s1, (ac_uL τ 585 0 r.toInt64))
    refine ax_istore (pc' := 1173) dL_law__1171 rfl rfl rfl ?_
    refine ax_aload_n (pc' := 1174) dL_law__1173 rfl rfl ?_
    refine ax_aload_n (pc' := 1175) dL_law__1174 rfl rfl ?_
    refine ax_iload (pc' := 1177) dL_law__1175 rfl rfl ?_
    refine ax_iconst (pc' := 1178) (v := (1 : Int32)) dL_law__1177 (by decide) rfl ?_
    refine ax_iadd (pc' := 1179) dL_law__1178 rfl ?_
    refine ax_sld (pc' := 1180) dL_law__1179 hr.1 rfl ?_
    refine ax_aload_n (pc' := 1181) dL_law__1180 rfl rfl ?_
    refine ax_iload (pc' := 1183) dL_law__1181 rfl rfl ?_
    refine ax_iconst (pc' := 1184) (v := (2 : Int32)) dL_law__1183 (by decide) rfl ?_
    refine ax_iadd (pc' := 1185) dL_law__1184 rfl ?_
    refine ax_sld (pc' := 1186) dL_law__1185 hr.2.1 rfl ?_
    refine ax_invVL (pc' := 1189) (ce' := ce + 2) (sl' := sl + 12) (a := 69) (As := [.int (g.2.2.2.2.2.2 (i + 1).toNatClampNeg), .int (g.2.2.2.2.2.2 (i + 2).toNatClampNeg)]) (S := []) (mc2 := 0) (ms2 := 0) (I2 := i_X12_herd) rfl dL_law__1186 ll_181 sh_69 (by decide) rfl rfl rfl rfl rfl rfl rfl (by omega) (by omega) rfl (ac_M.imp (o_X12_herd _ (g.2.2.2.2.2.2 (i + 1).toNatClampNeg) (g.2.2.2.2.2.2 (i + 2).toNatClampNeg) H) ?_)
    rintro _ _ ⟨b, s2, rfl, rfl, hb, h0, hI2⟩
    show ac_X g i_L_law_ 100 601024 7293034 Q (ce + 2) (sl + 12) 1189 [some (.ref 1000000), some (.ref 0), some (.ref 69), some (.ref 585), some (.int i), some (.int 0), none, none] [.int b] (false, 586, SH, s2, (ac_uL τ 585 0 r.toInt64))
    refine ax_istore (pc' := 1191) dL_law__1189 rfl rfl rfl ?_
    refine ax_aload_n (pc' := 1192) dL_law__1191 rfl rfl ?_
    refine ax_invVL (pc' := 1195) (ce' := ce + 2) (sl' := sl + 12) (a := 69) (As := []) (S := []) (mc2 := 0) (ms2 := 0) (I2 := i_X12_thrown) rfl dL_law__1192 ll_128 sh_69 (by decide) rfl rfl rfl rfl rfl rfl rfl (by omega) (by omega) rfl (ac_M.imp (o_X12_thrown _ (Q := fun r s => r = s2 69 0 ∧ s = s2) ⟨rfl, rfl⟩) ?_)
    rintro _ _ ⟨z, s3, rfl, rfl, rfl, rfl⟩
    show ac_X g i_L_law_ 100 601024 7293034 Q (ce + 2) (sl + 12) 1195 [some (.ref 1000000), some (.ref 0), some (.ref 69), some (.ref 585), some (.int i), some (.int 0), some (.int b), none] [.int (s3 69 0)] (false, 586, SH, s3, (ac_uL τ 585 0 r.toInt64))
    refine ax_iload (pc' := 1197) dL_law__1195 rfl rfl ?_
    refine ax_icmp_eq (pc' := 1200) (tgt := 1202) dL_law__1197 (by decide) rfl (fun _ => ?_) (fun z => absurd h0 z)
    refine ax_iload (pc' := 1204) dL_law__1202 rfl rfl ?_
    refine ax_if_ne (pc' := 1207) (tgt := 1219) dL_law__1204 (by decide) rfl (fun z => absurd rfl z) (fun _ => ?_)
    refine ax_aload_n (pc' := 1208) dL_law__1207 rfl rfl ?_
    refine ax_iconst (pc' := 1209) (v := (0 : Int32)) dL_law__1208 (by decide) rfl ?_
    refine ax_lald (pc' := 1210) dL_law__1209 sh_585 (ac_in (by decide)) rfl rfl ?_
    refine ax_iload (pc' := 1212) dL_law__1210 rfl rfl ?_
    refine ax_i2l (pc' := 1213) dL_law__1212 rfl ?_
    rw [show ac_uL τ 585 0 r.toInt64 585 (0 : Int32).toNatClampNeg = r.toInt64 from uL_eq, hb]
    refine ax_lcmp (pc' := 1214) dL_law__1213 rfl ?_
    refine ax_if_eq (pc' := 1217) (tgt := 1219) dL_law__1214 (by decide) rfl (fun _ => ?_) (fun z => absurd (lg_cmp_self _) z)
    refine ax_goto (tgt := 2585) dL_law__1219 (by decide) ?_
    refine ax_widen (ce' := ce + 8) (sl' := sl + 48) (by omega) (by omega) (ax_fgt (hN _ _ hI2))
  · show ac_X g i_L_law_ 100 601024 7293034 Q (ce + 2) (sl + 12) 1171 [some (.ref 1000000), some (.ref 0), some (.ref 69), some (.ref 585), some (.int i), none, none, none] [.int c] (false, 586, SH, s1, τ)
    refine ax_istore (pc' := 1173) dL_law__1171 rfl rfl rfl ?_
    refine ax_aload_n (pc' := 1174) dL_law__1173 rfl rfl ?_
    refine ax_aload_n (pc' := 1175) dL_law__1174 rfl rfl ?_
    refine ax_iload (pc' := 1177) dL_law__1175 rfl rfl ?_
    refine ax_iconst (pc' := 1178) (v := (1 : Int32)) dL_law__1177 (by decide) rfl ?_
    refine ax_iadd (pc' := 1179) dL_law__1178 rfl ?_
    refine ax_sld (pc' := 1180) dL_law__1179 hr.1 rfl ?_
    refine ax_aload_n (pc' := 1181) dL_law__1180 rfl rfl ?_
    refine ax_iload (pc' := 1183) dL_law__1181 rfl rfl ?_
    refine ax_iconst (pc' := 1184) (v := (2 : Int32)) dL_law__1183 (by decide) rfl ?_
    refine ax_iadd (pc' := 1185) dL_law__1184 rfl ?_
    refine ax_sld (pc' := 1186) dL_law__1185 hr.2.1 rfl ?_
    refine ax_invVL (pc' := 1189) (ce' := ce + 2) (sl' := sl + 12) (a := 69) (As := [.int (g.2.2.2.2.2.2 (i + 1).toNatClampNeg), .int (g.2.2.2.2.2.2 (i + 2).toNatClampNeg)]) (S := []) (mc2 := 0) (ms2 := 0) (I2 := i_X12_herd) rfl dL_law__1186 ll_181 sh_69 (by decide) rfl rfl rfl rfl rfl rfl rfl (by omega) (by omega) rfl (ac_M.imp (o_X12_herd _ (g.2.2.2.2.2.2 (i + 1).toNatClampNeg) (g.2.2.2.2.2.2 (i + 2).toNatClampNeg) H) ?_)
    rintro _ _ ⟨b, s2, rfl, rfl, hT2, hI2⟩
    show ac_X g i_L_law_ 100 601024 7293034 Q (ce + 2) (sl + 12) 1189 [some (.ref 1000000), some (.ref 0), some (.ref 69), some (.ref 585), some (.int i), some (.int c), none, none] [.int b] (false, 586, SH, s2, τ)
    refine ax_istore (pc' := 1191) dL_law__1189 rfl rfl rfl ?_
    refine ax_aload_n (pc' := 1192) dL_law__1191 rfl rfl ?_
    refine ax_invVL (pc' := 1195) (ce' := ce + 2) (sl' := sl + 12) (a := 69) (As := []) (S := []) (mc2 := 0) (ms2 := 0) (I2 := i_X12_thrown) rfl dL_law__1192 ll_128 sh_69 (by decide) rfl rfl rfl rfl rfl rfl rfl (by omega) (by omega) rfl (ac_M.imp (o_X12_thrown _ (Q := fun r s => r = s2 69 0 ∧ s = s2) ⟨rfl, rfl⟩) ?_)
    rintro _ _ ⟨z, s3, rfl, rfl, rfl, rfl⟩
    show ac_X g i_L_law_ 100 601024 7293034 Q (ce + 2) (sl + 12) 1195 [some (.ref 1000000), some (.ref 0), some (.ref 69), some (.ref 585), some (.int i), some (.int c), some (.int b), none] [.int (s3 69 0)] (false, 586, SH, s3, τ)
    refine ax_iload (pc' := 1197) dL_law__1195 rfl rfl ?_
    refine ax_icmp_eq (pc' := 1200) (tgt := 1202) dL_law__1197 (by decide) rfl (fun _ => ?_) (fun z => absurd (thB_c hT2 hT).1 z)
    refine ax_iload (pc' := 1204) dL_law__1202 rfl rfl ?_
    refine ax_if_ne (pc' := 1207) (tgt := 1219) dL_law__1204 (by decide) rfl (fun _ => ?_) (fun z => absurd z (thB_c hT hT).2)
    refine ax_goto (tgt := 2585) dL_law__1219 (by decide) ?_
    refine ax_widen (ce' := ce + 8) (sl' := sl + 48) (by omega) (by omega) (ax_fgt (hN _ _ hI2))
theorem lc_paid {g : ac_G} {Q : ac_O → ac_W → Prop} {ce sl : Nat} {i : Int32} {s : ac_m} {τ : Nat → Nat → Int64} (hce : ce + 8 ≤ 601024) (hsl : sl + 48 ≤ 7293034) (hr : rd g i) (hI : Inv s) (hN : ∀ s' τ', Inv s' → lwX g Q (ce + 8) (sl + 48) 2585 i s' τ') : lwX g Q ce sl 1222 i s τ := by
  refine ax_aload_n (pc' := 1223) dL_law__1222 rfl rfl ?_
  refine ax_aload_n (pc' := 1224) dL_law__1223 rfl rfl ?_
  refine ax_iload (pc' := 1226) dL_law__1224 rfl rfl ?_
  refine ax_iconst (pc' := 1227) (v := (1 : Int32)) dL_law__1226 (by decide) rfl ?_
  refine ax_iadd (pc' := 1228) dL_law__1227 rfl ?_
  refine ax_sld (pc' := 1229) dL_law__1228 hr.1 rfl ?_
  refine ax_aload_n (pc' := 1230) dL_law__1229 rfl rfl ?_
  refine ax_iload (pc' := 1232) dL_law__1230 rfl rfl ?_
  refine ax_iconst (pc' := 1233) (v := (2 : Int32)) dL_law__1232 (by decide) rfl ?_
  refine ax_iadd (pc' := 1234) dL_law__1233 rfl ?_
  refine ax_sld (pc' := 1235) dL_law__1234 hr.2.1 rfl ?_
  refine ax_aload_n (pc' := 1236) dL_law__1235 rfl rfl ?_
  refine ax_invSH (pc' := 1239) (ce' := ce + 2) (sl' := sl + 12) (As := [.ref 0, .int (g.2.2.2.2.2.2 (i + 1).toNatClampNeg), .int (g.2.2.2.2.2.2 (i + 2).toNatClampNeg), .ref 585]) (S := []) (mc2 := 2) (ms2 := 12) (I2 := i_L_paid) rfl dL_law__1236 ll_182 rfl (by decide) rfl rfl rfl rfl (by omega) (by omega) rfl (ac_M.imp (o_L_paid _ (g.2.2.2.2.2.2 (i + 1).toNatClampNeg) (g.2.2.2.2.2.2 (i + 2).toNatClampNeg) (s_paid (g.2.2.2.2.2.2 (i + 1).toNatClampNeg) (g.2.2.2.2.2.2 (i + 2).toNatClampNeg) s hI)) ?_)
  rintro _ _ (⟨r, s1, rfl, rfl, H⟩ | ⟨E, c, s1, rfl, rfl, hT, H⟩)
  · show ac_X g i_L_law_ 100 601024 7293034 Q (ce + 2) (sl + 12) 1239 [some (.ref 1000000), some (.ref 0), some (.ref 69), some (.ref 585), some (.int i), none, none, none] [.int 0] (false, 586, SH, s1, (ac_uL τ 585 0 r.toInt64))
    refine ax_istore (pc' := 1241) dL_law__1239 rfl rfl rfl ?_
    refine ax_aload_n (pc' := 1242) dL_law__1241 rfl rfl ?_
    refine ax_aload_n (pc' := 1243) dL_law__1242 rfl rfl ?_
    refine ax_iload (pc' := 1245) dL_law__1243 rfl rfl ?_
    refine ax_iconst (pc' := 1246) (v := (1 : Int32)) dL_law__1245 (by decide) rfl ?_
    refine ax_iadd (pc' := 1247) dL_law__1246 rfl ?_
    refine ax_sld (pc' := 1248) dL_law__1247 hr.1 rfl ?_
    refine ax_aload_n (pc' := 1249) dL_law__1248 rfl rfl ?_
    refine ax_iload (pc' := 1251) dL_law__1249 rfl rfl ?_
    refine ax_iconst (pc' := 1252) (v := (2 : Int32)) dL_law__1251 (by decide) rfl ?_
    refine ax_iadd (pc' := 1253) dL_law__1252 rfl ?_
    refine ax_sld (pc' := 1254) dL_law__1253 hr.2.1 rfl ?_
    refine ax_invVL (pc' := 1257) (ce' := ce + 2) (sl' := sl + 12) (a := 69) (As := [.int (g.2.2.2.2.2.2 (i + 1).toNatClampNeg), .int (g.2.2.2.2.2.2 (i + 2).toNatClampNeg)]) (S := []) (mc2 := 0) (ms2 := 0) (I2 := i_X12_paid) rfl dL_law__1254 ll_184 sh_69 (by decide) rfl rfl rfl rfl rfl rfl rfl (by omega) (by omega) rfl (ac_M.imp (o_X12_paid _ (g.2.2.2.2.2.2 (i + 1).toNatClampNeg) (g.2.2.2.2.2.2 (i + 2).toNatClampNeg) H) ?_)
    rintro _ _ ⟨b, s2, rfl, rfl, hb, h0, hI2⟩
    show ac_X g i_L_law_ 100 601024 7293034 Q (ce + 2) (sl + 12) 1257 [some (.ref 1000000), some (.ref 0), some (.ref 69), some (.ref 585), some (.int i), some (.int 0), none, none] [.int b] (false, 586, SH, s2, (ac_uL τ 585 0 r.toInt64))
    refine ax_istore (pc' := 1259) dL_law__1257 rfl rfl rfl ?_
    refine ax_aload_n (pc' := 1260) dL_law__1259 rfl rfl ?_
    refine ax_invVL (pc' := 1263) (ce' := ce + 2) (sl' := sl + 12) (a := 69) (As := []) (S := []) (mc2 := 0) (ms2 := 0) (I2 := i_X12_thrown) rfl dL_law__1260 ll_128 sh_69 (by decide) rfl rfl rfl rfl rfl rfl rfl (by omega) (by omega) rfl (ac_M.imp (o_X12_thrown _ (Q := fun r s => r = s2 69 0 ∧ s = s2) ⟨rfl, rfl⟩) ?_)
    rintro _ _ ⟨z, s3, rfl, rfl, rfl, rfl⟩
    show ac_X g i_L_law_ 100 601024 7293034 Q (ce + 2) (sl + 12) 1263 [some (.ref 1000000), some (.ref 0), some (.ref 69), some (.ref 585), some (.int i), some (.int 0), some (.int b), none] [.int (s3 69 0)] (false, 586, SH, s3, (ac_uL τ 585 0 r.toInt64))
    refine ax_iload (pc' := 1265) dL_law__1263 rfl rfl ?_
    refine ax_icmp_eq (pc' := 1268) (tgt := 1270) dL_law__1265 (by decide) rfl (fun _ => ?_) (fun z => absurd h0 z)
    refine ax_iload (pc' := 1272) dL_law__1270 rfl rfl ?_
    refine ax_if_ne (pc' := 1275) (tgt := 1287) dL_law__1272 (by decide) rfl (fun z => absurd rfl z) (fun _ => ?_)
    refine ax_aload_n (pc' := 1276) dL_law__1275 rfl rfl ?_
    refine ax_iconst (pc' := 1277) (v := (0 : Int32)) dL_law__1276 (by decide) rfl ?_
    refine ax_lald (pc' := 1278) dL_law__1277 sh_585 (ac_in (by decide)) rfl rfl ?_
    refine ax_iload (pc' := 1280) dL_law__1278 rfl rfl ?_
    refine ax_i2l (pc' := 1281) dL_law__1280 rfl ?_
    rw [show ac_uL τ 585 0 r.toInt64 585 (0 : Int32).toNatClampNeg = r.toInt64 from uL_eq, hb]
    refine ax_lcmp (pc' := 1282) dL_law__1281 rfl ?_
    refine ax_if_eq (pc' := 1285) (tgt := 1287) dL_law__1282 (by decide) rfl (fun _ => ?_) (fun z => absurd (lg_cmp_self _) z)
    refine ax_goto (tgt := 2585) dL_law__1287 (by decide) ?_
    refine ax_widen (ce' := ce + 8) (sl' := sl + 48) (by omega) (by omega) (ax_fgt (hN _ _ hI2))
  · show ac_X g i_L_law_ 100 601024 7293034 Q (ce + 2) (sl + 12) 1239 [some (.ref 1000000), some (.ref 0), some (.ref 69), some (.ref 585), some (.int i), none, none, none] [.int c] (false, 586, SH, s1, τ)
    refine ax_istore (pc' := 1241) dL_law__1239 rfl rfl rfl ?_
    refine ax_aload_n (pc' := 1242) dL_law__1241 rfl rfl ?_
    refine ax_aload_n (pc' := 1243) dL_law__1242 rfl rfl ?_
    refine ax_iload (pc' := 1245) dL_law__1243 rfl rfl ?_
    refine ax_iconst (pc' := 1246) (v := (1 : Int32)) dL_law__1245 (by decide) rfl ?_
    refine ax_iadd (pc' := 1247) dL_law__1246 rfl ?_
    refine ax_sld (pc' := 1248) dL_law__1247 hr.1 rfl ?_
    refine ax_aload_n (pc' := 1249) dL_law__1248 rfl rfl ?_
    refine ax_iload (pc' := 1251) dL_law__1249 rfl rfl ?_
    refine ax_iconst (pc' := 1252) (v := (2 : Int32)) dL_law__1251 (by decide) rfl ?_
    refine ax_iadd (pc' := 1253) dL_law__1252 rfl ?_
    refine ax_sld (pc' := 1254) dL_law__1253 hr.2.1 rfl ?_
    refine ax_invVL (pc' := 1257) (ce' := ce + 2) (sl' := sl + 12) (a := 69) (As := [.int (g.2.2.2.2.2.2 (i + 1).toNatClampNeg), .int (g.2.2.2.2.2.2 (i + 2).toNatClampNeg)]) (S := []) (mc2 := 0) (ms2 := 0) (I2 := i_X12_paid) rfl dL_law__1254 ll_184 sh_69 (by decide) rfl rfl rfl rfl rfl rfl rfl (by omega) (by omega) rfl (ac_M.imp (o_X12_paid _ (g.2.2.2.2.2.2 (i + 1).toNatClampNeg) (g.2.2.2.2.2.2 (i + 2).toNatClampNeg) H) ?_)
    rintro _ _ ⟨b, s2, rfl, rfl, hT2, hI2⟩
    show ac_X g i_L_law_ 100 601024 7293034 Q (ce + 2) (sl + 12) 1257 [some (.ref 1000000), some (.ref 0), some (.ref 69), some (.ref 585), some (.int i), some (.int c), none, none] [.int b] (false, 586, SH, s2, τ)
    refine ax_istore (pc' := 1259) dL_law__1257 rfl rfl rfl ?_
    refine ax_aload_n (pc' := 1260) dL_law__1259 rfl rfl ?_
    refine ax_invVL (pc' := 1263) (ce' := ce + 2) (sl' := sl + 12) (a := 69) (As := []) (S := []) (mc2 := 0) (ms2 := 0) (I2 := i_X12_thrown) rfl dL_law__1260 ll_128 sh_69 (by decide) rfl rfl rfl rfl rfl rfl rfl (by omega) (by omega) rfl (ac_M.imp (o_X12_thrown _ (Q := fun r s => r = s2 69 0 ∧ s = s2) ⟨rfl, rfl⟩) ?_)
    rintro _ _ ⟨z, s3, rfl, rfl, rfl, rfl⟩
    show ac_X g i_L_law_ 100 601024 7293034 Q (ce + 2) (sl + 12) 1263 [some (.ref 1000000), some (.ref 0), some (.ref 69), some (.ref 585), some (.int i), some (.int c), some (.int b), none] [.int (s3 69 0)] (false, 586, SH, s3, τ)
    refine ax_iload (pc' := 1265) dL_law__1263 rfl rfl ?_
    refine ax_icmp_eq (pc' := 1268) (tgt := 1270) dL_law__1265 (by decide) rfl (fun _ => ?_) (fun z => absurd (thB_c hT2 hT).1 z)
    refine ax_iload (pc' := 1272) dL_law__1270 rfl rfl ?_
    refine ax_if_ne (pc' := 1275) (tgt := 1287) dL_law__1272 (by decide) rfl (fun _ => ?_) (fun z => absurd z (thB_c hT hT).2)
    refine ax_goto (tgt := 2585) dL_law__1287 (by decide) ?_
    refine ax_widen (ce' := ce + 8) (sl' := sl + 48) (by omega) (by omega) (ax_fgt (hN _ _ hI2))
theorem lc_unseen {g : ac_G} {Q : ac_O → ac_W → Prop} {ce sl : Nat} {i : Int32} {s : ac_m} {τ : Nat → Nat → Int64} (hce : ce + 8 ≤ 601024) (hsl : sl + 48 ≤ 7293034) (hr : rd g i) (hI : Inv s) (hN : ∀ s' τ', Inv s' → lwX g Q (ce + 8) (sl + 48) 2585 i s' τ') : lwX g Q ce sl 1290 i s τ := by
  refine ax_aload_n (pc' := 1291) dL_law__1290 rfl rfl ?_
  refine ax_aload_n (pc' := 1292) dL_law__1291 rfl rfl ?_
  refine ax_iload (pc' := 1294) dL_law__1292 rfl rfl ?_
  refine ax_iconst (pc' := 1295) (v := (1 : Int32)) dL_law__1294 (by decide) rfl ?_
  refine ax_iadd (pc' := 1296) dL_law__1295 rfl ?_
  refine ax_sld (pc' := 1297) dL_law__1296 hr.1 rfl ?_
  refine ax_aload_n (pc' := 1298) dL_law__1297 rfl rfl ?_
  refine ax_iload (pc' := 1300) dL_law__1298 rfl rfl ?_
  refine ax_iconst (pc' := 1301) (v := (2 : Int32)) dL_law__1300 (by decide) rfl ?_
  refine ax_iadd (pc' := 1302) dL_law__1301 rfl ?_
  refine ax_sld (pc' := 1303) dL_law__1302 hr.2.1 rfl ?_
  refine ax_aload_n (pc' := 1304) dL_law__1303 rfl rfl ?_
  refine ax_invSH (pc' := 1307) (ce' := ce + 2) (sl' := sl + 12) (As := [.ref 0, .int (g.2.2.2.2.2.2 (i + 1).toNatClampNeg), .int (g.2.2.2.2.2.2 (i + 2).toNatClampNeg), .ref 585]) (S := []) (mc2 := 2) (ms2 := 12) (I2 := i_L_unseen) rfl dL_law__1304 ll_185 rfl (by decide) rfl rfl rfl rfl (by omega) (by omega) rfl (ac_M.imp (o_L_unseen _ (g.2.2.2.2.2.2 (i + 1).toNatClampNeg) (g.2.2.2.2.2.2 (i + 2).toNatClampNeg) (s_unseen (g.2.2.2.2.2.2 (i + 1).toNatClampNeg) (g.2.2.2.2.2.2 (i + 2).toNatClampNeg) s hI)) ?_)
  rintro _ _ (⟨r, s1, rfl, rfl, H⟩ | ⟨E, c, s1, rfl, rfl, hT, H⟩)
  · show ac_X g i_L_law_ 100 601024 7293034 Q (ce + 2) (sl + 12) 1307 [some (.ref 1000000), some (.ref 0), some (.ref 69), some (.ref 585), some (.int i), none, none, none] [.int 0] (false, 586, SH, s1, (ac_uL τ 585 0 r.toInt64))
    refine ax_istore (pc' := 1309) dL_law__1307 rfl rfl rfl ?_
    refine ax_aload_n (pc' := 1310) dL_law__1309 rfl rfl ?_
    refine ax_aload_n (pc' := 1311) dL_law__1310 rfl rfl ?_
    refine ax_iload (pc' := 1313) dL_law__1311 rfl rfl ?_
    refine ax_iconst (pc' := 1314) (v := (1 : Int32)) dL_law__1313 (by decide) rfl ?_
    refine ax_iadd (pc' := 1315) dL_law__1314 rfl ?_
    refine ax_sld (pc' := 1316) dL_law__1315 hr.1 rfl ?_
    refine ax_aload_n (pc' := 1317) dL_law__1316 rfl rfl ?_
    refine ax_iload (pc' := 1319) dL_law__1317 rfl rfl ?_
    refine ax_iconst (pc' := 1320) (v := (2 : Int32)) dL_law__1319 (by decide) rfl ?_
    refine ax_iadd (pc' := 1321) dL_law__1320 rfl ?_
    refine ax_sld (pc' := 1322) dL_law__1321 hr.2.1 rfl ?_
    refine ax_invVL (pc' := 1325) (ce' := ce + 2) (sl' := sl + 12) (a := 69) (As := [.int (g.2.2.2.2.2.2 (i + 1).toNatClampNeg), .int (g.2.2.2.2.2.2 (i + 2).toNatClampNeg)]) (S := []) (mc2 := 0) (ms2 := 0) (I2 := i_X12_unseen) rfl dL_law__1322 ll_187 sh_69 (by decide) rfl rfl rfl rfl rfl rfl rfl (by omega) (by omega) rfl (ac_M.imp (o_X12_unseen _ (g.2.2.2.2.2.2 (i + 1).toNatClampNeg) (g.2.2.2.2.2.2 (i + 2).toNatClampNeg) H) ?_)
    rintro _ _ ⟨b, s2, rfl, rfl, hb, h0, hI2⟩
    show ac_X g i_L_law_ 100 601024 7293034 Q (ce + 2) (sl + 12) 1325 [some (.ref 1000000), some (.ref 0), some (.ref 69), some (.ref 585), some (.int i), some (.int 0), none, none] [.int b] (false, 586, SH, s2, (ac_uL τ 585 0 r.toInt64))
    refine ax_istore (pc' := 1327) dL_law__1325 rfl rfl rfl ?_
    refine ax_aload_n (pc' := 1328) dL_law__1327 rfl rfl ?_
    refine ax_invVL (pc' := 1331) (ce' := ce + 2) (sl' := sl + 12) (a := 69) (As := []) (S := []) (mc2 := 0) (ms2 := 0) (I2 := i_X12_thrown) rfl dL_law__1328 ll_128 sh_69 (by decide) rfl rfl rfl rfl rfl rfl rfl (by omega) (by omega) rfl (ac_M.imp (o_X12_thrown _ (Q := fun r s => r = s2 69 0 ∧ s = s2) ⟨rfl, rfl⟩) ?_)
    rintro _ _ ⟨z, s3, rfl, rfl, rfl, rfl⟩
    show ac_X g i_L_law_ 100 601024 7293034 Q (ce + 2) (sl + 12) 1331 [some (.ref 1000000), some (.ref 0), some (.ref 69), some (.ref 585), some (.int i), some (.int 0), some (.int b), none] [.int (s3 69 0)] (false, 586, SH, s3, (ac_uL τ 585 0 r.toInt64))
    refine ax_iload (pc' := 1333) dL_law__1331 rfl rfl ?_
    refine ax_icmp_eq (pc' := 1336) (tgt := 1338) dL_law__1333 (by decide) rfl (fun _ => ?_) (fun z => absurd h0 z)
    refine ax_iload (pc' := 1340) dL_law__1338 rfl rfl ?_
    refine ax_if_ne (pc' := 1343) (tgt := 1355) dL_law__1340 (by decide) rfl (fun z => absurd rfl z) (fun _ => ?_)
    refine ax_aload_n (pc' := 1344) dL_law__1343 rfl rfl ?_
    refine ax_iconst (pc' := 1345) (v := (0 : Int32)) dL_law__1344 (by decide) rfl ?_
    refine ax_lald (pc' := 1346) dL_law__1345 sh_585 (ac_in (by decide)) rfl rfl ?_
    refine ax_iload (pc' := 1348) dL_law__1346 rfl rfl ?_
    refine ax_i2l (pc' := 1349) dL_law__1348 rfl ?_
    rw [show ac_uL τ 585 0 r.toInt64 585 (0 : Int32).toNatClampNeg = r.toInt64 from uL_eq, hb]
    refine ax_lcmp (pc' := 1350) dL_law__1349 rfl ?_
    refine ax_if_eq (pc' := 1353) (tgt := 1355) dL_law__1350 (by decide) rfl (fun _ => ?_) (fun z => absurd (lg_cmp_self _) z)
    refine ax_goto (tgt := 2585) dL_law__1355 (by decide) ?_
    refine ax_widen (ce' := ce + 8) (sl' := sl + 48) (by omega) (by omega) (ax_fgt (hN _ _ hI2))
  · show ac_X g i_L_law_ 100 601024 7293034 Q (ce + 2) (sl + 12) 1307 [some (.ref 1000000), some (.ref 0), some (.ref 69), some (.ref 585), some (.int i), none, none, none] [.int c] (false, 586, SH, s1, τ)
    refine ax_istore (pc' := 1309) dL_law__1307 rfl rfl rfl ?_
    refine ax_aload_n (pc' := 1310) dL_law__1309 rfl rfl ?_
    refine ax_aload_n (pc' := 1311) dL_law__1310 rfl rfl ?_
    refine ax_iload (pc' := 1313) dL_law__1311 rfl rfl ?_
    refine ax_iconst (pc' := 1314) (v := (1 : Int32)) dL_law__1313 (by decide) rfl ?_
    refine ax_iadd (pc' := 1315) dL_law__1314 rfl ?_
    refine ax_sld (pc' := 1316) dL_law__1315 hr.1 rfl ?_
    refine ax_aload_n (pc' := 1317) dL_law__1316 rfl rfl ?_
    refine ax_iload (pc' := 1319) dL_law__1317 rfl rfl ?_
    refine ax_iconst (pc' := 1320) (v := (2 : Int32)) dL_law__1319 (by decide) rfl ?_
    refine ax_iadd (pc' := 1321) dL_law__1320 rfl ?_
    refine ax_sld (pc' := 1322) dL_law__1321 hr.2.1 rfl ?_
    refine ax_invVL (pc' := 1325) (ce' := ce + 2) (sl' := sl + 12) (a := 69) (As := [.int (g.2.2.2.2.2.2 (i + 1).toNatClampNeg), .int (g.2.2.2.2.2.2 (i + 2).toNatClampNeg)]) (S := []) (mc2 := 0) (ms2 := 0) (I2 := i_X12_unseen) rfl dL_law__1322 ll_187 sh_69 (by decide) rfl rfl rfl rfl rfl rfl rfl (by omega) (by omega) rfl (ac_M.imp (o_X12_unseen _ (g.2.2.2.2.2.2 (i + 1).toNatClampNeg) (g.2.2.2.2.2.2 (i + 2).toNatClampNeg) H) ?_)
    rintro _ _ ⟨b, s2, rfl, rfl, hT2, hI2⟩
    show ac_X g i_L_law_ 100 601024 7293034 Q (ce + 2) (sl + 12) 1325 [some (.ref 1000000), some (.ref 0), some (.ref 69), some (.ref 585), some (.int i), some (.int c), none, none] [.int b] (false, 586, SH, s2, τ)
    refine ax_istore (pc' := 1327) dL_law__1325 rfl rfl rfl ?_
    refine ax_aload_n (pc' := 1328) dL_law__1327 rfl rfl ?_
    refine ax_invVL (pc' := 1331) (ce' := ce + 2) (sl' := sl + 12) (a := 69) (As := []) (S := []) (mc2 := 0) (ms2 := 0) (I2 := i_X12_thrown) rfl dL_law__1328 ll_128 sh_69 (by decide) rfl rfl rfl rfl rfl rfl rfl (by omega) (by omega) rfl (ac_M.imp (o_X12_thrown _ (Q := fun r s => r = s2 69 0 ∧ s = s2) ⟨rfl, rfl⟩) ?_)
    rintro _ _ ⟨z, s3, rfl, rfl, rfl, rfl⟩
    show ac_X g i_L_law_ 100 601024 7293034 Q (ce + 2) (sl + 12) 1331 [some (.ref 1000000), some (.ref 0), some (.ref 69), some (.ref 585), some (.int i), some (.int c), some (.int b), none] [.int (s3 69 0)] (false, 586, SH, s3, τ)
    refine ax_iload (pc' := 1333) dL_law__1331 rfl rfl ?_
    refine ax_icmp_eq (pc' := 1336) (tgt := 1338) dL_law__1333 (by decide) rfl (fun _ => ?_) (fun z => absurd (thB_c hT2 hT).1 z)
    refine ax_iload (pc' := 1340) dL_law__1338 rfl rfl ?_
    refine ax_if_ne (pc' := 1343) (tgt := 1355) dL_law__1340 (by decide) rfl (fun _ => ?_) (fun z => absurd z (thB_c hT hT).2)
    refine ax_goto (tgt := 2585) dL_law__1355 (by decide) ?_
    refine ax_widen (ce' := ce + 8) (sl' := sl + 48) (by omega) (by omega) (ax_fgt (hN _ _ hI2))
theorem lc_look {g : ac_G} {Q : ac_O → ac_W → Prop} {ce sl : Nat} {i : Int32} {s : ac_m} {τ : Nat → Nat → Int64} (hce : ce + 8 ≤ 601024) (hsl : sl + 48 ≤ 7293034) (hr : rd g i) (hI : Inv s) (hN : ∀ s' τ', Inv s' → lwX g Q (ce + 8) (sl + 48) 2585 i s' τ') : lwX g Q ce sl 1358 i s τ := by
  refine ax_aload_n (pc' := 1359) dL_law__1358 rfl rfl ?_
  refine ax_aload_n (pc' := 1360) dL_law__1359 rfl rfl ?_
  refine ax_iload (pc' := 1362) dL_law__1360 rfl rfl ?_
  refine ax_iconst (pc' := 1363) (v := (1 : Int32)) dL_law__1362 (by decide) rfl ?_
  refine ax_iadd (pc' := 1364) dL_law__1363 rfl ?_
  refine ax_sld (pc' := 1365) dL_law__1364 hr.1 rfl ?_
  refine ax_aload_n (pc' := 1366) dL_law__1365 rfl rfl ?_
  refine ax_iload (pc' := 1368) dL_law__1366 rfl rfl ?_
  refine ax_iconst (pc' := 1369) (v := (2 : Int32)) dL_law__1368 (by decide) rfl ?_
  refine ax_iadd (pc' := 1370) dL_law__1369 rfl ?_
  refine ax_sld (pc' := 1371) dL_law__1370 hr.2.1 rfl ?_
  refine ax_aload_n (pc' := 1372) dL_law__1371 rfl rfl ?_
  refine ax_invSH (pc' := 1375) (ce' := ce + 2) (sl' := sl + 12) (As := [.ref 0, .int (g.2.2.2.2.2.2 (i + 1).toNatClampNeg), .int (g.2.2.2.2.2.2 (i + 2).toNatClampNeg), .ref 585]) (S := []) (mc2 := 2) (ms2 := 12) (I2 := i_L_look) rfl dL_law__1372 ll_188 rfl (by decide) rfl rfl rfl rfl (by omega) (by omega) rfl (ac_M.imp (o_L_look _ (g.2.2.2.2.2.2 (i + 1).toNatClampNeg) (g.2.2.2.2.2.2 (i + 2).toNatClampNeg) (s_look (g.2.2.2.2.2.2 (i + 1).toNatClampNeg) (g.2.2.2.2.2.2 (i + 2).toNatClampNeg) s hI)) ?_)
  rintro _ _ (⟨r, s1, rfl, rfl, H⟩ | ⟨E, c, s1, rfl, rfl, hT, H⟩)
  · show ac_X g i_L_law_ 100 601024 7293034 Q (ce + 2) (sl + 12) 1375 [some (.ref 1000000), some (.ref 0), some (.ref 69), some (.ref 585), some (.int i), none, none, none] [.int 0] (false, 586, SH, s1, (ac_uL τ 585 0 r.toInt64))
    refine ax_istore (pc' := 1377) dL_law__1375 rfl rfl rfl ?_
    refine ax_aload_n (pc' := 1378) dL_law__1377 rfl rfl ?_
    refine ax_aload_n (pc' := 1379) dL_law__1378 rfl rfl ?_
    refine ax_iload (pc' := 1381) dL_law__1379 rfl rfl ?_
    refine ax_iconst (pc' := 1382) (v := (1 : Int32)) dL_law__1381 (by decide) rfl ?_
    refine ax_iadd (pc' := 1383) dL_law__1382 rfl ?_
    refine ax_sld (pc' := 1384) dL_law__1383 hr.1 rfl ?_
    refine ax_aload_n (pc' := 1385) dL_law__1384 rfl rfl ?_
    refine ax_iload (pc' := 1387) dL_law__1385 rfl rfl ?_
    refine ax_iconst (pc' := 1388) (v := (2 : Int32)) dL_law__1387 (by decide) rfl ?_
    refine ax_iadd (pc' := 1389) dL_law__1388 rfl ?_
    refine ax_sld (pc' := 1390) dL_law__1389 hr.2.1 rfl ?_
    refine ax_invVL (pc' := 1393) (ce' := ce + 2) (sl' := sl + 12) (a := 69) (As := [.int (g.2.2.2.2.2.2 (i + 1).toNatClampNeg), .int (g.2.2.2.2.2.2 (i + 2).toNatClampNeg)]) (S := []) (mc2 := 0) (ms2 := 0) (I2 := i_X12_look) rfl dL_law__1390 ll_190 sh_69 (by decide) rfl rfl rfl rfl rfl rfl rfl (by omega) (by omega) rfl (ac_M.imp (o_X12_look _ (g.2.2.2.2.2.2 (i + 1).toNatClampNeg) (g.2.2.2.2.2.2 (i + 2).toNatClampNeg) H) ?_)
    rintro _ _ ⟨b, s2, rfl, rfl, hb, h0, hI2⟩
    show ac_X g i_L_law_ 100 601024 7293034 Q (ce + 2) (sl + 12) 1393 [some (.ref 1000000), some (.ref 0), some (.ref 69), some (.ref 585), some (.int i), some (.int 0), none, none] [.int b] (false, 586, SH, s2, (ac_uL τ 585 0 r.toInt64))
    refine ax_istore (pc' := 1395) dL_law__1393 rfl rfl rfl ?_
    refine ax_aload_n (pc' := 1396) dL_law__1395 rfl rfl ?_
    refine ax_invVL (pc' := 1399) (ce' := ce + 2) (sl' := sl + 12) (a := 69) (As := []) (S := []) (mc2 := 0) (ms2 := 0) (I2 := i_X12_thrown) rfl dL_law__1396 ll_128 sh_69 (by decide) rfl rfl rfl rfl rfl rfl rfl (by omega) (by omega) rfl (ac_M.imp (o_X12_thrown _ (Q := fun r s => r = s2 69 0 ∧ s = s2) ⟨rfl, rfl⟩) ?_)
    rintro _ _ ⟨z, s3, rfl, rfl, rfl, rfl⟩
    show ac_X g i_L_law_ 100 601024 7293034 Q (ce + 2) (sl + 12) 1399 [some (.ref 1000000), some (.ref 0), some (.ref 69), some (.ref 585), some (.int i), some (.int 0), some (.int b), none] [.int (s3 69 0)] (false, 586, SH, s3, (ac_uL τ 585 0 r.toInt64))
    refine ax_iload (pc' := 1401) dL_law__1399 rfl rfl ?_
    refine ax_icmp_eq (pc' := 1404) (tgt := 1406) dL_law__1401 (by decide) rfl (fun _ => ?_) (fun z => absurd h0 z)
    refine ax_iload (pc' := 1408) dL_law__1406 rfl rfl ?_
    refine ax_if_ne (pc' := 1411) (tgt := 1423) dL_law__1408 (by decide) rfl (fun z => absurd rfl z) (fun _ => ?_)
    refine ax_aload_n (pc' := 1412) dL_law__1411 rfl rfl ?_
    refine ax_iconst (pc' := 1413) (v := (0 : Int32)) dL_law__1412 (by decide) rfl ?_
    refine ax_lald (pc' := 1414) dL_law__1413 sh_585 (ac_in (by decide)) rfl rfl ?_
    refine ax_iload (pc' := 1416) dL_law__1414 rfl rfl ?_
    refine ax_i2l (pc' := 1417) dL_law__1416 rfl ?_
    rw [show ac_uL τ 585 0 r.toInt64 585 (0 : Int32).toNatClampNeg = r.toInt64 from uL_eq, hb]
    refine ax_lcmp (pc' := 1418) dL_law__1417 rfl ?_
    refine ax_if_eq (pc' := 1421) (tgt := 1423) dL_law__1418 (by decide) rfl (fun _ => ?_) (fun z => absurd (lg_cmp_self _) z)
    refine ax_goto (tgt := 2585) dL_law__1423 (by decide) ?_
    refine ax_widen (ce' := ce + 8) (sl' := sl + 48) (by omega) (by omega) (ax_fgt (hN _ _ hI2))
  · show ac_X g i_L_law_ 100 601024 7293034 Q (ce + 2) (sl + 12) 1375 [some (.ref 1000000), some (.ref 0), some (.ref 69), some (.ref 585), some (.int i), none, none, none] [.int c] (false, 586, SH, s1, τ)
    refine ax_istore (pc' := 1377) dL_law__1375 rfl rfl rfl ?_
    refine ax_aload_n (pc' := 1378) dL_law__1377 rfl rfl ?_
    refine ax_aload_n (pc' := 1379) dL_law__1378 rfl rfl ?_
    refine ax_iload (pc' := 1381) dL_law__1379 rfl rfl ?_
    refine ax_iconst (pc' := 1382) (v := (1 : Int32)) dL_law__1381 (by decide) rfl ?_
    refine ax_iadd (pc' := 1383) dL_law__1382 rfl ?_
    refine ax_sld (pc' := 1384) dL_law__1383 hr.1 rfl ?_
    refine ax_aload_n (pc' := 1385) dL_law__1384 rfl rfl ?_
    refine ax_iload (pc' := 1387) dL_law__1385 rfl rfl ?_
    refine ax_iconst (pc' := 1388) (v := (2 : Int32)) dL_law__1387 (by decide) rfl ?_
    refine ax_iadd (pc' := 1389) dL_law__1388 rfl ?_
    refine ax_sld (pc' := 1390) dL_law__1389 hr.2.1 rfl ?_
    refine ax_invVL (pc' := 1393) (ce' := ce + 2) (sl' := sl + 12) (a := 69) (As := [.int (g.2.2.2.2.2.2 (i + 1).toNatClampNeg), .int (g.2.2.2.2.2.2 (i + 2).toNatClampNeg)]) (S := []) (mc2 := 0) (ms2 := 0) (I2 := i_X12_look) rfl dL_law__1390 ll_190 sh_69 (by decide) rfl rfl rfl rfl rfl rfl rfl (by omega) (by omega) rfl (ac_M.imp (o_X12_look _ (g.2.2.2.2.2.2 (i + 1).toNatClampNeg) (g.2.2.2.2.2.2 (i + 2).toNatClampNeg) H) ?_)
    rintro _ _ ⟨b, s2, rfl, rfl, hT2, hI2⟩
    show ac_X g i_L_law_ 100 601024 7293034 Q (ce + 2) (sl + 12) 1393 [some (.ref 1000000), some (.ref 0), some (.ref 69), some (.ref 585), some (.int i), some (.int c), none, none] [.int b] (false, 586, SH, s2, τ)
    refine ax_istore (pc' := 1395) dL_law__1393 rfl rfl rfl ?_
    refine ax_aload_n (pc' := 1396) dL_law__1395 rfl rfl ?_
    refine ax_invVL (pc' := 1399) (ce' := ce + 2) (sl' := sl + 12) (a := 69) (As := []) (S := []) (mc2 := 0) (ms2 := 0) (I2 := i_X12_thrown) rfl dL_law__1396 ll_128 sh_69 (by decide) rfl rfl rfl rfl rfl rfl rfl (by omega) (by omega) rfl (ac_M.imp (o_X12_thrown _ (Q := fun r s => r = s2 69 0 ∧ s = s2) ⟨rfl, rfl⟩) ?_)
    rintro _ _ ⟨z, s3, rfl, rfl, rfl, rfl⟩
    show ac_X g i_L_law_ 100 601024 7293034 Q (ce + 2) (sl + 12) 1399 [some (.ref 1000000), some (.ref 0), some (.ref 69), some (.ref 585), some (.int i), some (.int c), some (.int b), none] [.int (s3 69 0)] (false, 586, SH, s3, τ)
    refine ax_iload (pc' := 1401) dL_law__1399 rfl rfl ?_
    refine ax_icmp_eq (pc' := 1404) (tgt := 1406) dL_law__1401 (by decide) rfl (fun _ => ?_) (fun z => absurd (thB_c hT2 hT).1 z)
    refine ax_iload (pc' := 1408) dL_law__1406 rfl rfl ?_
    refine ax_if_ne (pc' := 1411) (tgt := 1423) dL_law__1408 (by decide) rfl (fun _ => ?_) (fun z => absurd z (thB_c hT hT).2)
    refine ax_goto (tgt := 2585) dL_law__1423 (by decide) ?_
    refine ax_widen (ce' := ce + 8) (sl' := sl + 48) (by omega) (by omega) (ax_fgt (hN _ _ hI2))
theorem lc_way {g : ac_G} {Q : ac_O → ac_W → Prop} {ce sl : Nat} {i : Int32} {s : ac_m} {τ : Nat → Nat → Int64} (hce : ce + 8 ≤ 601024) (hsl : sl + 48 ≤ 7293034) (hr : rd g i) (hI : Inv s) (hN : ∀ s' τ', Inv s' → lwX g Q (ce + 8) (sl + 48) 2585 i s' τ') : lwX g Q ce sl 1426 i s τ := by
  refine ax_aload_n (pc' := 1427) dL_law__1426 rfl rfl ?_
  refine ax_aload_n (pc' := 1428) dL_law__1427 rfl rfl ?_
  refine ax_iload (pc' := 1430) dL_law__1428 rfl rfl ?_
  refine ax_iconst (pc' := 1431) (v := (1 : Int32)) dL_law__1430 (by decide) rfl ?_
  refine ax_iadd (pc' := 1432) dL_law__1431 rfl ?_
  refine ax_sld (pc' := 1433) dL_law__1432 hr.1 rfl ?_
  refine ax_aload_n (pc' := 1434) dL_law__1433 rfl rfl ?_
  refine ax_iload (pc' := 1436) dL_law__1434 rfl rfl ?_
  refine ax_iconst (pc' := 1437) (v := (2 : Int32)) dL_law__1436 (by decide) rfl ?_
  refine ax_iadd (pc' := 1438) dL_law__1437 rfl ?_
  refine ax_sld (pc' := 1439) dL_law__1438 hr.2.1 rfl ?_
  refine ax_aload_n (pc' := 1440) dL_law__1439 rfl rfl ?_
  refine ax_invSH (pc' := 1443) (ce' := ce + 2) (sl' := sl + 12) (As := [.ref 0, .int (g.2.2.2.2.2.2 (i + 1).toNatClampNeg), .int (g.2.2.2.2.2.2 (i + 2).toNatClampNeg), .ref 585]) (S := []) (mc2 := 2) (ms2 := 12) (I2 := i_L_way) rfl dL_law__1440 ll_191 rfl (by decide) rfl rfl rfl rfl (by omega) (by omega) rfl (ac_M.imp (o_L_way _ (g.2.2.2.2.2.2 (i + 1).toNatClampNeg) (g.2.2.2.2.2.2 (i + 2).toNatClampNeg) (s_way (g.2.2.2.2.2.2 (i + 1).toNatClampNeg) (g.2.2.2.2.2.2 (i + 2).toNatClampNeg) s hI)) ?_)
  rintro _ _ (⟨r, s1, rfl, rfl, H⟩ | ⟨E, c, s1, rfl, rfl, hT, H⟩)
  · show ac_X g i_L_law_ 100 601024 7293034 Q (ce + 2) (sl + 12) 1443 [some (.ref 1000000), some (.ref 0), some (.ref 69), some (.ref 585), some (.int i), none, none, none] [.int 0] (false, 586, SH, s1, (ac_uL τ 585 0 r.toInt64))
    refine ax_istore (pc' := 1445) dL_law__1443 rfl rfl rfl ?_
    refine ax_aload_n (pc' := 1446) dL_law__1445 rfl rfl ?_
    refine ax_aload_n (pc' := 1447) dL_law__1446 rfl rfl ?_
    refine ax_iload (pc' := 1449) dL_law__1447 rfl rfl ?_
    refine ax_iconst (pc' := 1450) (v := (1 : Int32)) dL_law__1449 (by decide) rfl ?_
    refine ax_iadd (pc' := 1451) dL_law__1450 rfl ?_
    refine ax_sld (pc' := 1452) dL_law__1451 hr.1 rfl ?_
    refine ax_aload_n (pc' := 1453) dL_law__1452 rfl rfl ?_
    refine ax_iload (pc' := 1455) dL_law__1453 rfl rfl ?_
    refine ax_iconst (pc' := 1456) (v := (2 : Int32)) dL_law__1455 (by decide) rfl ?_
    refine ax_iadd (pc' := 1457) dL_law__1456 rfl ?_
    refine ax_sld (pc' := 1458) dL_law__1457 hr.2.1 rfl ?_
    refine ax_invVL (pc' := 1461) (ce' := ce + 2) (sl' := sl + 12) (a := 69) (As := [.int (g.2.2.2.2.2.2 (i + 1).toNatClampNeg), .int (g.2.2.2.2.2.2 (i + 2).toNatClampNeg)]) (S := []) (mc2 := 0) (ms2 := 0) (I2 := i_X12_way) rfl dL_law__1458 ll_193 sh_69 (by decide) rfl rfl rfl rfl rfl rfl rfl (by omega) (by omega) rfl (ac_M.imp (o_X12_way _ (g.2.2.2.2.2.2 (i + 1).toNatClampNeg) (g.2.2.2.2.2.2 (i + 2).toNatClampNeg) H) ?_)
    rintro _ _ ⟨b, s2, rfl, rfl, hb, h0, hI2⟩
    show ac_X g i_L_law_ 100 601024 7293034 Q (ce + 2) (sl + 12) 1461 [some (.ref 1000000), some (.ref 0), some (.ref 69), some (.ref 585), some (.int i), some (.int 0), none, none] [.int b] (false, 586, SH, s2, (ac_uL τ 585 0 r.toInt64))
    refine ax_istore (pc' := 1463) dL_law__1461 rfl rfl rfl ?_
    refine ax_aload_n (pc' := 1464) dL_law__1463 rfl rfl ?_
    refine ax_invVL (pc' := 1467) (ce' := ce + 2) (sl' := sl + 12) (a := 69) (As := []) (S := []) (mc2 := 0) (ms2 := 0) (I2 := i_X12_thrown) rfl dL_law__1464 ll_128 sh_69 (by decide) rfl rfl rfl rfl rfl rfl rfl (by omega) (by omega) rfl (ac_M.imp (o_X12_thrown _ (Q := fun r s => r = s2 69 0 ∧ s = s2) ⟨rfl, rfl⟩) ?_)
    rintro _ _ ⟨z, s3, rfl, rfl, rfl, rfl⟩
    show ac_X g i_L_law_ 100 601024 7293034 Q (ce + 2) (sl + 12) 1467 [some (.ref 1000000), some (.ref 0), some (.ref 69), some (.ref 585), some (.int i), some (.int 0), some (.int b), none] [.int (s3 69 0)] (false, 586, SH, s3, (ac_uL τ 585 0 r.toInt64))
    refine ax_iload (pc' := 1469) dL_law__1467 rfl rfl ?_
    refine ax_icmp_eq (pc' := 1472) (tgt := 1474) dL_law__1469 (by decide) rfl (fun _ => ?_) (fun z => absurd h0 z)
    refine ax_iload (pc' := 1476) dL_law__1474 rfl rfl ?_
    refine ax_if_ne (pc' := 1479) (tgt := 1491) dL_law__1476 (by decide) rfl (fun z => absurd rfl z) (fun _ => ?_)
    refine ax_aload_n (pc' := 1480) dL_law__1479 rfl rfl ?_
    refine ax_iconst (pc' := 1481) (v := (0 : Int32)) dL_law__1480 (by decide) rfl ?_
    refine ax_lald (pc' := 1482) dL_law__1481 sh_585 (ac_in (by decide)) rfl rfl ?_
    refine ax_iload (pc' := 1484) dL_law__1482 rfl rfl ?_
    refine ax_i2l (pc' := 1485) dL_law__1484 rfl ?_
    rw [show ac_uL τ 585 0 r.toInt64 585 (0 : Int32).toNatClampNeg = r.toInt64 from uL_eq, hb]
    refine ax_lcmp (pc' := 1486) dL_law__1485 rfl ?_
    refine ax_if_eq (pc' := 1489) (tgt := 1491) dL_law__1486 (by decide) rfl (fun _ => ?_) (fun z => absurd (lg_cmp_self _) z)
    refine ax_goto (tgt := 2585) dL_law__1491 (by decide) ?_
    refine ax_widen (ce' := ce + 8) (sl' := sl + 48) (by omega) (by omega) (ax_fgt (hN _ _ hI2))
  · show ac_X g i_L_law_ 100 601024 7293034 Q (ce + 2) (sl + 12) 1443 [some (.ref 1000000), some (.ref 0), some (.ref 69), some (.ref 585), some (.int i), none, none, none] [.int c] (false, 586, SH, s1, τ)
    refine ax_istore (pc' := 1445) dL_law__1443 rfl rfl rfl ?_
    refine ax_aload_n (pc' := 1446) dL_law__1445 rfl rfl ?_
    refine ax_aload_n (pc' := 1447) dL_law__1446 rfl rfl ?_
    refine ax_iload (pc' := 1449) dL_law__1447 rfl rfl ?_
    refine ax_iconst (pc' := 1450) (v := (1 : Int32)) dL_law__1449 (by decide) rfl ?_
    refine ax_iadd (pc' := 1451) dL_law__1450 rfl ?_
    refine ax_sld (pc' := 1452) dL_law__1451 hr.1 rfl ?_
    refine ax_aload_n (pc' := 1453) dL_law__1452 rfl rfl ?_
    refine ax_iload (pc' := 1455) dL_law__1453 rfl rfl ?_
    refine ax_iconst (pc' := 1456) (v := (2 : Int32)) dL_law__1455 (by decide) rfl ?_
    refine ax_iadd (pc' := 1457) dL_law__1456 rfl ?_
    refine ax_sld (pc' := 1458) dL_law__1457 hr.2.1 rfl ?_
    refine ax_invVL (pc' := 1461) (ce' := ce + 2) (sl' := sl + 12) (a := 69) (As := [.int (g.2.2.2.2.2.2 (i + 1).toNatClampNeg), .int (g.2.2.2.2.2.2 (i + 2).toNatClampNeg)]) (S := []) (mc2 := 0) (ms2 := 0) (I2 := i_X12_way) rfl dL_law__1458 ll_193 sh_69 (by decide) rfl rfl rfl rfl rfl rfl rfl (by omega) (by omega) rfl (ac_M.imp (o_X12_way _ (g.2.2.2.2.2.2 (i + 1).toNatClampNeg) (g.2.2.2.2.2.2 (i + 2).toNatClampNeg) H) ?_)
    rintro _ _ ⟨b, s2, rfl, rfl, hT2, hI2⟩
    show ac_X g i_L_law_ 100 601024 7293034 Q (ce + 2) (sl + 12) 1461 [some (.ref 1000000), some (.ref 0), some (.ref 69), some (.ref 585), some (.int i), some (.int c), none, none] [.int b] (false, 586, SH, s2, τ)
    refine ax_istore (pc' := 1463) dL_law__1461 rfl rfl rfl ?_
    refine ax_aload_n (pc' := 1464) dL_law__1463 rfl rfl ?_
    refine ax_invVL (pc' := 1467) (ce' := ce + 2) (sl' := sl + 12) (a := 69) (As := []) (S := []) (mc2 := 0) (ms2 := 0) (I2 := i_X12_thrown) rfl dL_law__1464 ll_128 sh_69 (by decide) rfl rfl rfl rfl rfl rfl rfl (by omega) (by omega) rfl (ac_M.imp (o_X12_thrown _ (Q := fun r s => r = s2 69 0 ∧ s = s2) ⟨rfl, rfl⟩) ?_)
    rintro _ _ ⟨z, s3, rfl, rfl, rfl, rfl⟩
    show ac_X g i_L_law_ 100 601024 7293034 Q (ce + 2) (sl + 12) 1467 [some (.ref 1000000), some (.ref 0), some (.ref 69), some (.ref 585), some (.int i), some (.int c), some (.int b), none] [.int (s3 69 0)] (false, 586, SH, s3, τ)
    refine ax_iload (pc' := 1469) dL_law__1467 rfl rfl ?_
    refine ax_icmp_eq (pc' := 1472) (tgt := 1474) dL_law__1469 (by decide) rfl (fun _ => ?_) (fun z => absurd (thN_c hT2 hT).1 z)
    refine ax_iload (pc' := 1476) dL_law__1474 rfl rfl ?_
    refine ax_if_ne (pc' := 1479) (tgt := 1491) dL_law__1476 (by decide) rfl (fun _ => ?_) (fun z => absurd z (thN_c hT hT).2)
    refine ax_goto (tgt := 2585) dL_law__1491 (by decide) ?_
    refine ax_widen (ce' := ce + 8) (sl' := sl + 48) (by omega) (by omega) (ax_fgt (hN _ _ hI2))
