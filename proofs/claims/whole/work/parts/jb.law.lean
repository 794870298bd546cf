/-! THE LOOP OVER THE SCRIPT, AND THE LAW FROM ITS START -/
theorem lw_len {L : Nat} (h : L ≤ 4608) : (Int32.ofNat L - 9).toInt = (L : Int) - 9 := by
  have h1 : (Int32.ofNat L).toInt = (L : Int) := nI_toInt (n := L) (by omega)
  have h2 : (9 : Int32).toInt = 9 := by decide
  rw [Int32.toInt_sub, h1, h2]
  exact Int.bmod_eq_of_le (by omega) (by omega)
theorem lw_loop {g : ac_G} {Q : ac_O → ac_W → Prop} (hn : g.2.2.2.2.2.1 ≤ 4608) (hQ : ∀ w, Q (.inl (some (.int 1))) w) : ∀ (m k : Nat), k + m = 513 → ∀ (s : ac_m) (τ : Nat → Nat → Int64), Inv s → lwX g Q (2000 + 8 * k) (30000 + 48 * k) 23 (nI (9 * k)) s τ := by
  intro m
  induction m using Nat.strongRecOn with
  | ind m ih =>
    intro k hk s τ hI
    have hi : (nI (9 * k)).toInt = ((9 * k : Nat) : Int) := nI_toInt (by omega)
    refine ax_iload (pc' := 25) dL_law__23 rfl rfl ?_
    refine ax_aload_n (pc' := 26) dL_law__25 rfl rfl ?_
    refine ax_slen (pc' := 27) dL_law__26 rfl ?_
    refine ax_bipush (pc' := 29) (v := (9 : Int32)) dL_law__27 (by decide) rfl ?_
    refine ax_isub (pc' := 30) dL_law__29 rfl ?_
    refine ax_icmp_gt (pc' := 33) (tgt := 2591) dL_law__30 (by decide) rfl (fun hc => ?_) (fun hc => ?_)
    · refine ax_iconst (pc' := 2592) (v := (1 : Int32)) dL_law__2591 (by decide) rfl ?_
      exact ax_zret dL_law__2592 rfl rfl (Nat.ble_eq.mpr (by omega)) (Nat.ble_eq.mpr (by omega)) (hQ _)
    · have hb : 9 * k + 9 ≤ g.2.2.2.2.2.1 := by
        rw [na_lt, lw_len hn, hi] at hc
        omega
      have rdj : ∀ j, j < 9 → vp_in (nI (9 * k) + nI j) g.2.2.2.2.2.1 := fun j hj => by
        rw [nI_add, vp_in_iff, nI_toInt (by omega)]
        omega
      have hr : rd g (nI (9 * k)) := ⟨rdj 1 (by omega), rdj 2 (by omega), rdj 3 (by omega), rdj 4 (by omega), rdj 5 (by omega), rdj 6 (by omega), rdj 7 (by omega), rdj 8 (by omega)⟩
      have h0 : vp_in (nI (9 * k)) g.2.2.2.2.2.1 := by
        rw [vp_in_iff, hi]
        omega
      have hce : 2000 + 8 * k + 8 ≤ 601024 := by omega
      have hsl : 30000 + 48 * k + 48 ≤ 7293034 := by omega
      have hN : ∀ s' τ', Inv s' → lwX g Q (2000 + 8 * k + 8) (30000 + 48 * k + 48) 2585 (nI (9 * k)) s' τ' := fun s' τ' hI' => by
        refine ax_iinc (pc' := 2588) (v := nI (9 * (k + 1))) dL_law__2585 rfl (by rw [show (9 : Int) = ((9 : Nat) : Int) from rfl]; exact nI_add (9 * k) 9) rfl rfl rfl ?_
        refine ax_goto (tgt := 23) dL_law__2588 (by decide) ?_
        exact ax_widen (ce' := 2000 + 8 * (k + 1)) (sl' := 30000 + 48 * (k + 1)) (by omega) (by omega) (ih (m - 1) (by omega) (k + 1) (by omega) s' τ' hI')
      refine ax_aload_n (pc' := 34) dL_law__33 rfl rfl ?_
      refine ax_iload (pc' := 36) dL_law__34 rfl rfl ?_
      refine ax_sld (pc' := 37) dL_law__36 h0 rfl ?_
      refine ax_bipush (pc' := 39) (v := (63 : Int32)) dL_law__37 (by decide) rfl ?_
      refine ax_iand (pc' := 40) dL_law__39 rfl ?_
      generalize (g.2.2.2.2.2.2 (nI (9 * k)).toNatClampNeg &&& (63 : Int32)) = x
      by_cases hx : x.toInt < 0 ∨ 40 < x.toInt
      · refine ax_tableOut (tgt := 2585) dL_law__40 hx (by decide) ?_
        exact ax_widen (ce' := 2000 + 8 * k + 8) (sl' := 30000 + 48 * k + 48) (by omega) (by omega) (hN s τ hI)
      · have h1 : ¬ x.toInt < 0 := fun q => hx (Or.inl q)
        have h2 : ¬ 40 < x.toInt := fun q => hx (Or.inr q)
        have h3 : x.toInt = 0 ∨ x.toInt = 1 ∨ x.toInt = 2 ∨ x.toInt = 3 ∨ x.toInt = 4 ∨ x.toInt = 5 ∨ x.toInt = 6 ∨ x.toInt = 7 ∨ x.toInt = 8 ∨ x.toInt = 9 ∨ x.toInt = 10 ∨ x.toInt = 11 ∨ x.toInt = 12 ∨ x.toInt = 13 ∨ x.toInt = 14 ∨ x.toInt = 15 ∨ x.toInt = 16 ∨ x.toInt = 17 ∨ x.toInt = 18 ∨ x.toInt = 19 ∨ x.toInt = 20 ∨ x.toInt = 21 ∨ x.toInt = 22 ∨ x.toInt = 23 ∨ x.toInt = 24 ∨ x.toInt = 25 ∨ x.toInt = 26 ∨ x.toInt = 27 ∨ x.toInt = 28 ∨ x.toInt = 29 ∨ x.toInt = 30 ∨ x.toInt = 31 ∨ x.toInt = 32 ∨ x.toInt = 33 ∨ x.toInt = 34 ∨ x.toInt = 35 ∨ x.toInt = 36 ∨ x.toInt = 37 ∨ x.toInt = 38 ∨ x.toInt = 39 ∨ x.toInt = 40 := by omega
        rcases h3 with e | e | e | e | e | e | e | e | e | e | e | e | e | e | e | e | e | e | e | e | e | e | e | e | e | e | e | e | e | e | e | e | e | e | e | e | e | e | e | e | e
        · exact ax_tableIn (off := 180) (tgt := 220) dL_law__40 h1 h2 (by rw [e]; rfl) (by decide) (lc_feed hce hsl hr hI hN)
        · exact ax_tableIn (off := 253) (tgt := 293) dL_law__40 h1 h2 (by rw [e]; rfl) (by decide) (lc_hills hce hsl hr hI hN)
        · exact ax_tableIn (off := 309) (tgt := 349) dL_law__40 h1 h2 (by rw [e]; rfl) (by decide) (lc_law hce hsl hr hI hN)
        · exact ax_tableIn (off := 365) (tgt := 405) dL_law__40 h1 h2 (by rw [e]; rfl) (by decide) (lc_work hce hsl hr hI hN)
        · exact ax_tableIn (off := 421) (tgt := 461) dL_law__40 h1 h2 (by rw [e]; rfl) (by decide) (lc_book hce hsl hr hI hN)
        · exact ax_tableIn (off := 477) (tgt := 517) dL_law__40 h1 h2 (by rw [e]; rfl) (by decide) (lc_fault hce hsl hr hI hN)
        · exact ax_tableIn (off := 490) (tgt := 530) dL_law__40 h1 h2 (by rw [e]; rfl) (by decide) (lc_undo hce hsl hr hI hN)
        · exact ax_tableIn (off := 503) (tgt := 543) dL_law__40 h1 h2 (by rw [e]; rfl) (by decide) (lc_told hce hsl hr hI hN)
        · exact ax_tableIn (off := 559) (tgt := 599) dL_law__40 h1 h2 (by rw [e]; rfl) (by decide) (lc_folk hce hsl hr hI hN)
        · exact ax_tableIn (off := 627) (tgt := 667) dL_law__40 h1 h2 (by rw [e]; rfl) (by decide) (lc_beast hce hsl hr hI hN)
        · exact ax_tableIn (off := 695) (tgt := 735) dL_law__40 h1 h2 (by rw [e]; rfl) (by decide) (lc_fair hce hsl hr hI hN)
        · exact ax_tableIn (off := 763) (tgt := 803) dL_law__40 h1 h2 (by rw [e]; rfl) (by decide) (lc_cool hce hsl hr hI hN)
        · exact ax_tableIn (off := 831) (tgt := 871) dL_law__40 h1 h2 (by rw [e]; rfl) (by decide) (lc_would hce hsl hr hI hN)
        · exact ax_tableIn (off := 977) (tgt := 1017) dL_law__40 h1 h2 (by rw [e]; rfl) (by decide) (lc_ahead hce hsl hr hI hN)
        · exact ax_tableIn (off := 1045) (tgt := 1085) dL_law__40 h1 h2 (by rw [e]; rfl) (by decide) (lc_bare hce hsl hr hI hN)
        · exact ax_tableIn (off := 1101) (tgt := 1141) dL_law__40 h1 h2 (by rw [e]; rfl) (by decide) (lc_cancel hce hsl hr hI hN)
        · exact ax_tableIn (off := 1114) (tgt := 1154) dL_law__40 h1 h2 (by rw [e]; rfl) (by decide) (lc_herd hce hsl hr hI hN)
        · exact ax_tableIn (off := 1182) (tgt := 1222) dL_law__40 h1 h2 (by rw [e]; rfl) (by decide) (lc_paid hce hsl hr hI hN)
        · exact ax_tableIn (off := 1250) (tgt := 1290) dL_law__40 h1 h2 (by rw [e]; rfl) (by decide) (lc_unseen hce hsl hr hI hN)
        · exact ax_tableIn (off := 1318) (tgt := 1358) dL_law__40 h1 h2 (by rw [e]; rfl) (by decide) (lc_look hce hsl hr hI hN)
        · exact ax_tableIn (off := 1386) (tgt := 1426) dL_law__40 h1 h2 (by rw [e]; rfl) (by decide) (lc_way hce hsl hr hI hN)
        · exact ax_tableIn (off := 1454) (tgt := 1494) dL_law__40 h1 h2 (by rw [e]; rfl) (by decide) (lc_price hce hsl hr hI hN)
        · exact ax_tableIn (off := 1522) (tgt := 1562) dL_law__40 h1 h2 (by rw [e]; rfl) (by decide) (lc_owing hce hsl hr hI hN)
        · exact ax_tableIn (off := 1602) (tgt := 1642) dL_law__40 h1 h2 (by rw [e]; rfl) (by decide) (lc_home hce hsl hr hI hN)
        · exact ax_tableIn (off := 1693) (tgt := 1733) dL_law__40 h1 h2 (by rw [e]; rfl) (by decide) (lc_share hce hsl hr hI hN)
        · exact ax_tableIn (off := 1773) (tgt := 1813) dL_law__40 h1 h2 (by rw [e]; rfl) (by decide) (lc_heaviest hce hsl hr hI hN)
        · exact ax_tableIn (off := 1829) (tgt := 1869) dL_law__40 h1 h2 (by rw [e]; rfl) (by decide) (lc_oldest hce hsl hr hI hN)
        · exact ax_tableIn (off := 1885) (tgt := 1925) dL_law__40 h1 h2 (by rw [e]; rfl) (by decide) (lc_overrun hce hsl hr hI hN)
        · exact ax_tableIn (off := 1898) (tgt := 1938) dL_law__40 h1 h2 (by rw [e]; rfl) (by decide) (lc_good hce hsl hr hI hN)
        · exact ax_tableIn (off := 1954) (tgt := 1994) dL_law__40 h1 h2 (by rw [e]; rfl) (by decide) (lc_kind hce hsl hr hI hN)
        · exact ax_tableIn (off := 2010) (tgt := 2050) dL_law__40 h1 h2 (by rw [e]; rfl) (by decide) (lc_driven hce hsl hr hI hN)
        · exact ax_tableIn (off := 2023) (tgt := 2063) dL_law__40 h1 h2 (by rw [e]; rfl) (by decide) (lc_weighs hce hsl hr hI hN)
        · exact ax_tableIn (off := 2091) (tgt := 2131) dL_law__40 h1 h2 (by rw [e]; rfl) (by decide) (lc_lightest hce hsl hr hI hN)
        · exact ax_tableIn (off := 2147) (tgt := 2187) dL_law__40 h1 h2 (by rw [e]; rfl) (by decide) (lc_coolest hce hsl hr hI hN)
        · exact ax_tableIn (off := 2203) (tgt := 2243) dL_law__40 h1 h2 (by rw [e]; rfl) (by decide) (lc_round hce hsl hr hI hN)
        · exact ax_tableIn (off := 2259) (tgt := 2299) dL_law__40 h1 h2 (by rw [e]; rfl) (by decide) (lc_decade hce hsl hr hI hN)
        · exact ax_tableIn (off := 2351) (tgt := 2391) dL_law__40 h1 h2 (by rw [e]; rfl) (by decide) (lc_span hce hsl hr hI hN)
        · exact ax_tableIn (off := 2469) (tgt := 2509) dL_law__40 h1 h2 (by rw [e]; rfl) (by decide) (lc_image hce hsl hr hI hN)
        · exact ax_tableIn (off := 2482) (tgt := 2522) dL_law__40 h1 h2 (by rw [e]; rfl) (by decide) (lc_restore hce hsl hr hI hN)
        · exact ax_tableIn (off := 2495) (tgt := 2535) dL_law__40 h1 h2 (by rw [e]; rfl) (by decide) (lc_status hce hsl hr hI hN)
        · exact ax_tableIn (off := 2520) (tgt := 2560) dL_law__40 h1 h2 (by rw [e]; rfl) (by decide) (lc_count hce hsl hr hI hN)
theorem no_L_8 : ac_No RL 8 10 [some Value.null, some Value.null, some Value.null, some Value.null, some Value.null, some Value.null, some Value.null, some Value.null, some Value.null, some Value.null, some Value.null, some Value.null, some Value.null, some Value.null, none, none, none] := ⟨RX11, TX11, 17, tyX11, rfl, (ac_at 129 (by decide +kernel) (by decide +kernel)), (ac_at 130 (by decide +kernel) (by decide +kernel)), (ac_at 103 (by decide +kernel) (by decide +kernel)), in_X11, tyX11_ok, by decide +kernel, rfl⟩
theorem no_L_114 : ac_No RL 114 11 [none, none, none, none, none, none, none, none, none, some Value.null, some Value.null, some Value.null, some Value.null, some Value.null, some Value.null, some Value.null, some Value.null, some Value.null, some Value.null, none, none, some Value.null, some Value.null, some Value.null, some Value.null, some Value.null, some Value.null, some Value.null, none, some Value.null, some Value.null, some Value.null, some Value.null, some Value.null, none, none, none, none, none, none, none, some Value.null, some Value.null, some Value.null, some Value.null, some Value.null, none] := ⟨RX12, TX12, 47, tyX12, rfl, (ac_at 1535 (by decide +kernel) (by decide +kernel)), (ac_at 1536 (by decide +kernel) (by decide +kernel)), (ac_at 115 (by decide +kernel) (by decide +kernel)), in_X12, tyX12_ok, by decide +kernel, rfl⟩
theorem law_M {g : ac_G} (hn : g.2.2.2.2.2.1 ≤ 4608) : ac_M g i_L_law_ 100 601024 7293034 [.ref 1000000] (true, 0, MX 1 0, (fun _ _ => 0), (fun _ _ => 0)) (fun o _ => o = .inl (some (.int 1))) := by
  have hE : ∀ (E : String) (w : ac_W), ¬ ((fun (o : ac_O) (_ : ac_W) => o = .inl (some (.int 1))) (.inr E) w) := fun E w h => by cases h
  refine ac_ofX (L0 := [some (.ref 1000000), none, none, none, none, none, none, none]) (by decide +kernel) rfl rfl rfl ?_
  refine ax_newO (pc' := 3) dL_law__0 no_L_8 (show MX 1 0 0 = .inr (10, [some Value.null, some Value.null, some Value.null, some Value.null, some Value.null, some Value.null, some Value.null, some Value.null, some Value.null, some Value.null, some Value.null, some Value.null, some Value.null, some Value.null, none, none, none]) by decide +kernel) rfl rfl rfl rfl rfl ?_
  refine ax_dup (pc' := 4) dL_law__3 rfl rfl ?_
  refine ax_invI (a := 0) (As := []) (mc2 := 68) (ms2 := 13328) (I2 := i_X11_init) rfl dL_law__4 (ac_at 131 (by decide +kernel) (by decide +kernel)) (ix_X11 _ _) rfl rfl hE rfl rfl rfl (k_X11 _ (fun _ _ => rfl) hE (fun s z => ?_))
  show ac_X g i_L_law_ 100 601024 7293034 _ 69 13345 7 [some (.ref 1000000), none, none, none, none, none, none, none] [.ref 0] (true, 69, SH, s, (fun _ _ => 0))
  refine ax_astore_n (pc' := 8) dL_law__7 rfl rfl rfl ?_
  refine ax_same (sh' := ac_us SH 69 (NUL (SH 69))) (by decide +kernel) ?_
  refine ax_newO (pc' := 11) dL_law__8 no_L_114 (show ac_us SH 69 (NUL (SH 69)) 69 = .inr (11, [none, none, none, none, none, none, none, none, none, some Value.null, some Value.null, some Value.null, some Value.null, some Value.null, some Value.null, some Value.null, some Value.null, some Value.null, some Value.null, none, none, some Value.null, some Value.null, some Value.null, some Value.null, some Value.null, some Value.null, some Value.null, none, some Value.null, some Value.null, some Value.null, some Value.null, some Value.null, none, none, none, none, none, none, none, some Value.null, some Value.null, some Value.null, some Value.null, some Value.null, none]) by decide +kernel) (z.1 69 (by omega)) rfl rfl rfl rfl ?_
  refine ax_dup (pc' := 12) dL_law__11 rfl rfl ?_
  refine ax_invI (a := 69) (As := []) (mc2 := 515) (ms2 := 8314) (I2 := i_X12_init) rfl dL_law__12 (ac_at 1537 (by decide +kernel) (by decide +kernel)) (ix_X12 _ _) rfl rfl hE rfl rfl rfl (k_X12 _ (fun y hy => z.1 y (by omega)) rfl (st_inv z (fun s2 hI => ?_)))
  show ac_X g i_L_law_ 100 601024 7293034 _ 585 21706 15 [some (.ref 1000000), some (.ref 0), none, none, none, none, none, none] [.ref 69] (true, 585, SH, s2, (fun _ _ => 0))
  refine ax_astore_n (pc' := 16) dL_law__15 rfl rfl rfl ?_
  refine ax_iconst (pc' := 17) (v := (1 : Int32)) dL_law__16 (by decide) rfl ?_
  refine ax_newL (b := 0) (pc' := 19) (n := 1) dL_law__17 ar_long sh_585 rfl rfl rfl rfl rfl rfl rfl ?_
  refine ax_astore_n (pc' := 20) dL_law__19 rfl rfl rfl ?_
  refine ax_iconst (pc' := 21) (v := (0 : Int32)) dL_law__20 (by decide) rfl ?_
  refine ax_istore (pc' := 23) dL_law__21 rfl rfl rfl ?_
  refine ax_loose ?_
  exact ax_widen (ce' := 2000 + 8 * 0) (sl' := 30000 + 48 * 0) (by omega) (by omega) (lw_loop hn (fun _ => rfl) 513 0 rfl s2 _ hI)
