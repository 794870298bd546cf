/-! System.arraycopy of ints; String constants' length and charAt; an exception caught -/
theorem ac_R.ofP {g : ac_G} {w : ac_W} {H : Heap} (hP : va_P g.2.2.2.1 vwCl (ac_ws g w) H) (hn : w.2.1 ≤ 1000000) (hb : g.2.1 ≤ H.size) (he : w.1 = false) : ac_R g w H := by
  refine ⟨hP, hn, ?_, fun z => by rw [he] at z; cases z⟩
  by_cases h0 : w.2.1 = 0
  · rw [h0]; exact hb
  · have h := (hP (w.2.1 - 1) _ (ac_ws_at (by omega))).lt
    have h2 : ac_r g (w.2.1 - 1) < H.size := h
    rw [ac_r_lt (by omega)] at h2
    omega
section AXY
variable {g : ac_G} {I I2 : ac_I} {d mc ms mc2 ms2 ce sl pc pc' n idx : Nat} {Q : ac_O → ac_W → Prop} {L : List (Option Value)} {S : List Value} {w : ac_W}
variable {ex : Bool} {N : Nat} {sh : Nat → ac_S} {σ : Nat → Nat → Int32} {τ : Nat → Nat → Int64} {a : Nat}
theorem ax_copy {a0 n0 n1 b0 b1 : Nat} {sp dp n : Int32} (hd : decode I.2.1 pc = .ok (.invokestatic idx, 3)) (hl : Cond.methodLink I.1.cls idx arraycopyName ∈ ac_tb) (hnat : Cond.native arraycopyName ∈ ac_tb) (hst : Cond.static arraycopyName ∈ ac_tb) (hini : Cond.initialized "java/lang/System" ∈ ac_tb)
    (hs0 : sh a0 = .inl (0, n0, b0)) (hs1 : sh a = .inl (0, n1, b1)) (ha0 : Nat.blt a0 N = true) (ha : Nat.blt a N = true) (h1 : ¬ sp < 0) (h2 : ¬ dp < 0) (h3 : ¬ n < 0) (h4 : sp.toNatClampNeg + n.toNatClampNeg ≤ n0) (h5 : dp.toNatClampNeg + n.toNatClampNeg ≤ n1) (hw : Nat.ble ((S.map fun v => v.category).sum) 8 = true) (hp : pc' = pc + 3)
    (kk : ac_X g I d mc ms Q ce sl pc' L S (false, N, sh, ac_cp σ a0 a sp.toNatClampNeg dp.toNatClampNeg n.toNatClampNeg, τ)) : ac_X g I d mc ms Q ce sl pc L (.int n :: .int dp :: .ref a :: .int sp :: .ref a0 :: S) (ex, N, sh, σ, τ) := by
  subst hp
  intro p e s m args below meth c X H locs ls hR hS hL
  have hts : ∀ w ∈ ac_tb, w.before args s = true := fun w h => X.2.2.2.2.2.2.1 w (List.mem_cons_of_mem _ h)
  have hw' : (S.map fun v => v.category).sum ≤ 8 := Nat.le_of_ble_eq_true hw
  have haN : a < N := Nat.blt_eq.mp ha
  have hD := ac_D (g := g) (w := (ex, N, sh, σ, τ)) hR.2.1
  refine va_copyi (ty := .int) X.1 X.2.1 (by rw [hL.1]; exact X.2.2.1) X.2.2.2.2.2.1 (hts _ hl) (hts _ hnat) (hts _ hst) (hts _ hini) X.2.2.2.2.2.2.2.2.2.1.1 hR.1 hD hS a0 a 0 0 (ac_arrI (Nat.blt_eq.mp ha0) hs0) (ac_arrI haN hs1) rfl rfl rfl h1 h2 h3 h4 h5 (fun _ _ => rfl)
    (by show 1 ≤ d + 12; omega) (by rw [ac_sum]; have : nativeFrameWords "java/lang/System" "arraycopy" 5 ≤ 200 := by decide +kernel
                                    show _ ≤ 64 * d + 256; omega) hd (fun H1 locs1 hP1 hD1 hS1 => ?_)
  have e1 : (ac_ws g (ex, N, sh, σ, τ)).set a (ac_r g a, .inl (g.2.2.2.2.1 0, n1, .inl (va_cpy (σ a0) (σ a) sp.toNatClampNeg dp.toNatClampNeg n.toNatClampNeg))) = ac_ws g (false, N, sh, ac_cp σ a0 a sp.toNatClampNeg dp.toNatClampNeg n.toNatClampNeg, τ) := ac_ws_set haN rfl (by simp only [ac_c, ac_cp, if_pos, hs1, ac_e]; rfl) (fun b hb hne => by simp only [ac_c, ac_cp, if_neg hne])
  rw [e1] at hP1
  exact kk p e s m args below meth c X H1 locs1 ls (ac_R.ofP hP1 hR.2.1 (by have h9 := X.2.2.2.2.2.2.2.2.2.2.1; have := hS1.1; omega) rfl) hS1 hL
end AXY
