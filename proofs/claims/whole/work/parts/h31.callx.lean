/-! the call rules once more, with the counts written out -/
section AYC
variable {g : ac_G} {I I2 : ac_I} {d mc ms mc2 ms2 ce sl ce' sl' pc pc' n idx : Nat} {Q : ac_O → ac_W → Prop} {L : List (Option Value)} {S : List Value} {w : ac_W}
variable {ex : Bool} {N : Nat} {sh : Nat → ac_S} {σ : Nat → Nat → Int32} {τ : Nat → Nat → Int64} {a : Nat}
theorem ay_V0 {ci : Nat} {tm : List (Option Value)} (hd : decode I.2.1 pc = .ok (.invokevirtual idx, 3)) (hV : ac_V I.1.cls idx I2 0) (hs : sh a = .inr (ci, tm)) (hci : (vwCl[ci]?).map (fun q => q.1) = some I2.1.cls) (ha : Nat.blt a N = true) (hh2 : I2.2.2.2.2 = []) (hh : I.2.2.2.2 = []) (hw : Nat.ble ((S.map fun v => v.category).sum) 8 = true) (hc : ce' = ce + mc2) (hs2 : sl' = sl + ms2) (hb1 : Nat.ble ce' mc = true) (hb2 : Nat.ble sl' ms = true) (hp : pc' = pc + 3)
    (hM : ac_M g I2 d mc2 ms2 (.ref a :: []) (ex, N, sh, σ, τ) (ac_Kn g I (d + 1) mc ms Q ce' sl' pc' L S)) : ac_X g I (d + 1) mc ms Q ce sl pc L (.ref a :: S) (ex, N, sh, σ, τ) := by
  subst hc; subst hs2
  exact ax_V0 hd hV hs hci ha hh2 hh hw hb1 hb2 hp hM
theorem ay_S0 (hd : decode I.2.1 pc = .ok (.invokestatic idx, 3)) (hV : ac_Sx I.1.cls idx I2 0) (hh2 : I2.2.2.2.2 = []) (hh : I.2.2.2.2 = []) (hw : Nat.ble ((S.map fun v => v.category).sum) 8 = true) (hc : ce' = ce + mc2) (hs2 : sl' = sl + ms2) (hb1 : Nat.ble ce' mc = true) (hb2 : Nat.ble sl' ms = true) (hp : pc' = pc + 3)
    (hM : ac_M g I2 d mc2 ms2 [] w (ac_Kn g I (d + 1) mc ms Q ce' sl' pc' L S)) : ac_X g I (d + 1) mc ms Q ce sl pc L (S) w := by
  subst hc; subst hs2
  exact ax_S0 hd hV hh2 hh hw hb1 hb2 hp hM
theorem ay_V1 {v0 : Value} {ci : Nat} {tm : List (Option Value)} (hd : decode I.2.1 pc = .ok (.invokevirtual idx, 3)) (hV : ac_V I.1.cls idx I2 1) (hs : sh a = .inr (ci, tm)) (hci : (vwCl[ci]?).map (fun q => q.1) = some I2.1.cls) (ha : Nat.blt a N = true) (hh2 : I2.2.2.2.2 = []) (hh : I.2.2.2.2 = []) (hw : Nat.ble ((S.map fun v => v.category).sum) 8 = true) (hc : ce' = ce + mc2) (hs2 : sl' = sl + ms2) (hb1 : Nat.ble ce' mc = true) (hb2 : Nat.ble sl' ms = true) (hp : pc' = pc + 3)
    (hM : ac_M g I2 d mc2 ms2 (.ref a :: [v0]) (ex, N, sh, σ, τ) (ac_Kn g I (d + 1) mc ms Q ce' sl' pc' L S)) : ac_X g I (d + 1) mc ms Q ce sl pc L (v0 :: .ref a :: S) (ex, N, sh, σ, τ) := by
  subst hc; subst hs2
  exact ax_V1 hd hV hs hci ha hh2 hh hw hb1 hb2 hp hM
theorem ay_S1 {v0 : Value} (hd : decode I.2.1 pc = .ok (.invokestatic idx, 3)) (hV : ac_Sx I.1.cls idx I2 1) (hh2 : I2.2.2.2.2 = []) (hh : I.2.2.2.2 = []) (hw : Nat.ble ((S.map fun v => v.category).sum) 8 = true) (hc : ce' = ce + mc2) (hs2 : sl' = sl + ms2) (hb1 : Nat.ble ce' mc = true) (hb2 : Nat.ble sl' ms = true) (hp : pc' = pc + 3)
    (hM : ac_M g I2 d mc2 ms2 [v0] w (ac_Kn g I (d + 1) mc ms Q ce' sl' pc' L S)) : ac_X g I (d + 1) mc ms Q ce sl pc L (v0 :: S) w := by
  subst hc; subst hs2
  exact ax_S1 hd hV hh2 hh hw hb1 hb2 hp hM
theorem ay_V2 {v0 v1 : Value} {ci : Nat} {tm : List (Option Value)} (hd : decode I.2.1 pc = .ok (.invokevirtual idx, 3)) (hV : ac_V I.1.cls idx I2 2) (hs : sh a = .inr (ci, tm)) (hci : (vwCl[ci]?).map (fun q => q.1) = some I2.1.cls) (ha : Nat.blt a N = true) (hh2 : I2.2.2.2.2 = []) (hh : I.2.2.2.2 = []) (hw : Nat.ble ((S.map fun v => v.category).sum) 8 = true) (hc : ce' = ce + mc2) (hs2 : sl' = sl + ms2) (hb1 : Nat.ble ce' mc = true) (hb2 : Nat.ble sl' ms = true) (hp : pc' = pc + 3)
    (hM : ac_M g I2 d mc2 ms2 (.ref a :: [v0, v1]) (ex, N, sh, σ, τ) (ac_Kn g I (d + 1) mc ms Q ce' sl' pc' L S)) : ac_X g I (d + 1) mc ms Q ce sl pc L (v1 :: v0 :: .ref a :: S) (ex, N, sh, σ, τ) := by
  subst hc; subst hs2
  exact ax_V2 hd hV hs hci ha hh2 hh hw hb1 hb2 hp hM
theorem ay_S2 {v0 v1 : Value} (hd : decode I.2.1 pc = .ok (.invokestatic idx, 3)) (hV : ac_Sx I.1.cls idx I2 2) (hh2 : I2.2.2.2.2 = []) (hh : I.2.2.2.2 = []) (hw : Nat.ble ((S.map fun v => v.category).sum) 8 = true) (hc : ce' = ce + mc2) (hs2 : sl' = sl + ms2) (hb1 : Nat.ble ce' mc = true) (hb2 : Nat.ble sl' ms = true) (hp : pc' = pc + 3)
    (hM : ac_M g I2 d mc2 ms2 [v0, v1] w (ac_Kn g I (d + 1) mc ms Q ce' sl' pc' L S)) : ac_X g I (d + 1) mc ms Q ce sl pc L (v1 :: v0 :: S) w := by
  subst hc; subst hs2
  exact ax_S2 hd hV hh2 hh hw hb1 hb2 hp hM
theorem ay_V3 {v0 v1 v2 : Value} {ci : Nat} {tm : List (Option Value)} (hd : decode I.2.1 pc = .ok (.invokevirtual idx, 3)) (hV : ac_V I.1.cls idx I2 3) (hs : sh a = .inr (ci, tm)) (hci : (vwCl[ci]?).map (fun q => q.1) = some I2.1.cls) (ha : Nat.blt a N = true) (hh2 : I2.2.2.2.2 = []) (hh : I.2.2.2.2 = []) (hw : Nat.ble ((S.map fun v => v.category).sum) 8 = true) (hc : ce' = ce + mc2) (hs2 : sl' = sl + ms2) (hb1 : Nat.ble ce' mc = true) (hb2 : Nat.ble sl' ms = true) (hp : pc' = pc + 3)
    (hM : ac_M g I2 d mc2 ms2 (.ref a :: [v0, v1, v2]) (ex, N, sh, σ, τ) (ac_Kn g I (d + 1) mc ms Q ce' sl' pc' L S)) : ac_X g I (d + 1) mc ms Q ce sl pc L (v2 :: v1 :: v0 :: .ref a :: S) (ex, N, sh, σ, τ) := by
  subst hc; subst hs2
  exact ax_V3 hd hV hs hci ha hh2 hh hw hb1 hb2 hp hM
theorem ay_S3 {v0 v1 v2 : Value} (hd : decode I.2.1 pc = .ok (.invokestatic idx, 3)) (hV : ac_Sx I.1.cls idx I2 3) (hh2 : I2.2.2.2.2 = []) (hh : I.2.2.2.2 = []) (hw : Nat.ble ((S.map fun v => v.category).sum) 8 = true) (hc : ce' = ce + mc2) (hs2 : sl' = sl + ms2) (hb1 : Nat.ble ce' mc = true) (hb2 : Nat.ble sl' ms = true) (hp : pc' = pc + 3)
    (hM : ac_M g I2 d mc2 ms2 [v0, v1, v2] w (ac_Kn g I (d + 1) mc ms Q ce' sl' pc' L S)) : ac_X g I (d + 1) mc ms Q ce sl pc L (v2 :: v1 :: v0 :: S) w := by
  subst hc; subst hs2
  exact ax_S3 hd hV hh2 hh hw hb1 hb2 hp hM
theorem ay_V4 {v0 v1 v2 v3 : Value} {ci : Nat} {tm : List (Option Value)} (hd : decode I.2.1 pc = .ok (.invokevirtual idx, 3)) (hV : ac_V I.1.cls idx I2 4) (hs : sh a = .inr (ci, tm)) (hci : (vwCl[ci]?).map (fun q => q.1) = some I2.1.cls) (ha : Nat.blt a N = true) (hh2 : I2.2.2.2.2 = []) (hh : I.2.2.2.2 = []) (hw : Nat.ble ((S.map fun v => v.category).sum) 8 = true) (hc : ce' = ce + mc2) (hs2 : sl' = sl + ms2) (hb1 : Nat.ble ce' mc = true) (hb2 : Nat.ble sl' ms = true) (hp : pc' = pc + 3)
    (hM : ac_M g I2 d mc2 ms2 (.ref a :: [v0, v1, v2, v3]) (ex, N, sh, σ, τ) (ac_Kn g I (d + 1) mc ms Q ce' sl' pc' L S)) : ac_X g I (d + 1) mc ms Q ce sl pc L (v3 :: v2 :: v1 :: v0 :: .ref a :: S) (ex, N, sh, σ, τ) := by
  subst hc; subst hs2
  exact ax_V4 hd hV hs hci ha hh2 hh hw hb1 hb2 hp hM
theorem ay_S4 {v0 v1 v2 v3 : Value} (hd : decode I.2.1 pc = .ok (.invokestatic idx, 3)) (hV : ac_Sx I.1.cls idx I2 4) (hh2 : I2.2.2.2.2 = []) (hh : I.2.2.2.2 = []) (hw : Nat.ble ((S.map fun v => v.category).sum) 8 = true) (hc : ce' = ce + mc2) (hs2 : sl' = sl + ms2) (hb1 : Nat.ble ce' mc = true) (hb2 : Nat.ble sl' ms = true) (hp : pc' = pc + 3)
    (hM : ac_M g I2 d mc2 ms2 [v0, v1, v2, v3] w (ac_Kn g I (d + 1) mc ms Q ce' sl' pc' L S)) : ac_X g I (d + 1) mc ms Q ce sl pc L (v3 :: v2 :: v1 :: v0 :: S) w := by
  subst hc; subst hs2
  exact ax_S4 hd hV hh2 hh hw hb1 hb2 hp hM
theorem ay_V5 {v0 v1 v2 v3 v4 : Value} {ci : Nat} {tm : List (Option Value)} (hd : decode I.2.1 pc = .ok (.invokevirtual idx, 3)) (hV : ac_V I.1.cls idx I2 5) (hs : sh a = .inr (ci, tm)) (hci : (vwCl[ci]?).map (fun q => q.1) = some I2.1.cls) (ha : Nat.blt a N = true) (hh2 : I2.2.2.2.2 = []) (hh : I.2.2.2.2 = []) (hw : Nat.ble ((S.map fun v => v.category).sum) 8 = true) (hc : ce' = ce + mc2) (hs2 : sl' = sl + ms2) (hb1 : Nat.ble ce' mc = true) (hb2 : Nat.ble sl' ms = true) (hp : pc' = pc + 3)
    (hM : ac_M g I2 d mc2 ms2 (.ref a :: [v0, v1, v2, v3, v4]) (ex, N, sh, σ, τ) (ac_Kn g I (d + 1) mc ms Q ce' sl' pc' L S)) : ac_X g I (d + 1) mc ms Q ce sl pc L (v4 :: v3 :: v2 :: v1 :: v0 :: .ref a :: S) (ex, N, sh, σ, τ) := by
  subst hc; subst hs2
  exact ax_V5 hd hV hs hci ha hh2 hh hw hb1 hb2 hp hM
theorem ay_S5 {v0 v1 v2 v3 v4 : Value} (hd : decode I.2.1 pc = .ok (.invokestatic idx, 3)) (hV : ac_Sx I.1.cls idx I2 5) (hh2 : I2.2.2.2.2 = []) (hh : I.2.2.2.2 = []) (hw : Nat.ble ((S.map fun v => v.category).sum) 8 = true) (hc : ce' = ce + mc2) (hs2 : sl' = sl + ms2) (hb1 : Nat.ble ce' mc = true) (hb2 : Nat.ble sl' ms = true) (hp : pc' = pc + 3)
    (hM : ac_M g I2 d mc2 ms2 [v0, v1, v2, v3, v4] w (ac_Kn g I (d + 1) mc ms Q ce' sl' pc' L S)) : ac_X g I (d + 1) mc ms Q ce sl pc L (v4 :: v3 :: v2 :: v1 :: v0 :: S) w := by
  subst hc; subst hs2
  exact ax_S5 hd hV hh2 hh hw hb1 hb2 hp hM
theorem ay_V6 {v0 v1 v2 v3 v4 v5 : Value} {ci : Nat} {tm : List (Option Value)} (hd : decode I.2.1 pc = .ok (.invokevirtual idx, 3)) (hV : ac_V I.1.cls idx I2 6) (hs : sh a = .inr (ci, tm)) (hci : (vwCl[ci]?).map (fun q => q.1) = some I2.1.cls) (ha : Nat.blt a N = true) (hh2 : I2.2.2.2.2 = []) (hh : I.2.2.2.2 = []) (hw : Nat.ble ((S.map fun v => v.category).sum) 8 = true) (hc : ce' = ce + mc2) (hs2 : sl' = sl + ms2) (hb1 : Nat.ble ce' mc = true) (hb2 : Nat.ble sl' ms = true) (hp : pc' = pc + 3)
    (hM : ac_M g I2 d mc2 ms2 (.ref a :: [v0, v1, v2, v3, v4, v5]) (ex, N, sh, σ, τ) (ac_Kn g I (d + 1) mc ms Q ce' sl' pc' L S)) : ac_X g I (d + 1) mc ms Q ce sl pc L (v5 :: v4 :: v3 :: v2 :: v1 :: v0 :: .ref a :: S) (ex, N, sh, σ, τ) := by
  subst hc; subst hs2
  exact ax_V6 hd hV hs hci ha hh2 hh hw hb1 hb2 hp hM
theorem ay_S6 {v0 v1 v2 v3 v4 v5 : Value} (hd : decode I.2.1 pc = .ok (.invokestatic idx, 3)) (hV : ac_Sx I.1.cls idx I2 6) (hh2 : I2.2.2.2.2 = []) (hh : I.2.2.2.2 = []) (hw : Nat.ble ((S.map fun v => v.category).sum) 8 = true) (hc : ce' = ce + mc2) (hs2 : sl' = sl + ms2) (hb1 : Nat.ble ce' mc = true) (hb2 : Nat.ble sl' ms = true) (hp : pc' = pc + 3)
    (hM : ac_M g I2 d mc2 ms2 [v0, v1, v2, v3, v4, v5] w (ac_Kn g I (d + 1) mc ms Q ce' sl' pc' L S)) : ac_X g I (d + 1) mc ms Q ce sl pc L (v5 :: v4 :: v3 :: v2 :: v1 :: v0 :: S) w := by
  subst hc; subst hs2
  exact ax_S6 hd hV hh2 hh hw hb1 hb2 hp hM
theorem ay_V7 {v0 v1 v2 v3 v4 v5 v6 : Value} {ci : Nat} {tm : List (Option Value)} (hd : decode I.2.1 pc = .ok (.invokevirtual idx, 3)) (hV : ac_V I.1.cls idx I2 7) (hs : sh a = .inr (ci, tm)) (hci : (vwCl[ci]?).map (fun q => q.1) = some I2.1.cls) (ha : Nat.blt a N = true) (hh2 : I2.2.2.2.2 = []) (hh : I.2.2.2.2 = []) (hw : Nat.ble ((S.map fun v => v.category).sum) 8 = true) (hc : ce' = ce + mc2) (hs2 : sl' = sl + ms2) (hb1 : Nat.ble ce' mc = true) (hb2 : Nat.ble sl' ms = true) (hp : pc' = pc + 3)
    (hM : ac_M g I2 d mc2 ms2 (.ref a :: [v0, v1, v2, v3, v4, v5, v6]) (ex, N, sh, σ, τ) (ac_Kn g I (d + 1) mc ms Q ce' sl' pc' L S)) : ac_X g I (d + 1) mc ms Q ce sl pc L (v6 :: v5 :: v4 :: v3 :: v2 :: v1 :: v0 :: .ref a :: S) (ex, N, sh, σ, τ) := by
  subst hc; subst hs2
  exact ax_V7 hd hV hs hci ha hh2 hh hw hb1 hb2 hp hM
theorem ay_S7 {v0 v1 v2 v3 v4 v5 v6 : Value} (hd : decode I.2.1 pc = .ok (.invokestatic idx, 3)) (hV : ac_Sx I.1.cls idx I2 7) (hh2 : I2.2.2.2.2 = []) (hh : I.2.2.2.2 = []) (hw : Nat.ble ((S.map fun v => v.category).sum) 8 = true) (hc : ce' = ce + mc2) (hs2 : sl' = sl + ms2) (hb1 : Nat.ble ce' mc = true) (hb2 : Nat.ble sl' ms = true) (hp : pc' = pc + 3)
    (hM : ac_M g I2 d mc2 ms2 [v0, v1, v2, v3, v4, v5, v6] w (ac_Kn g I (d + 1) mc ms Q ce' sl' pc' L S)) : ac_X g I (d + 1) mc ms Q ce sl pc L (v6 :: v5 :: v4 :: v3 :: v2 :: v1 :: v0 :: S) w := by
  subst hc; subst hs2
  exact ax_S7 hd hV hh2 hh hw hb1 hb2 hp hM
theorem ay_V8 {v0 v1 v2 v3 v4 v5 v6 v7 : Value} {ci : Nat} {tm : List (Option Value)} (hd : decode I.2.1 pc = .ok (.invokevirtual idx, 3)) (hV : ac_V I.1.cls idx I2 8) (hs : sh a = .inr (ci, tm)) (hci : (vwCl[ci]?).map (fun q => q.1) = some I2.1.cls) (ha : Nat.blt a N = true) (hh2 : I2.2.2.2.2 = []) (hh : I.2.2.2.2 = []) (hw : Nat.ble ((S.map fun v => v.category).sum) 8 = true) (hc : ce' = ce + mc2) (hs2 : sl' = sl + ms2) (hb1 : Nat.ble ce' mc = true) (hb2 : Nat.ble sl' ms = true) (hp : pc' = pc + 3)
    (hM : ac_M g I2 d mc2 ms2 (.ref a :: [v0, v1, v2, v3, v4, v5, v6, v7]) (ex, N, sh, σ, τ) (ac_Kn g I (d + 1) mc ms Q ce' sl' pc' L S)) : ac_X g I (d + 1) mc ms Q ce sl pc L (v7 :: v6 :: v5 :: v4 :: v3 :: v2 :: v1 :: v0 :: .ref a :: S) (ex, N, sh, σ, τ) := by
  subst hc; subst hs2
  exact ax_V8 hd hV hs hci ha hh2 hh hw hb1 hb2 hp hM
theorem ay_S8 {v0 v1 v2 v3 v4 v5 v6 v7 : Value} (hd : decode I.2.1 pc = .ok (.invokestatic idx, 3)) (hV : ac_Sx I.1.cls idx I2 8) (hh2 : I2.2.2.2.2 = []) (hh : I.2.2.2.2 = []) (hw : Nat.ble ((S.map fun v => v.category).sum) 8 = true) (hc : ce' = ce + mc2) (hs2 : sl' = sl + ms2) (hb1 : Nat.ble ce' mc = true) (hb2 : Nat.ble sl' ms = true) (hp : pc' = pc + 3)
    (hM : ac_M g I2 d mc2 ms2 [v0, v1, v2, v3, v4, v5, v6, v7] w (ac_Kn g I (d + 1) mc ms Q ce' sl' pc' L S)) : ac_X g I (d + 1) mc ms Q ce sl pc L (v7 :: v6 :: v5 :: v4 :: v3 :: v2 :: v1 :: v0 :: S) w := by
  subst hc; subst hs2
  exact ax_S8 hd hV hh2 hh hw hb1 hb2 hp hM
end AYC
theorem ac_in {j : Int32} {n : Nat} (h : ¬ (j < 0 ∨ n ≤ j.toNatClampNeg)) : vp_in j n := h
