/-! THE JDK'S MEMBERS OF STRING CONSTANTS: length, charAt -/
theorem ac_str_at {i : Nat} (h : i < 22) : ∃ q, ac_str[i]? = some q ∧ q.2.2.2 = ac_sb i := by
  have hl : ac_str.length = 22 := rfl
  have h1 : ac_str[i]? = some (ac_str[i]'(by rw [hl]; exact h)) := List.getElem?_eq_getElem _
  exact ⟨_, h1, by unfold ac_sb; rw [h1]; rfl⟩
theorem ac_ext {g : ac_G} (k : Nat) : ac_r g (1000000 + k) = g.2.2.1 k := by
  unfold ac_r
  rw [if_neg (by omega), show 1000000 + k - 1000000 = k by omega]
section AXJ
variable {g : ac_G} {I I2 : ac_I} {d mc ms mc2 ms2 ce sl pc pc' n idx : Nat} {Q : ac_O → ac_W → Prop} {L : List (Option Value)} {S : List Value} {w : ac_W}
/-- a static call's or an instance call's receiver that is one of the String constants -/
theorem ax_invVs {i : Nat} {As St : List Value} (hst : St = As.reverse ++ .ref (1000000 + (1 + i)) :: S) (hi : i < 22) (hd : decode I.2.1 pc = .ok (.invokevirtual idx, 3)) (hV : ac_V I.1.cls idx I2 n) (hcl : I2.1.cls = "java/lang/String") (hn : As.length = n) (hh2 : I2.2.2.2.2 = []) (hh : I.2.2.2.2 = []) (hw : Nat.ble ((S.map fun v => v.category).sum) 8 = true) (hb1 : Nat.ble (ce + mc2) mc = true) (hb2 : Nat.ble (sl + ms2) ms = true)
    (hM : ac_M g I2 d mc2 ms2 (.ref (1000000 + (1 + i)) :: As) w (ac_Kn g I (d + 1) mc ms Q (ce + mc2) (sl + ms2) (pc + 3) L S)) : ac_X g I (d + 1) mc ms Q ce sl pc L St w := by
  subst hst
  intro p e s m args below meth c X H locs ls hR hS hL
  obtain ⟨v1, v2, v3, v4, v5, v6, v7⟩ := hV
  have hts := X.2.2.2.2.2.2.1
  have hw2 : ac_wd I2 = Cond.code I2.1 I2.2.1 I2.2.2.1 I2.2.2.2.1 :: ac_tb := by
    unfold ac_wd ac_code
    rw [hh2]
  have hG : GoodIn (ac_wd I) (wsV I.1.cls idx I2.1.cls I2.1 (ac_wd I2)) := ac_good_c v1 (ac_good_c v2 (ac_good_c v3 (ac_good_c v4 (ac_good_wd v5))))
  have cw := cwV (R := ac_rm (d + 1) mc ms) (rm := ac_rm d mc2 ms2) n hts hG hw2 rfl rfl ⟨rfl, v6⟩ (ac_rooms v7)
  obtain ⟨q, hq, -⟩ := ac_str_at hi
  have hO := ((X.2.2.2.2.2.2.2.2.2.1.2.2.2.2.2.2 i q hq).2.1).kept hS.2.1
  have hrecv : ∃ cell : Cell, H[ac_r g (1000000 + (1 + i))]? = some cell ∧ cell.vm.isStatics = false ∧ s.vm.findClass I2.1.cls = some cell.cls := by
    obtain ⟨cell, h1, h2, h3, -⟩ := hO
    rw [ac_ext, hcl]
    exact ⟨cell, h1, h2, h3⟩
  have hrun := vx_runV (e := e) (below := below) (meth := meth) (locs := locs) (cells := ce) (slots := sl) (g := F0 m pc ls ((As.reverse ++ .ref (1000000 + (1 + i)) :: S).map (ac_v g))) (rest := S.map (ac_v g)) (As := As.map (ac_v g)) (b := ac_r g (1000000 + (1 + i))) ⟨X.1, X.2.1, X.2.2.1, X.2.2.2.2.2.1, hts⟩ (hM X.2.2.2.2.2.2.2.2.2.2.2) cw
    ⟨ac_P.blind g _ _, hrecv, fun U hU hW => ⟨rfl, by rw [hU]; exact hR, by rw [hU]; exact X.2.2.2.2.2.2.2.2.2.1.later X.2.2.2.2.2.2.2.2.2.2.1 hW hS⟩⟩ rfl (by rw [List.length_map]; exact hn) hL.1
    (by simp [List.map_append, List.map_reverse, ac_v]) (lv_room (by rw [ac_sum]; exact Nat.le_of_ble_eq_true hw)) hd ⟨Nat.le_of_ble_eq_true hb1, Nat.le_of_ble_eq_true hb2⟩
  exact ac_run (S := S) hh X hS hL (Nat.le_of_ble_eq_true hb1) (Nat.le_of_ble_eq_true hb2) hrun
theorem ax_getCS (hd : decode I.2.1 pc = .ok (.getstatic 38, 3)) (hF : Cond.fieldLink I.1.cls 38 "java/lang/String" "COMPACT_STRINGS" "Z" ∈ ac_tb) (hp : pc' = pc + 3) (kk : ac_X g I d mc ms Q ce sl pc' L (.int 1 :: S) w) : ac_X g I d mc ms Q ce sl pc L S w := by
  subst hp
  intro p e s m args below meth c X H locs ls hR hS hL
  exact va_gets X.1 X.2.1 X.2.2.2.2.2.2.2.2.2.1.2.2.2.2.2.1 hS X.2.2.2.2.2.1 (X.2.2.2.2.2.2.1 _ (List.mem_cons_of_mem _ hF)) (fun _ z => z) hd (kk p e s m args below meth c X H locs ls hR hS hL)
theorem ax_getFM (hd : decode I.2.1 pc = .ok (.getstatic 1053, 3)) (hF : Cond.fieldLink I.1.cls 1053 "jdk/internal/util/Preconditions" "SIOOBE_FORMATTER" "Ljava/util/function/BiFunction;" ∈ ac_tb) (hp : pc' = pc + 3) (kk : ∀ v : Value, v.category = 1 → ac_X g I d mc ms Q ce sl pc' L (v :: S) w) : ac_X g I d mc ms Q ce sl pc L S w := by
  subst hp
  intro p e s m args below meth c X H locs ls hR hS hL
  rcases X.2.2.2.2.2.2.2.2.2.1.2.2.2.2.1.2 with h | h
  · exact va_gets X.1 X.2.1 h hS X.2.2.2.2.2.1 (X.2.2.2.2.2.2.1 _ (List.mem_cons_of_mem _ hF)) (fun _ z => z) hd (kk .null rfl p e s m args below meth c X H locs ls hR hS hL)
  · have h2 := kk (.ref (1000000 + 50)) rfl p e s m args below meth c X H locs ls hR hS hL
    have e1 : (Value.ref (1000000 + 50) :: S).map (ac_v g) = .ref (g.2.2.1 50) :: S.map (ac_v g) := by
      show Value.ref (ac_r g (1000000 + 50)) :: _ = _
      rw [ac_ext]
    rw [e1] at h2
    exact va_gets X.1 X.2.1 h hS X.2.2.2.2.2.1 (X.2.2.2.2.2.2.1 _ (List.mem_cons_of_mem _ hF)) (fun _ z => z) hd h2
theorem ax_getSV {i : Nat} (hi : i < 22) (hd : decode I.2.1 pc = .ok (.getfield 9, 3)) (hF : Cond.fieldLink I.1.cls 9 "java/lang/String" "value" "[B" ∈ ac_tb) (hp : pc' = pc + 3) (kk : ac_X g I d mc ms Q ce sl pc' L (.ref (1000000 + (101 + i)) :: S) w) : ac_X g I d mc ms Q ce sl pc L (.ref (1000000 + (1 + i)) :: S) w := by
  subst hp
  intro p e s m args below meth c X H locs ls hR hS hL
  obtain ⟨q, hq, -⟩ := ac_str_at hi
  have h := (X.2.2.2.2.2.2.2.2.2.1.2.2.2.2.2.2 i q hq).2.2.2.1
  have h2 := kk p e s m args below meth c X H locs ls hR hS hL
  have e1 : (Value.ref (1000000 + (101 + i)) :: S).map (ac_v g) = .ref (g.2.2.1 (101 + i)) :: S.map (ac_v g) := by
    show Value.ref (ac_r g _) :: _ = _
    rw [ac_ext]
  have e2 : (Value.ref (1000000 + (1 + i)) :: S).map (ac_v g) = .ref (g.2.2.1 (1 + i)) :: S.map (ac_v g) := by
    show Value.ref (ac_r g _) :: _ = _
    rw [ac_ext]
  rw [e1] at h2
  rw [e2]
  exact vk_getf X.1 X.2.1 h hS X.2.2.2.2.2.1 (X.2.2.2.2.2.2.1 _ (List.mem_cons_of_mem _ hF)) (fun _ z => z) hd h2
theorem ax_getSC {i : Nat} (hi : i < 22) (hd : decode I.2.1 pc = .ok (.getfield 15, 3)) (hF : Cond.fieldLink I.1.cls 15 "java/lang/String" "coder" "B" ∈ ac_tb) (hp : pc' = pc + 3) (kk : ac_X g I d mc ms Q ce sl pc' L (.int 0 :: S) w) : ac_X g I d mc ms Q ce sl pc L (.ref (1000000 + (1 + i)) :: S) w := by
  subst hp
  intro p e s m args below meth c X H locs ls hR hS hL
  obtain ⟨q, hq, -⟩ := ac_str_at hi
  have h := (X.2.2.2.2.2.2.2.2.2.1.2.2.2.2.2.2 i q hq).2.2.1
  have h2 := kk p e s m args below meth c X H locs ls hR hS hL
  have e2 : (Value.ref (1000000 + (1 + i)) :: S).map (ac_v g) = .ref (g.2.2.1 (1 + i)) :: S.map (ac_v g) := by
    show Value.ref (ac_r g _) :: _ = _
    rw [ac_ext]
  rw [e2]
  exact vk_getf X.1 X.2.1 h hS X.2.2.2.2.2.1 (X.2.2.2.2.2.2.1 _ (List.mem_cons_of_mem _ hF)) (fun _ z => z) hd h2
theorem ax_lenS {i : Nat} (hi : i < 22) (hd : decode I.2.1 pc = .ok (.arraylength, 1)) (hp : pc' = pc + 1) (kk : ac_X g I d mc ms Q ce sl pc' L (.int (nI (ac_sb i).length) :: S) w) : ac_X g I d mc ms Q ce sl pc L (.ref (1000000 + (101 + i)) :: S) w := by
  subst hp
  intro p e s m args below meth c X H locs ls hR hS hL
  obtain ⟨q, hq, hb⟩ := ac_str_at hi
  have h := (X.2.2.2.2.2.2.2.2.2.1.2.2.2.2.2.2 i q hq).2.2.2.2
  have e2 : (Value.ref (1000000 + (101 + i)) :: S).map (ac_v g) = .ref (g.2.2.1 (101 + i)) :: S.map (ac_v g) := by
    show Value.ref (ac_r g _) :: _ = _
    rw [ac_ext]
  rw [e2]
  exact va_tlen X.1 X.2.1 h hS (by rw [hb]; rfl) hd (kk p e s m args below meth c X H locs ls hR hS hL)
theorem ax_aldS {i : Nat} {j : Int32} (hi : i < 22) (hd : decode I.2.1 pc = .ok (.baload, 1)) (hj : vp_in j (ac_sb i).length) (hp : pc' = pc + 1) (kk : ac_X g I d mc ms Q ce sl pc' L (.int ((ac_sb i).getD j.toNatClampNeg 0) :: S) w) : ac_X g I d mc ms Q ce sl pc L (.int j :: .ref (1000000 + (101 + i)) :: S) w := by
  subst hp
  intro p e s m args below meth c X H locs ls hR hS hL
  obtain ⟨q, hq, hb⟩ := ac_str_at hi
  have h := (X.2.2.2.2.2.2.2.2.2.1.2.2.2.2.2.2 i q hq).2.2.2.2
  have e2 : (Value.int j :: Value.ref (1000000 + (101 + i)) :: S).map (ac_v g) = .int j :: .ref (g.2.2.1 (101 + i)) :: S.map (ac_v g) := by
    show Value.int j :: Value.ref (ac_r g _) :: _ = _
    rw [ac_ext]
  rw [e2]
  rw [hb] at h
  exact va_tb X.1 X.2.1 h hS hj rfl hd (kk p e s m args below meth c X H locs ls hR hS hL)
end AXJ
