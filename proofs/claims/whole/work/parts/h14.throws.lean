/-! RULES OF THROWS, constants, the JDK's members -/
section AXT
variable {g : ac_G} {I I2 : ac_I} {d mc ms mc2 ms2 ce sl pc pc' n idx : Nat} {Q : ac_O → ac_W → Prop} {L : List (Option Value)} {S : List Value} {w : ac_W}
variable {ex : Bool} {N : Nat} {sh : Nat → ac_S} {σ : Nat → Nat → Int32} {τ : Nat → Nat → Int64} {a : Nat}
/-- the words of a throw of a new exception with a written text -/
def ac_Tw (own : String) (ik ic : Nat) (cls : String) (names : List String) : Prop := Bundle.fit cls = true ∧ (∀ n ∈ names, Bundle.fit n = true) ∧ (∀ w ∈ Cond.classLink own ik cls :: Cond.initialized cls :: vx_atS own ic cls names, w ∈ lw_tbl ∧ w.onTables = true ∧ w.keepsFace = true)
theorem ax_throwS {ik is ic i : Nat} {cls text : String} {bytes : List Int32} {names : List String} (hT : ac_Tw I.1.cls ik ic cls names) (hi : ac_str[i]? = some (I.1.cls, is, text, bytes)) (hh : I.2.2.2.2 = [])
    (d0 : decode I.2.1 pc = .ok (.new ik, 3)) (d3 : decode I.2.1 (pc + 3) = .ok (.dup, 1)) (d4 : decode I.2.1 (pc + 4) = .ok (.ldc_w is, 3)) (d7 : decode I.2.1 (pc + 7) = .ok (.invokespecial ic, 3)) (d10 : decode I.2.1 (pc + 10) = .ok (.athrow, 1))
    (hw : Nat.ble ((S.map fun v => v.category).sum) 8 = true) (hnl : Nat.ble names.length 4 = true) (hc : Nat.ble (ce + 1) mc = true) (hsl : Nat.ble (sl + 6) ms = true) (hQ : Q (.inr cls) (false, w.2)) : ac_X g I d mc ms Q ce sl pc L S w := by
  intro p e s m args below meth c X H locs ls hR hS hL
  obtain ⟨t1, t2, t3⟩ := hT
  have hA := X.2.2.2.2.2.2.2.2.2.1
  have hN := hA.2.2.2.1
  have hwd : ∀ x ∈ Cond.classLink I.1.cls ik cls :: Cond.initialized cls :: vx_atS I.1.cls ic cls names, x.before args s = true := fun x hx => va_Nw.use (t3 x hx).2.1 (hN.1 x (t3 x hx).1 (t3 x hx).2.1 (t3 x hx).2.2)
  have hnl' : names.length ≤ 4 := Nat.le_of_ble_eq_true hnl
  have hw' : (S.map fun v => v.category).sum ≤ 8 := Nat.le_of_ble_eq_true hw
  have hc' : ce + 1 ≤ mc := Nat.le_of_ble_eq_true hc
  have hs' : sl + 6 ≤ ms := Nat.le_of_ble_eq_true hsl
  refine vx_throwSW (A := ac_Z g) (names := names) X.1 X.2.1 X.2.2.2.2.2.2.2.2.2.2.2 X.2.2.2.2.2.1 t1 t2 (hwd _ List.mem_cons_self) (hwd _ (List.mem_cons_of_mem _ List.mem_cons_self)) (hA.2.2.2.2.2.2 i _ hi).1 (fun x hx => hwd x (List.mem_cons_of_mem _ (List.mem_cons_of_mem _ hx)))
    (fun x hx => by unfold vx_ot; rw [(t3 x hx).2.1]; rfl) hA.2.1 hA.2.2.1 hS (by rw [hL.1]; exact X.2.2.1.symm) d0 d3 d4 d7 d10 (by
      rw [X.2.2.2.2.2.2.2.1, hh]
      intro x hx
      cases hx) (by show names.length + 3 < d + 12; omega) (by rw [ac_sum]; show _ ≤ 64 * d + 256; omega) (by show ce + 1 ≤ mc; exact hc') (by show sl + 6 ≤ ms; exact hs') X.2.2.2.2.1 (fun t hvm hz hk => ?_) hS.2.2 hc' hs'
  have hS2 : va_S (ac_Z g) s.heap t.heap locs := ⟨Nat.le_trans hS.1 hz, fun q h1 h2 => by rw [hk q (Nat.lt_of_lt_of_le h1 hS.1)]; exact hS.2.1 q h1 h2, hS.2.2⟩
  refine ⟨(false, w.2), hQ, ⟨fun k q hq => (hR.1 k q hq).kept (hk _ (hR.1 k q hq).lt), hR.2.1, Nat.le_trans hR.2.2.1 hz, fun z => by cases z⟩, hS2.F rfl⟩
theorem ax_ldc {index : Nat} {v : Int32} (hd : decode I.2.1 pc = .ok (.ldc index, 2)) (hC : Cond.constant I.1.cls index v ∈ ac_tb) (hp : pc' = pc + 2) (kk : ac_X g I d mc ms Q ce sl pc' L (.int v :: S) w) : ac_X g I d mc ms Q ce sl pc L S w := by
  subst hp
  intro p e s m args below meth c X H locs ls hR hS hL
  exact lv_ldc X.1 X.2.1 X.2.2.2.2.2.1 (X.2.2.2.2.2.2.1 _ (List.mem_cons_of_mem _ hC)) hd (kk p e s m args below meth c X H locs ls hR hS hL)
theorem ax_ldcw {index : Nat} {v : Int32} (hd : decode I.2.1 pc = .ok (.ldc_w index, 3)) (hC : Cond.constant I.1.cls index v ∈ ac_tb) (hp : pc' = pc + 3) (kk : ac_X g I d mc ms Q ce sl pc' L (.int v :: S) w) : ac_X g I d mc ms Q ce sl pc L S w := by
  subst hp
  intro p e s m args below meth c X H locs ls hR hS hL
  exact lv_ldcw X.1 X.2.1 X.2.2.2.2.2.1 (X.2.2.2.2.2.2.1 _ (List.mem_cons_of_mem _ hC)) hd (kk p e s m args below meth c X H locs ls hR hS hL)
theorem ax_ldc2 {index : Nat} {v : Int64} (hd : decode I.2.1 pc = .ok (.ldc2_w index, 3)) (hC : Cond.constantLong I.1.cls index v ∈ ac_tb) (hp : pc' = pc + 3) (kk : ac_X g I d mc ms Q ce sl pc' L (.long v :: S) w) : ac_X g I d mc ms Q ce sl pc L S w := by
  subst hp
  intro p e s m args below meth c X H locs ls hR hS hL
  exact lv_ldc2 X.1 X.2.1 X.2.2.2.2.2.1 (X.2.2.2.2.2.2.1 _ (List.mem_cons_of_mem _ hC)) hd (kk p e s m args below meth c X H locs ls hR hS hL)
/-- a String constant: its number from 1000001 on -/
theorem ax_ldcS {index i : Nat} {text : String} {bytes : List Int32} (hd : decode I.2.1 pc = .ok (.ldc index, 2)) (hi : ac_str[i]? = some (I.1.cls, index, text, bytes)) (hp : pc' = pc + 2) (kk : ac_X g I d mc ms Q ce sl pc' L (.ref (1000001 + i) :: S) w) : ac_X g I d mc ms Q ce sl pc L S w := by
  subst hp
  intro p e s m args below meth c X H locs ls hR hS hL
  have hA := X.2.2.2.2.2.2.2.2.2.1
  refine va_ldcS (q := g.2.2.1 (1 + i)) X.1 X.2.1 X.2.2.2.2.2.1 (hA.2.2.2.2.2.2 i _ hi).1 hd ?_
  have h := kk p e s m args below meth c X H locs ls hR hS hL
  have e1 : ac_r g (1000001 + i) = g.2.2.1 (1 + i) := by
    unfold ac_r
    rw [if_neg (by omega), show 1000001 + i - 1000000 = 1 + i by omega]
  rw [← e1]
  exact h
theorem ax_max {x y : Int32} (hd : decode I.2.1 pc = .ok (.invokestatic idx, 3)) (hl : Cond.methodLink I.1.cls idx Lib.Math.max.name ∈ ac_tb) (h2 : Cond.static Lib.Math.max.name ∈ ac_tb) (h3 : Cond.initialized "java/lang/Math" ∈ ac_tb) (h4 : Cond.code Lib.Math.max.name Lib.Math.max.code 2 (some .int) ∈ ac_tb) (hw : Nat.ble ((S.map fun v => v.category).sum) 8 = true) (hc : Nat.ble ce mc = true) (hsl : Nat.ble sl ms = true) (hp : pc' = pc + 3) (kk : ac_X g I d mc ms Q ce sl pc' L (.int (if x < y then y else x) :: S) w) : ac_X g I d mc ms Q ce sl pc L (.int y :: .int x :: S) w := by
  subst hp
  intro p e s m args below meth c X H locs ls hR hS hL
  have hts : ∀ w ∈ ac_tb, w.before args s = true := fun w h => X.2.2.2.2.2.2.1 w (List.mem_cons_of_mem _ h)
  have hw' : (S.map fun v => v.category).sum ≤ 8 := Nat.le_of_ble_eq_true hw
  exact va_mmax X.1 X.2.1 (by rw [hL.1]; exact X.2.2.1) X.2.2.2.2.2.1 (hts _ hl) (hts _ h2) (hts _ h3) (hts _ h4) (by show 1 ≤ d + 12; omega) (by rw [ac_sum]; show _ ≤ 64 * d + 256; omega) (Nat.le_of_ble_eq_true hc) (Nat.le_of_ble_eq_true hsl) hd (kk p e s m args below meth c X H locs ls hR hS hL)
theorem ax_min {x y : Int32} (hd : decode I.2.1 pc = .ok (.invokestatic idx, 3)) (hl : Cond.methodLink I.1.cls idx Lib.Math.min.name ∈ ac_tb) (h2 : Cond.static Lib.Math.min.name ∈ ac_tb) (h3 : Cond.initialized "java/lang/Math" ∈ ac_tb) (h4 : Cond.code Lib.Math.min.name Lib.Math.min.code 2 (some .int) ∈ ac_tb) (hw : Nat.ble ((S.map fun v => v.category).sum) 8 = true) (hc : Nat.ble ce mc = true) (hsl : Nat.ble sl ms = true) (hp : pc' = pc + 3) (kk : ac_X g I d mc ms Q ce sl pc' L (.int (if y < x then y else x) :: S) w) : ac_X g I d mc ms Q ce sl pc L (.int y :: .int x :: S) w := by
  subst hp
  intro p e s m args below meth c X H locs ls hR hS hL
  have hts : ∀ w ∈ ac_tb, w.before args s = true := fun w h => X.2.2.2.2.2.2.1 w (List.mem_cons_of_mem _ h)
  have hw' : (S.map fun v => v.category).sum ≤ 8 := Nat.le_of_ble_eq_true hw
  exact va_mmin X.1 X.2.1 (by rw [hL.1]; exact X.2.2.1) X.2.2.2.2.2.1 (hts _ hl) (hts _ h2) (hts _ h3) (hts _ h4) (by show 1 ≤ d + 12; omega) (by rw [ac_sum]; show _ ≤ 64 * d + 256; omega) (Nat.le_of_ble_eq_true hc) (Nat.le_of_ble_eq_true hsl) hd (kk p e s m args below meth c X H locs ls hR hS hL)
end AXT
