/-! THE THROW OF AN EXCEPTION WHOSE OWN CONSTRUCTOR HANDS ON BY ANOTHER POOL ENTRY THAN THE LIBRARY'S CHAIN KNOWS (NoSuchElementException) -/
/-- the words of such a throw: the first constructor's own, then those of a throw of its superclass Y -/
def nt_own (own : String) (ic : Nat) (X Y : String) (idx : Nat) (bytes : ByteArray) (names : List String) : List Cond :=
  Bundle.throwableAtoms ++ Bundle.throwableSAtoms ++ (Bundle.passSAtoms X Y idx bytes ++ Bundle.chainSAtoms Y names) ++
  [.methodLink own ic (Bundle.initS X), .instantiable X 6, .castable X X, .selects X Bundle.tFill0 Bundle.tFill0, .selects X Bundle.tFill Bundle.tFill,
   .lays X Bundle.tN "cause" "Ljava/lang/Throwable;", .lays X Bundle.tN "stackTrace" Bundle.steD, .lays X Bundle.tN "suppressedExceptions" Bundle.listD, .lays X Bundle.tN "detailMessage" "Ljava/lang/String;",
   .isRef (.static Bundle.tN "UNASSIGNED_STACK" Bundle.steD), .isRef (.static Bundle.tN "SUPPRESSED_SENTINEL" Bundle.listD),
   .fieldLink Bundle.tN 198 Bundle.tN "backtrace" "Ljava/lang/Object;", .lays Bundle.tN Bundle.tN "backtrace" "Ljava/lang/Object;", .lays X Bundle.tN "backtrace" "Ljava/lang/Object;"]
def ac_Tn (own : String) (ik ic : Nat) (cls Y : String) (idx : Nat) (bytes : ByteArray) (names : List String) : Prop := Bundle.fit cls = true ∧ Bundle.fit Y = true ∧ (∀ n ∈ names, Bundle.fit n = true) ∧ (decode bytes 0 = .ok (.aload_n 0, 1) ∧ decode bytes 1 = .ok (.aload_n 1, 1) ∧ decode bytes 2 = .ok (.invokespecial idx, 3) ∧ decode bytes 5 = .ok (.return_, 1)) ∧ (∀ w ∈ Cond.classLink own ik cls :: Cond.initialized cls :: (nt_own own ic cls Y idx bytes names).filter vx_no, w ∈ lw_tbl ∧ w.onTables = true ∧ w.keepsFace = true)
section AXN
variable {g : ac_G} {I I2 : ac_I} {d mc ms mc2 ms2 ce sl pc pc' n idx : Nat} {Q : ac_O → ac_W → Prop} {L : List (Option Value)} {S : List Value} {w : ac_W}
theorem ax_throwN {ik is ic i idx : Nat} {cls text Y : String} {bytes : List Int32} {bs : ByteArray} {names : List String} (hT : ac_Tn I.1.cls ik ic cls Y idx bs names) (hi : ac_str[i]? = some (I.1.cls, is, text, bytes)) (hh : I.2.2.2.2 = [])
    (d0 : decode I.2.1 pc = .ok (.new ik, 3)) (d3 : decode I.2.1 (pc + 3) = .ok (.dup, 1)) (d4 : decode I.2.1 (pc + 4) = .ok (.ldc_w is, 3)) (d7 : decode I.2.1 (pc + 7) = .ok (.invokespecial ic, 3)) (d10 : decode I.2.1 (pc + 10) = .ok (.athrow, 1))
    (hw : Nat.ble ((S.map fun v => v.category).sum) 8 = true) (hnl : Nat.ble names.length 4 = true) (hc : Nat.ble (ce + 1) mc = true) (hsl : Nat.ble (sl + 6) ms = true) (hQ : Q (.inr cls) (false, w.2)) : ac_X g I d mc ms Q ce sl pc L S w := by
  sorry
end AXN
