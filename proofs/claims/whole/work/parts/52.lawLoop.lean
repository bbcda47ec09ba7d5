/-! one call of the loop, whatever its answer -/
theorem lx_fact {p : Program} {e : Env} {s : State} {m : MethodId} {below : List Frame} {meth : Method} {c : Code} {l : Launch} {b L : Nat} {xs : Nat → Int32} {D : va_G} {ta : Nat → ClassId} {A : Nat → Prop} {Q : State → Prop} (F9 : LFix p l s m meth c b L xs D ta A) {n cells slots : Nat} {ix a1 a2 a3 : Int32} (hn : n < 2 ^ 60) (hc : cells + 1 ≤ room_1.cells ∧ slots + 6 ≤ room_1.slots) (hi1 : vp_in (ix + 1) L) (hi2 : vp_in (ix + 2) L) (hi3 : vp_in (ix + 3) L) (ha1 : xs (ix + 1).toNatClampNeg = a1) (ha2 : xs (ix + 2).toNatClampNeg = a2) (ha3 : xs (ix + 3).toNatClampNeg = a3) (N9 : LGo p l e s m below meth c b D ta A Q (n + 1) (cells + 1) (slots + 6) 1045 ix) {ad : LAd} {cs : LCs} {ms : LMs} {H : Heap} {locs : List Loc} {ls : Array Slot} (hs : SIM n cs ms) (hP : va_P D vwCl (wl ta ad cs ms) H) (hD : va_D A (wl ta ad cs ms)) (hS : va_S A s.heap H locs) (hl : lv_has ls 8 (llv ad b ix)) : W p l e room_1 s m #[Value.ref b] below meth c H locs cells slots Q (F0 m 158 ls []) := by
  cases h_1 : isFL a1
  · exact lw_fact_1 F9 hn hc hi1 hi2 hi3 ha1 ha2 ha3 N9 hs hP hD hS hl h_1
  · cases h_2 : fnOK a2 a3
    · exact lw_fact_2 F9 hn hc hi1 hi2 hi3 ha1 ha2 ha3 N9 hs hP hD hS hl h_1 h_2
    · exact lw_fact_0 F9 hn hc hi1 hi2 hi3 ha1 ha2 ha3 N9 hs hP hD hS hl h_1 h_2
theorem lx_forget {p : Program} {e : Env} {s : State} {m : MethodId} {below : List Frame} {meth : Method} {c : Code} {l : Launch} {b L : Nat} {xs : Nat → Int32} {D : va_G} {ta : Nat → ClassId} {A : Nat → Prop} {Q : State → Prop} (F9 : LFix p l s m meth c b L xs D ta A) {n cells slots : Nat} {ix a1 a2 a3 : Int32} (hn : n < 2 ^ 60) (hc : cells + 1 ≤ room_1.cells ∧ slots + 6 ≤ room_1.slots) (hi1 : vp_in (ix + 1) L) (hi2 : vp_in (ix + 2) L) (hi3 : vp_in (ix + 3) L) (ha1 : xs (ix + 1).toNatClampNeg = a1) (ha2 : xs (ix + 2).toNatClampNeg = a2) (ha3 : xs (ix + 3).toNatClampNeg = a3) (N9 : LGo p l e s m below meth c b D ta A Q (n + 1) (cells + 1) (slots + 6) 1045 ix) {ad : LAd} {cs : LCs} {ms : LMs} {H : Heap} {locs : List Loc} {ls : Array Slot} (hs : SIM n cs ms) (hP : va_P D vwCl (wl ta ad cs ms) H) (hD : va_D A (wl ta ad cs ms)) (hS : va_S A s.heap H locs) (hl : lv_has ls 8 (llv ad b ix)) : W p l e room_1 s m #[Value.ref b] below meth c H locs cells slots Q (F0 m 218 ls []) := by
  cases h_1 : isFL a1
  · exact lw_forget_1 F9 hn hc hi1 hi2 hi3 ha1 ha2 ha3 N9 hs hP hD hS hl h_1
  · exact lw_forget_0 F9 hn hc hi1 hi2 hi3 ha1 ha2 ha3 N9 hs hP hD hS hl h_1
theorem lx_line {p : Program} {e : Env} {s : State} {m : MethodId} {below : List Frame} {meth : Method} {c : Code} {l : Launch} {b L : Nat} {xs : Nat → Int32} {D : va_G} {ta : Nat → ClassId} {A : Nat → Prop} {Q : State → Prop} (F9 : LFix p l s m meth c b L xs D ta A) {n cells slots : Nat} {ix a1 a2 a3 : Int32} (hn : n < 2 ^ 60) (hc : cells + 1 ≤ room_1.cells ∧ slots + 6 ≤ room_1.slots) (hi1 : vp_in (ix + 1) L) (hi2 : vp_in (ix + 2) L) (hi3 : vp_in (ix + 3) L) (ha1 : xs (ix + 1).toNatClampNeg = a1) (ha2 : xs (ix + 2).toNatClampNeg = a2) (ha3 : xs (ix + 3).toNatClampNeg = a3) (N9 : LGo p l e s m below meth c b D ta A Q (n + 1) (cells + 1) (slots + 6) 1045 ix) {ad : LAd} {cs : LCs} {ms : LMs} {H : Heap} {locs : List Loc} {ls : Array Slot} (hs : SIM n cs ms) (hP : va_P D vwCl (wl ta ad cs ms) H) (hD : va_D A (wl ta ad cs ms)) (hS : va_S A s.heap H locs) (hl : lv_has ls 8 (llv ad b ix)) : W p l e room_1 s m #[Value.ref b] below meth c H locs cells slots Q (F0 m 308 ls []) := by
  cases h_1 : lnOK a1 cs.lc a2
  · exact lw_line_1 F9 hn hc hi1 hi2 hi3 ha1 ha2 ha3 N9 hs hP hD hS hl h_1
  · exact lw_line_0 F9 hn hc hi1 hi2 hi3 ha1 ha2 ha3 N9 hs hP hD hS hl h_1
theorem lx_changed {p : Program} {e : Env} {s : State} {m : MethodId} {below : List Frame} {meth : Method} {c : Code} {l : Launch} {b L : Nat} {xs : Nat → Int32} {D : va_G} {ta : Nat → ClassId} {A : Nat → Prop} {Q : State → Prop} (F9 : LFix p l s m meth c b L xs D ta A) {n cells slots : Nat} {ix a1 a2 a3 : Int32} (hn : n < 2 ^ 60) (hc : cells + 1 ≤ room_1.cells ∧ slots + 6 ≤ room_1.slots) (hi1 : vp_in (ix + 1) L) (hi2 : vp_in (ix + 2) L) (hi3 : vp_in (ix + 3) L) (ha1 : xs (ix + 1).toNatClampNeg = a1) (ha2 : xs (ix + 2).toNatClampNeg = a2) (ha3 : xs (ix + 3).toNatClampNeg = a3) (N9 : LGo p l e s m below meth c b D ta A Q (n + 1) (cells + 1) (slots + 6) 1045 ix) {ad : LAd} {cs : LCs} {ms : LMs} {H : Heap} {locs : List Loc} {ls : Array Slot} (hs : SIM n cs ms) (hP : va_P D vwCl (wl ta ad cs ms) H) (hD : va_D A (wl ta ad cs ms)) (hS : va_S A s.heap H locs) (hl : lv_has ls 8 (llv ad b ix)) : W p l e room_1 s m #[Value.ref b] below meth c H locs cells slots Q (F0 m 375 ls []) := by
  cases h_1 : isFL a1
  · exact lw_changed_1 F9 hn hc hi1 hi2 hi3 ha1 ha2 ha3 N9 hs hP hD hS hl h_1
  · cases h_2 : fnOK a2 a3
    · exact lw_changed_2 F9 hn hc hi1 hi2 hi3 ha1 ha2 ha3 N9 hs hP hD hS hl h_1 h_2
    · exact lw_changed_0 F9 hn hc hi1 hi2 hi3 ha1 ha2 ha3 N9 hs hP hD hS hl h_1 h_2
theorem lx_currency {p : Program} {e : Env} {s : State} {m : MethodId} {below : List Frame} {meth : Method} {c : Code} {l : Launch} {b L : Nat} {xs : Nat → Int32} {D : va_G} {ta : Nat → ClassId} {A : Nat → Prop} {Q : State → Prop} (F9 : LFix p l s m meth c b L xs D ta A) {n cells slots : Nat} {ix a1 a2 a3 : Int32} (hn : n < 2 ^ 60) (hc : cells + 1 ≤ room_1.cells ∧ slots + 6 ≤ room_1.slots) (hi1 : vp_in (ix + 1) L) (hi2 : vp_in (ix + 2) L) (hi3 : vp_in (ix + 3) L) (ha1 : xs (ix + 1).toNatClampNeg = a1) (ha2 : xs (ix + 2).toNatClampNeg = a2) (ha3 : xs (ix + 3).toNatClampNeg = a3) (N9 : LGo p l e s m below meth c b D ta A Q (n + 1) (cells + 1) (slots + 6) 1045 ix) {ad : LAd} {cs : LCs} {ms : LMs} {H : Heap} {locs : List Loc} {ls : Array Slot} (hs : SIM n cs ms) (hP : va_P D vwCl (wl ta ad cs ms) H) (hD : va_D A (wl ta ad cs ms)) (hS : va_S A s.heap H locs) (hl : lv_has ls 8 (llv ad b ix)) : W p l e room_1 s m #[Value.ref b] below meth c H locs cells slots Q (F0 m 454 ls []) := by
  cases h_1 : dyOK a1
  · exact lw_currency_1 F9 hn hc hi1 hi2 hi3 ha1 ha2 ha3 N9 hs hP hD hS hl h_1
  · cases h_2 : cuB cs.cD cs.cn a1
    · exact lw_currency_2 F9 hn hc hi1 hi2 hi3 ha1 ha2 ha3 N9 hs hP hD hS hl h_1 h_2
    · cases h_3 : (isRt a2 && isRt a3)
      · exact lw_currency_3 F9 hn hc hi1 hi2 hi3 ha1 ha2 ha3 N9 hs hP hD hS hl h_1 h_2 h_3
      · cases h_4 : decide (cs.cn < 8)
        · exact lw_currency_4 F9 hn hc hi1 hi2 hi3 ha1 ha2 ha3 N9 hs hP hD hS hl h_1 h_2 h_3 h_4
        · exact lw_currency_0 F9 hn hc hi1 hi2 hi3 ha1 ha2 ha3 N9 hs hP hD hS hl h_1 h_2 h_3 h_4
theorem lx_centsAt {p : Program} {e : Env} {s : State} {m : MethodId} {below : List Frame} {meth : Method} {c : Code} {l : Launch} {b L : Nat} {xs : Nat → Int32} {D : va_G} {ta : Nat → ClassId} {A : Nat → Prop} {Q : State → Prop} (F9 : LFix p l s m meth c b L xs D ta A) {n cells slots : Nat} {ix a1 a2 a3 : Int32} (hn : n < 2 ^ 60) (hc : cells + 1 ≤ room_1.cells ∧ slots + 6 ≤ room_1.slots) (hi1 : vp_in (ix + 1) L) (hi2 : vp_in (ix + 2) L) (hi3 : vp_in (ix + 3) L) (ha1 : xs (ix + 1).toNatClampNeg = a1) (ha2 : xs (ix + 2).toNatClampNeg = a2) (ha3 : xs (ix + 3).toNatClampNeg = a3) (N9 : LGo p l e s m below meth c b D ta A Q (n + 1) (cells + 1) (slots + 6) 1045 ix) {ad : LAd} {cs : LCs} {ms : LMs} {H : Heap} {locs : List Loc} {ls : Array Slot} (hs : SIM n cs ms) (hP : va_P D vwCl (wl ta ad cs ms) H) (hD : va_D A (wl ta ad cs ms)) (hS : va_S A s.heap H locs) (hl : lv_has ls 8 (llv ad b ix)) : W p l e room_1 s m #[Value.ref b] below meth c H locs cells slots Q (F0 m 534 ls []) := by
  cases h_1 : dyOK a1
  · exact lw_centsAt_1 F9 hn hc hi1 hi2 hi3 ha1 ha2 ha3 N9 hs hP hD hS hl h_1
  · exact lw_centsAt_0 F9 hn hc hi1 hi2 hi3 ha1 ha2 ha3 N9 hs hP hD hS hl h_1
theorem lx_offer {p : Program} {e : Env} {s : State} {m : MethodId} {below : List Frame} {meth : Method} {c : Code} {l : Launch} {b L : Nat} {xs : Nat → Int32} {D : va_G} {ta : Nat → ClassId} {A : Nat → Prop} {Q : State → Prop} (F9 : LFix p l s m meth c b L xs D ta A) {n cells slots : Nat} {ix a1 a2 a3 : Int32} (hn : n < 2 ^ 60) (hc : cells + 1 ≤ room_1.cells ∧ slots + 6 ≤ room_1.slots) (hi1 : vp_in (ix + 1) L) (hi2 : vp_in (ix + 2) L) (hi3 : vp_in (ix + 3) L) (ha1 : xs (ix + 1).toNatClampNeg = a1) (ha2 : xs (ix + 2).toNatClampNeg = a2) (ha3 : xs (ix + 3).toNatClampNeg = a3) (N9 : LGo p l e s m below meth c b D ta A Q (n + 1) (cells + 1) (slots + 6) 1045 ix) {ad : LAd} {cs : LCs} {ms : LMs} {H : Heap} {locs : List Loc} {ls : Array Slot} (hs : SIM n cs ms) (hP : va_P D vwCl (wl ta ad cs ms) H) (hD : va_D A (wl ta ad cs ms)) (hS : va_S A s.heap H locs) (hl : lv_has ls 8 (llv ad b ix)) : W p l e room_1 s m #[Value.ref b] below meth c H locs cells slots Q (F0 m 589 ls []) := by
  cases h_1 : dyOK a1
  · exact lw_offer_1 F9 hn hc hi1 hi2 hi3 ha1 ha2 ha3 N9 hs hP hD hS hl h_1
  · cases h_2 : decide (cs.on < 8)
    · exact lw_offer_2 F9 hn hc hi1 hi2 hi3 ha1 ha2 ha3 N9 hs hP hD hS hl h_1 h_2
    · cases h_3 : decide ((rkS cs.sg cs.en cs.fA cs.fB cs.lc cs.ht cs.rs cs.pl cs.fn cs.fd).2.1 ≤ 0)
      · exact lw_offer_3 F9 hn hc hi1 hi2 hi3 ha1 ha2 ha3 N9 hs hP hD hS hl h_1 h_2 h_3
      · exact lw_offer_0 F9 hn hc hi1 hi2 hi3 ha1 ha2 ha3 N9 hs hP hD hS hl h_1 h_2 h_3
theorem lx_offered {p : Program} {e : Env} {s : State} {m : MethodId} {below : List Frame} {meth : Method} {c : Code} {l : Launch} {b L : Nat} {xs : Nat → Int32} {D : va_G} {ta : Nat → ClassId} {A : Nat → Prop} {Q : State → Prop} (F9 : LFix p l s m meth c b L xs D ta A) {n cells slots : Nat} {ix a1 a2 a3 : Int32} (hn : n < 2 ^ 60) (hc : cells + 1 ≤ room_1.cells ∧ slots + 6 ≤ room_1.slots) (hi1 : vp_in (ix + 1) L) (hi2 : vp_in (ix + 2) L) (hi3 : vp_in (ix + 3) L) (ha1 : xs (ix + 1).toNatClampNeg = a1) (ha2 : xs (ix + 2).toNatClampNeg = a2) (ha3 : xs (ix + 3).toNatClampNeg = a3) (N9 : LGo p l e s m below meth c b D ta A Q (n + 1) (cells + 1) (slots + 6) 1045 ix) {ad : LAd} {cs : LCs} {ms : LMs} {H : Heap} {locs : List Loc} {ls : Array Slot} (hs : SIM n cs ms) (hP : va_P D vwCl (wl ta ad cs ms) H) (hD : va_D A (wl ta ad cs ms)) (hS : va_S A s.heap H locs) (hl : lv_has ls 8 (llv ad b ix)) : W p l e room_1 s m #[Value.ref b] below meth c H locs cells slots Q (F0 m 645 ls []) := by
  cases h_1 : inOK a1 cs.on
  · exact lw_offered_1 F9 hn hc hi1 hi2 hi3 ha1 ha2 ha3 N9 hs hP hD hS hl h_1
  · cases h_2 : dyOK a2
    · exact lw_offered_2 F9 hn hc hi1 hi2 hi3 ha1 ha2 ha3 N9 hs hP hD hS hl h_1 h_2
    · cases h_3 : hlOK cs.oL a1 a2
      · exact lw_offered_3 F9 hn hc hi1 hi2 hi3 ha1 ha2 ha3 N9 hs hP hD hS hl h_1 h_2 h_3
      · exact lw_offered_0 F9 hn hc hi1 hi2 hi3 ha1 ha2 ha3 N9 hs hP hD hS hl h_1 h_2 h_3
theorem lx_differs {p : Program} {e : Env} {s : State} {m : MethodId} {below : List Frame} {meth : Method} {c : Code} {l : Launch} {b L : Nat} {xs : Nat → Int32} {D : va_G} {ta : Nat → ClassId} {A : Nat → Prop} {Q : State → Prop} (F9 : LFix p l s m meth c b L xs D ta A) {n cells slots : Nat} {ix a1 a2 a3 : Int32} (hn : n < 2 ^ 60) (hc : cells + 1 ≤ room_1.cells ∧ slots + 6 ≤ room_1.slots) (hi1 : vp_in (ix + 1) L) (hi2 : vp_in (ix + 2) L) (hi3 : vp_in (ix + 3) L) (ha1 : xs (ix + 1).toNatClampNeg = a1) (ha2 : xs (ix + 2).toNatClampNeg = a2) (ha3 : xs (ix + 3).toNatClampNeg = a3) (N9 : LGo p l e s m below meth c b D ta A Q (n + 1) (cells + 1) (slots + 6) 1045 ix) {ad : LAd} {cs : LCs} {ms : LMs} {H : Heap} {locs : List Loc} {ls : Array Slot} (hs : SIM n cs ms) (hP : va_P D vwCl (wl ta ad cs ms) H) (hD : va_D A (wl ta ad cs ms)) (hS : va_S A s.heap H locs) (hl : lv_has ls 8 (llv ad b ix)) : W p l e room_1 s m #[Value.ref b] below meth c H locs cells slots Q (F0 m 712 ls []) := by
  cases h_1 : inOK a1 cs.on
  · exact lw_differs_1 F9 hn hc hi1 hi2 hi3 ha1 ha2 ha3 N9 hs hP hD hS hl h_1
  · cases h_2 : inOK a2 cs.on
    · exact lw_differs_2 F9 hn hc hi1 hi2 hi3 ha1 ha2 ha3 N9 hs hP hD hS hl h_1 h_2
    · exact lw_differs_0 F9 hn hc hi1 hi2 hi3 ha1 ha2 ha3 N9 hs hP hD hS hl h_1 h_2
theorem lx_invoice {p : Program} {e : Env} {s : State} {m : MethodId} {below : List Frame} {meth : Method} {c : Code} {l : Launch} {b L : Nat} {xs : Nat → Int32} {D : va_G} {ta : Nat → ClassId} {A : Nat → Prop} {Q : State → Prop} (F9 : LFix p l s m meth c b L xs D ta A) {n cells slots : Nat} {ix a1 a2 a3 : Int32} (hn : n < 2 ^ 60) (hc : cells + 1 ≤ room_1.cells ∧ slots + 6 ≤ room_1.slots) (hi1 : vp_in (ix + 1) L) (hi2 : vp_in (ix + 2) L) (hi3 : vp_in (ix + 3) L) (ha1 : xs (ix + 1).toNatClampNeg = a1) (ha2 : xs (ix + 2).toNatClampNeg = a2) (ha3 : xs (ix + 3).toNatClampNeg = a3) (N9 : LGo p l e s m below meth c b D ta A Q (n + 1) (cells + 1) (slots + 6) 1045 ix) {ad : LAd} {cs : LCs} {ms : LMs} {H : Heap} {locs : List Loc} {ls : Array Slot} (hs : SIM n cs ms) (hP : va_P D vwCl (wl ta ad cs ms) H) (hD : va_D A (wl ta ad cs ms)) (hS : va_S A s.heap H locs) (hl : lv_has ls 8 (llv ad b ix)) : W p l e room_1 s m #[Value.ref b] below meth c H locs cells slots Q (F0 m 779 ls []) := by
  cases h_1 : inOK a1 cs.on
  · exact lw_invoice_1 F9 hn hc hi1 hi2 hi3 ha1 ha2 ha3 N9 hs hP hD hS hl h_1
  · cases h_2 : dyOK a2
    · exact lw_invoice_2 F9 hn hc hi1 hi2 hi3 ha1 ha2 ha3 N9 hs hP hD hS hl h_1 h_2
    · cases h_3 : decide (cs.vn < 8)
      · exact lw_invoice_3 F9 hn hc hi1 hi2 hi3 ha1 ha2 ha3 N9 hs hP hD hS hl h_1 h_2 h_3
      · cases h_4 : hlOK cs.oL a1 a2
        · exact lw_invoice_4 F9 hn hc hi1 hi2 hi3 ha1 ha2 ha3 N9 hs hP hD hS hl h_1 h_2 h_3 h_4
        · cases h_5 : decide (0 ≤ (cuC cs.cD cs.cA cs.cB cs.cn (ixGL cs.oC 8 a1) a2))
          · exact lw_invoice_5 F9 hn hc hi1 hi2 hi3 ha1 ha2 ha3 N9 hs hP hD hS hl h_1 h_2 h_3 h_4 h_5
          · exact lw_invoice_0 F9 hn hc hi1 hi2 hi3 ha1 ha2 ha3 N9 hs hP hD hS hl h_1 h_2 h_3 h_4 h_5
theorem lx_left {p : Program} {e : Env} {s : State} {m : MethodId} {below : List Frame} {meth : Method} {c : Code} {l : Launch} {b L : Nat} {xs : Nat → Int32} {D : va_G} {ta : Nat → ClassId} {A : Nat → Prop} {Q : State → Prop} (F9 : LFix p l s m meth c b L xs D ta A) {n cells slots : Nat} {ix a1 a2 a3 : Int32} (hn : n < 2 ^ 60) (hc : cells + 1 ≤ room_1.cells ∧ slots + 6 ≤ room_1.slots) (hi1 : vp_in (ix + 1) L) (hi2 : vp_in (ix + 2) L) (hi3 : vp_in (ix + 3) L) (ha1 : xs (ix + 1).toNatClampNeg = a1) (ha2 : xs (ix + 2).toNatClampNeg = a2) (ha3 : xs (ix + 3).toNatClampNeg = a3) (N9 : LGo p l e s m below meth c b D ta A Q (n + 1) (cells + 1) (slots + 6) 1045 ix) {ad : LAd} {cs : LCs} {ms : LMs} {H : Heap} {locs : List Loc} {ls : Array Slot} (hs : SIM n cs ms) (hP : va_P D vwCl (wl ta ad cs ms) H) (hD : va_D A (wl ta ad cs ms)) (hS : va_S A s.heap H locs) (hl : lv_has ls 8 (llv ad b ix)) : W p l e room_1 s m #[Value.ref b] below meth c H locs cells slots Q (F0 m 847 ls []) := by
  cases h_1 : inOK a1 cs.vn
  · exact lw_left_1 F9 hn hc hi1 hi2 hi3 ha1 ha2 ha3 N9 hs hP hD hS hl h_1
  · exact lw_left_0 F9 hn hc hi1 hi2 hi3 ha1 ha2 ha3 N9 hs hP hD hS hl h_1
theorem lx_refund {p : Program} {e : Env} {s : State} {m : MethodId} {below : List Frame} {meth : Method} {c : Code} {l : Launch} {b L : Nat} {xs : Nat → Int32} {D : va_G} {ta : Nat → ClassId} {A : Nat → Prop} {Q : State → Prop} (F9 : LFix p l s m meth c b L xs D ta A) {n cells slots : Nat} {ix a1 a2 a3 : Int32} (hn : n < 2 ^ 60) (hc : cells + 1 ≤ room_1.cells ∧ slots + 6 ≤ room_1.slots) (hi1 : vp_in (ix + 1) L) (hi2 : vp_in (ix + 2) L) (hi3 : vp_in (ix + 3) L) (ha1 : xs (ix + 1).toNatClampNeg = a1) (ha2 : xs (ix + 2).toNatClampNeg = a2) (ha3 : xs (ix + 3).toNatClampNeg = a3) (N9 : LGo p l e s m below meth c b D ta A Q (n + 1) (cells + 1) (slots + 6) 1045 ix) {ad : LAd} {cs : LCs} {ms : LMs} {H : Heap} {locs : List Loc} {ls : Array Slot} (hs : SIM n cs ms) (hP : va_P D vwCl (wl ta ad cs ms) H) (hD : va_D A (wl ta ad cs ms)) (hS : va_S A s.heap H locs) (hl : lv_has ls 8 (llv ad b ix)) : W p l e room_1 s m #[Value.ref b] below meth c H locs cells slots Q (F0 m 902 ls []) := by
  cases h_1 : inOK a1 cs.vn
  · exact lw_refund_1 F9 hn hc hi1 hi2 hi3 ha1 ha2 ha3 N9 hs hP hD hS hl h_1
  · cases h_2 : decide (0 ≤ a2)
    · exact lw_refund_2 F9 hn hc hi1 hi2 hi3 ha1 ha2 ha3 N9 hs hP hD hS hl h_1 h_2
    · exact lw_refund_0 F9 hn hc hi1 hi2 hi3 ha1 ha2 ha3 N9 hs hP hD hS hl h_1 h_2
theorem lx_learn {p : Program} {e : Env} {s : State} {m : MethodId} {below : List Frame} {meth : Method} {c : Code} {l : Launch} {b L : Nat} {xs : Nat → Int32} {D : va_G} {ta : Nat → ClassId} {A : Nat → Prop} {Q : State → Prop} (F9 : LFix p l s m meth c b L xs D ta A) {n cells slots : Nat} {ix a1 a2 a3 : Int32} (hn : n < 2 ^ 60) (hc : cells + 1 ≤ room_1.cells ∧ slots + 6 ≤ room_1.slots) (hi1 : vp_in (ix + 1) L) (hi2 : vp_in (ix + 2) L) (hi3 : vp_in (ix + 3) L) (ha1 : xs (ix + 1).toNatClampNeg = a1) (ha2 : xs (ix + 2).toNatClampNeg = a2) (ha3 : xs (ix + 3).toNatClampNeg = a3) (N9 : LGo p l e s m below meth c b D ta A Q (n + 1) (cells + 1) (slots + 6) 1045 ix) {ad : LAd} {cs : LCs} {ms : LMs} {H : Heap} {locs : List Loc} {ls : Array Slot} (hs : SIM n cs ms) (hP : va_P D vwCl (wl ta ad cs ms) H) (hD : va_D A (wl ta ad cs ms)) (hS : va_S A s.heap H locs) (hl : lv_has ls 8 (llv ad b ix)) : W p l e room_1 s m #[Value.ref b] below meth c H locs cells slots Q (F0 m 977 ls []) := by
  cases h_1 : inOK a1 8
  · exact lw_learn_1 F9 hn hc hi1 hi2 hi3 ha1 ha2 ha3 N9 hs hP hD hS hl h_1
  · cases h_2 : mtOK a2
    · exact lw_learn_2 F9 hn hc hi1 hi2 hi3 ha1 ha2 ha3 N9 hs hP hD hS hl h_1 h_2
    · exact lw_learn_0 F9 hn hc hi1 hi2 hi3 ha1 ha2 ha3 N9 hs hP hD hS hl h_1 h_2
theorem lx_read {p : Program} {e : Env} {s : State} {m : MethodId} {below : List Frame} {meth : Method} {c : Code} {l : Launch} {b L : Nat} {xs : Nat → Int32} {D : va_G} {ta : Nat → ClassId} {A : Nat → Prop} {Q : State → Prop} (F9 : LFix p l s m meth c b L xs D ta A) {n cells slots : Nat} {ix a1 a2 a3 : Int32} (hn : n < 2 ^ 60) (hc : cells + 1 ≤ room_1.cells ∧ slots + 6 ≤ room_1.slots) (hi1 : vp_in (ix + 1) L) (hi2 : vp_in (ix + 2) L) (hi3 : vp_in (ix + 3) L) (ha1 : xs (ix + 1).toNatClampNeg = a1) (ha2 : xs (ix + 2).toNatClampNeg = a2) (ha3 : xs (ix + 3).toNatClampNeg = a3) (N9 : LGo p l e s m below meth c b D ta A Q (n + 1) (cells + 1) (slots + 6) 1045 ix) {ad : LAd} {cs : LCs} {ms : LMs} {H : Heap} {locs : List Loc} {ls : Array Slot} (hs : SIM n cs ms) (hP : va_P D vwCl (wl ta ad cs ms) H) (hD : va_D A (wl ta ad cs ms)) (hS : va_S A s.heap H locs) (hl : lv_has ls 8 (llv ad b ix)) : W p l e room_1 s m #[Value.ref b] below meth c H locs cells slots Q (F0 m 145 ls []) := by
  by_cases h0 : (ouL ms.x_text ms.x_size ms.x_draftLines 240 0 0 0 0 ms.x_draft (upd ms.x_draftBegins (0 : Int32).toNatClampNeg 0)).1 = (-1)
  · exact lw_read_0 F9 hn hc hi1 hi2 hi3 ha1 ha2 ha3 N9 hs hP hD hS hl h0
  · exact lw_read_1 F9 hn hc hi1 hi2 hi3 ha1 ha2 ha3 N9 hs hP hD hS hl h0
theorem tab17 {v : Int32} (h : ∀ j : Nat, j < 17 → ¬ v = nI j) : v.toInt < 0 ∨ 16 < v.toInt := by
  by_cases q : v.toInt < 0
  · exact Or.inl q
  · refine Or.inr (Int.not_le.mp fun q2 => h v.toInt.toNat (by omega) (Int32.toInt_inj.mp ?_))
    rw [nI_toInt (by omega)]; omega
theorem lw_body {p : Program} {e : Env} {s : State} {m : MethodId} {below : List Frame} {meth : Method} {c : Code} {l : Launch} {b L : Nat} {xs : Nat → Int32} {D : va_G} {ta : Nat → ClassId} {A : Nat → Prop} {Q : State → Prop} (F9 : LFix p l s m meth c b L xs D ta A) {n cells slots : Nat} {ix a1 a2 a3 : Int32} (hn : n < 2 ^ 60) (hc : cells + 1 ≤ room_1.cells ∧ slots + 6 ≤ room_1.slots) (hi1 : vp_in (ix + 1) L) (hi2 : vp_in (ix + 2) L) (hi3 : vp_in (ix + 3) L) (ha1 : xs (ix + 1).toNatClampNeg = a1) (ha2 : xs (ix + 2).toNatClampNeg = a2) (ha3 : xs (ix + 3).toNatClampNeg = a3) (N9 : LGo p l e s m below meth c b D ta A Q (n + 1) (cells + 1) (slots + 6) 1045 ix) {ad : LAd} {cs : LCs} {ms : LMs} {H : Heap} {locs : List Loc} {ls : Array Slot} (hs : SIM n cs ms) (hP : va_P D vwCl (wl ta ad cs ms) H) (hD : va_D A (wl ta ad cs ms)) (hS : va_S A s.heap H locs) (hl : lv_has ls 8 (llv ad b ix)) (v : Int32) : W p l e room_1 s m #[Value.ref b] below meth c H locs cells slots Q (F0 m 39 ls [.int v]) := by
  have hx := F9.1
  have hb := F9.2.1
  by_cases c0 : v = 0
  · refine lv_tableIn (off := 81) (tgt := 120) hx hb d_Law_law_39 (by rw [c0]; decide) (by rw [c0]; decide) (by rw [c0]; decide) (by decide) ?_
    exact lw_unit F9 hn hc hi1 hi2 hi3 ha1 ha2 ha3 N9 hs hP hD hS hl
  by_cases c1 : v = 1
  · refine lv_tableIn (off := 106) (tgt := 145) hx hb d_Law_law_39 (by rw [c1]; decide) (by rw [c1]; decide) (by rw [c1]; decide) (by decide) ?_
    exact lx_read F9 hn hc hi1 hi2 hi3 ha1 ha2 ha3 N9 hs hP hD hS hl
  by_cases c2 : v = 2
  · refine lv_tableIn (off := 119) (tgt := 158) hx hb d_Law_law_39 (by rw [c2]; decide) (by rw [c2]; decide) (by rw [c2]; decide) (by decide) ?_
    exact lx_fact F9 hn hc hi1 hi2 hi3 ha1 ha2 ha3 N9 hs hP hD hS hl
  by_cases c3 : v = 3
  · refine lv_tableIn (off := 179) (tgt := 218) hx hb d_Law_law_39 (by rw [c3]; decide) (by rw [c3]; decide) (by rw [c3]; decide) (by decide) ?_
    exact lx_forget F9 hn hc hi1 hi2 hi3 ha1 ha2 ha3 N9 hs hP hD hS hl
  by_cases c4 : v = 4
  · refine lv_tableIn (off := 242) (tgt := 281) hx hb d_Law_law_39 (by rw [c4]; decide) (by rw [c4]; decide) (by rw [c4]; decide) (by decide) ?_
    exact lw_run F9 hn hc hi1 hi2 hi3 ha1 ha2 ha3 N9 hs hP hD hS hl
  by_cases c5 : v = 5
  · refine lv_tableIn (off := 255) (tgt := 294) hx hb d_Law_law_39 (by rw [c5]; decide) (by rw [c5]; decide) (by rw [c5]; decide) (by decide) ?_
    exact lw_cents F9 hn hc hi1 hi2 hi3 ha1 ha2 ha3 N9 hs hP hD hS hl
  by_cases c6 : v = 6
  · refine lv_tableIn (off := 269) (tgt := 308) hx hb d_Law_law_39 (by rw [c6]; decide) (by rw [c6]; decide) (by rw [c6]; decide) (by decide) ?_
    exact lx_line F9 hn hc hi1 hi2 hi3 ha1 ha2 ha3 N9 hs hP hD hS hl
  by_cases c7 : v = 7
  · refine lv_tableIn (off := 336) (tgt := 375) hx hb d_Law_law_39 (by rw [c7]; decide) (by rw [c7]; decide) (by rw [c7]; decide) (by decide) ?_
    exact lx_changed F9 hn hc hi1 hi2 hi3 ha1 ha2 ha3 N9 hs hP hD hS hl
  by_cases c8 : v = 8
  · refine lv_tableIn (off := 415) (tgt := 454) hx hb d_Law_law_39 (by rw [c8]; decide) (by rw [c8]; decide) (by rw [c8]; decide) (by decide) ?_
    exact lx_currency F9 hn hc hi1 hi2 hi3 ha1 ha2 ha3 N9 hs hP hD hS hl
  by_cases c9 : v = 9
  · refine lv_tableIn (off := 495) (tgt := 534) hx hb d_Law_law_39 (by rw [c9]; decide) (by rw [c9]; decide) (by rw [c9]; decide) (by decide) ?_
    exact lx_centsAt F9 hn hc hi1 hi2 hi3 ha1 ha2 ha3 N9 hs hP hD hS hl
  by_cases c10 : v = 10
  · refine lv_tableIn (off := 550) (tgt := 589) hx hb d_Law_law_39 (by rw [c10]; decide) (by rw [c10]; decide) (by rw [c10]; decide) (by decide) ?_
    exact lx_offer F9 hn hc hi1 hi2 hi3 ha1 ha2 ha3 N9 hs hP hD hS hl
  by_cases c11 : v = 11
  · refine lv_tableIn (off := 606) (tgt := 645) hx hb d_Law_law_39 (by rw [c11]; decide) (by rw [c11]; decide) (by rw [c11]; decide) (by decide) ?_
    exact lx_offered F9 hn hc hi1 hi2 hi3 ha1 ha2 ha3 N9 hs hP hD hS hl
  by_cases c12 : v = 12
  · refine lv_tableIn (off := 673) (tgt := 712) hx hb d_Law_law_39 (by rw [c12]; decide) (by rw [c12]; decide) (by rw [c12]; decide) (by decide) ?_
    exact lx_differs F9 hn hc hi1 hi2 hi3 ha1 ha2 ha3 N9 hs hP hD hS hl
  by_cases c13 : v = 13
  · refine lv_tableIn (off := 740) (tgt := 779) hx hb d_Law_law_39 (by rw [c13]; decide) (by rw [c13]; decide) (by rw [c13]; decide) (by decide) ?_
    exact lx_invoice F9 hn hc hi1 hi2 hi3 ha1 ha2 ha3 N9 hs hP hD hS hl
  by_cases c14 : v = 14
  · refine lv_tableIn (off := 808) (tgt := 847) hx hb d_Law_law_39 (by rw [c14]; decide) (by rw [c14]; decide) (by rw [c14]; decide) (by decide) ?_
    exact lx_left F9 hn hc hi1 hi2 hi3 ha1 ha2 ha3 N9 hs hP hD hS hl
  by_cases c15 : v = 15
  · refine lv_tableIn (off := 863) (tgt := 902) hx hb d_Law_law_39 (by rw [c15]; decide) (by rw [c15]; decide) (by rw [c15]; decide) (by decide) ?_
    exact lx_refund F9 hn hc hi1 hi2 hi3 ha1 ha2 ha3 N9 hs hP hD hS hl
  by_cases c16 : v = 16
  · refine lv_tableIn (off := 938) (tgt := 977) hx hb d_Law_law_39 (by rw [c16]; decide) (by rw [c16]; decide) (by rw [c16]; decide) (by decide) ?_
    exact lx_learn F9 hn hc hi1 hi2 hi3 ha1 ha2 ha3 N9 hs hP hD hS hl
  refine lv_tableOut (tgt := 1045) hx hb d_Law_law_39 (tab17 fun j hj => ?_) (by decide) ?_
  · match j, hj with
    | 0, _ => exact c0
    | 1, _ => exact c1
    | 2, _ => exact c2
    | 3, _ => exact c3
    | 4, _ => exact c4
    | 5, _ => exact c5
    | 6, _ => exact c6
    | 7, _ => exact c7
    | 8, _ => exact c8
    | 9, _ => exact c9
    | 10, _ => exact c10
    | 11, _ => exact c11
    | 12, _ => exact c12
    | 13, _ => exact c13
    | 14, _ => exact c14
    | 15, _ => exact c15
    | 16, _ => exact c16
    | j + 17, h => exact absurd h (by omega)
  · refine W.widen (k := cells + 1) (n := slots + 6) (Nat.le_succ _) (Nat.le_add_right _ 6) ?_
    exact N9 ad cs ms H locs ls ⟨hs.tx, hs.fc, hs.sh, hs.cu, hs.of, hs.iv, le_up hs.le⟩ hP hD hS hl
def R_law : String := "PriceLinesLaw"
def lw_P (b : Addr) (xs : List Int32) (args : Array Value) (s : State) : Prop := args = #[.ref b] ∧ s.IntsAt b xs ∧ xs.length ≤ 2048 ∧ (Jvm.Cond.and given_1 narrow_1).before args s = true
def lw_Q (_ : Array Value) (s : State) (o : Outcome) (t : State) : Prop := o = .returned (some (.int 1)) ∧ Framed s o t [] 601024 7293034
def lw_Z (below : List Frame) (a : Array Value) (s : State) : State → Prop := fun t => ∃ o, t.status = .running ∧ Ended t below o ∧ lw_Q a s o t
/-- the law's own end, with 1 on the stack, nothing written that was there before, its room as the claim has it -/
theorem lw_ret {p : Program} {l : Launch} {e : Env} {s : State} {m : MethodId} {below : List Frame} {meth : Method} {c : Code} {b : Nat} (hx : p.tables.exec = Jvm.exec) (hb : c.code = code) (hr : meth.sig.returnType = ret) (hlocks : meth.locks = false) {pc : Nat} {H : Heap} {ls : Array Slot} (hdg : decode code pc = .ok (.ireturn, 1)) : W p l e room_1 s m #[Value.ref b] below meth c H [] 601024 7293034 (lw_Z below #[Value.ref b] s) (F0 m pc ls [.int 1]) := by
  intro T hT X
  obtain ⟨fs, hret, hrun, hended, hW, hframe⟩ := X.leave (v := some (.int 1)) (hlocks := hlocks) (fun h => by rw [hr] at h; cases h)
  have hmeth' : T.vm.method? m = some meth := X.method'
  refine ⟨T.setFrames fs, ?_, .returned (some (.int 1)), hrun, hended, rfl, ⟨_, rfl⟩, hW, hframe⟩
  jvm_step X.here [X.here.top, hx, hb, hdg, hmeth', hr, ret, narrow_b1]
  (try refine ⟨rfl, ?_⟩); (try refine ⟨rfl, ?_⟩)
  first | (intro acts; rw [hret _ acts rfl rfl rfl]) | rw [hret _ _ rfl rfl rfl]
  exact Steps.refl _
/-- what holds at the law's entry: the machine, the code, the tables' words (any of lw_tbl by 'hts w (by decide +kernel)'), the script of L ints xs at the cell b, what the Statement gives of the start (any of its parts by flat_of_before) -/
def lw_At (p : Program) (s : State) (m : MethodId) (meth : Method) (c : Code) (b L : Nat) (xs : Nat → Int32) : Prop :=
  p.tables.exec = Jvm.exec ∧ c.code = code ∧ meth.sig.returnType = ret ∧ c.maxLocals = 8 ∧ s.vm.findClass R_law = some m.cls ∧ (∀ w ∈ lw_tbl, w.before #[Value.ref b] s = true) ∧ va_X b L xs s s.heap ∧ b < s.heap.size ∧ meth.locks = false ∧ (Jvm.Cond.and given_1 narrow_1).before #[Value.ref b] s = true
/-! the loop -/
theorem lw_loop {p : Program} {l : Launch} {e : Env} {s : State} {m : MethodId} {below : List Frame} {meth : Method} {c : Code} {b L : Nat} {xs : Nat → Int32} {D : va_G} {ta : Nat → ClassId} (hL : L ≤ 2048) (F9 : LFix p l s m meth c b L xs D ta (fun q : Nat => s.heap.size ≤ q)) : ∀ (f t : Nat), t + f = 512 → LGo p l e s m below meth c b D ta (fun q : Nat => s.heap.size ≤ q) (lw_Z below #[Value.ref b] s) t (76 + t) (2023 + 6 * t) 23 (nI (4 * t)) := by
  have F0 := F9
  obtain ⟨hx, hb, hr, hml, hown, hlocks, hw, hK, hN, hTf, hNc, hZ, hA, hX, hbl, hbA, hst⟩ := F9
  intro f
  induction f with
  | zero =>
    intro t ht ad cs ms H locs ls hs hP hD hS hl
    have hl : lv_has ls 8 [(0, .ref b), (1, .ref ad.z0), (2, .ref ad.m0), (3, .ref ad.y0), (4, .int (nI (4 * t)))] := hl
    refine lv_iload hx hb d_Law_law_23 (lv_at hl 4 rfl) ?_
    refine lv_aload_n hx hb d_Law_law_25 rfl (lv_at hl 0 rfl) ?_
    refine va_slen hx hb hX hbl hbA hS d_Law_law_26 ?_
    refine lv_iconst (v := 4) hx hb d_Law_law_27 (by decide) ?_
    refine lv_isub hx hb d_Law_law_28 ?_
    refine lv_icmp_gt (tgt := 1051) hx hb d_Law_law_29 (by decide) (fun c1 => ?_) (fun c1 => ?_)
    · refine lv_iconst (v := 1) hx hb d_Law_law_1051 (by decide) ?_
      refine va_forget (fun q hq => hS.2.2 q hq) ?_
      refine W.widen (k := 601024) (n := 7293034) (by omega) (by omega) ?_
      exact lw_ret hx hb hr hlocks d_Law_law_1052
    · refine absurd ?_ c1
      rw [Int32.lt_iff_toInt_lt, show Int32.ofNat L - 4 = nI L - nI 4 from rfl, pk_sub_toInt (by omega) (by omega), nI_toInt (by omega)]
      omega
  | succ f ih =>
    intro t ht ad cs ms H locs ls hs hP hD hS hl
    have hl0 := hl
    have hl : lv_has ls 8 [(0, .ref b), (1, .ref ad.z0), (2, .ref ad.m0), (3, .ref ad.y0), (4, .int (nI (4 * t)))] := hl
    refine lv_iload hx hb d_Law_law_23 (lv_at hl 4 rfl) ?_
    refine lv_aload_n hx hb d_Law_law_25 rfl (lv_at hl 0 rfl) ?_
    refine va_slen hx hb hX hbl hbA hS d_Law_law_26 ?_
    refine lv_iconst (v := 4) hx hb d_Law_law_27 (by decide) ?_
    refine lv_isub hx hb d_Law_law_28 ?_
    refine lv_icmp_gt (tgt := 1051) hx hb d_Law_law_29 (by decide) (fun c1 => ?_) (fun c1 => ?_)
    · refine lv_iconst (v := 1) hx hb d_Law_law_1051 (by decide) ?_
      refine va_forget (fun q hq => hS.2.2 q hq) ?_
      refine W.widen (k := 601024) (n := 7293034) (by omega) (by omega) ?_
      exact lw_ret hx hb hr hlocks d_Law_law_1052
    · have h4 : 4 * t + 4 ≤ L := by
        rw [Int32.lt_iff_toInt_lt, show Int32.ofNat L - 4 = nI L - nI 4 from rfl, pk_sub_toInt (by omega) (by omega), nI_toInt (by omega)] at c1
        omega
      have i0 : vp_in (nI (4 * t)) L := pk_in (4 * t) L (by omega)
      have i1 : vp_in (nI (4 * t) + 1) L := pk_in (4 * t + 1) L (by omega) (nI_1 _)
      have i2 : vp_in (nI (4 * t) + 2) L := pk_in (4 * t + 2) L (by omega) (nI_add _ 2)
      have i3 : vp_in (nI (4 * t) + 3) L := pk_in (4 * t + 3) L (by omega) (nI_add _ 3)
      refine lv_aload_n hx hb d_Law_law_32 rfl (lv_at hl 0 rfl) ?_
      refine lv_iload hx hb d_Law_law_33 (lv_at hl 4 rfl) ?_
      refine va_sld hx hb hX hbl hbA hS i0 d_Law_law_35 ?_
      refine lv_bipush (v := 31) hx hb d_Law_law_36 (by decide) ?_
      refine lv_iand hx hb d_Law_law_38 ?_
      refine lw_body F0 (n := t) (by omega) ⟨show 76 + t + 1 ≤ 601024 by omega, show 2023 + 6 * t + 6 ≤ 7293034 by omega⟩ i1 i2 i3 rfl rfl rfl ?_ hs hP hD hS hl0 _
      intro ad cs ms H locs ls hs hP hD hS hl
      have hl : lv_has ls 8 [(0, .ref b), (1, .ref ad.z0), (2, .ref ad.m0), (3, .ref ad.y0), (4, .int (nI (4 * t)))] := hl
      refine lv_iinc (v := (nI (4 * t) + 4)) (lv' := [(4, .int (nI (4 * t) + 4)), (0, .ref b), (1, .ref ad.z0), (2, .ref ad.m0), (3, .ref ad.y0)]) hx hb d_Law_law_1045 hl (k := 4) rfl rfl (by decide) rfl (fun ls hl => ?_)
      refine lv_goto (tgt := 23) hx hb d_Law_law_1048 (by decide) ?_
      have k := ih (t + 1) (by omega) ad cs ms H locs ls hs hP hD hS
      rw [show 2023 + 6 * (t + 1) = 2023 + 6 * t + 6 by omega, show nI (4 * (t + 1)) = nI (4 * t) + 4 from (nI_add (4 * t) 4).symm] at k
      exact k (lv_sub hl [1, 2, 3, 4, 0] rfl)
