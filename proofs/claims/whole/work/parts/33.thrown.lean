/-! PriceLines: its checks and calls, where they throw -/
set_option maxHeartbeats 1000000 in
set_option maxRecDepth 100000 in
theorem c_Pri_requireLetter_x (l : Launch) (hst : l.stackTraces = false) (D : va_G) (ta : Nat → ClassId)  (ch : Int32) (h1 : isFL ch = false) : ∀ sz, Thr l y_Pri_requireLetter w_Pri_requireLetter { frames := 6, cells := 1, slots := 6, locals := 90 } (va_Pc [.int ch] (pT D ta [] sz)) (xT D ta (va_A [] sz) x_iob []) 1 6 (va_A [] sz) := by
  refine opn_X (bytes := b_Pri_requireLetter) (maxL := 1) (by decide +kernel) rfl (Nat.le_of_ble_eq_true rfl) ?_
  intro p e s m below meth c A ls hx hb hml hown hlocks hxt hw hK hN hTf hZ hP hD hA hS hl
  have hl : lv_has ls 1 [(0, .int ch)] := hl
  refine lv_iload_n hx hb d_Pri_requireLetter_0 rfl (lv_at hl 0 rfl) ?_
  refine kS_i (rest := []) (As := [.int ch]) (w2 := []) ⟨hx, hb, hml, hown, hw⟩ (c_Pri_isFactLetter l D ta ch) W2_183 W2_30 W1_1 W2_31 rfl rfl rfl hd_Pri_isFactLetter ⟨Nat.le_of_ble_eq_true rfl, Nat.le_of_ble_eq_true rfl⟩ hK hN hP hD hS hA Spl.none rfl hl.1 rfl (Nat.le_of_ble_eq_true rfl) ⟨Nat.zero_le _, Nat.zero_le _⟩ d_Pri_requireLetter_1 (fun H locs hP hD hS => ?_)
  refine lb_ne (tgt := 17) hx hb d_Pri_requireLetter_4 (by decide) (fun c_1 => ?_) (fun c_1 => ?_)
  · exact Bool.noConfusion ((h1).symm.trans (show isFL ch = true from by simp only [b2i, c_1, decide_true, decide_false, Bool.not_true, Bool.not_false, Bool.and_true, Bool.true_and, Bool.and_false, Bool.false_and, Bool.or_true, Bool.true_or, Bool.or_false, Bool.false_or, if_true, if_false, reduceIte, Bool.false_eq_true, b2i]))
  · exact own_t (A := A) ⟨hx, hb, hml, hown, hw⟩ hst fit_iob ow_iob W2_184 W2_185 W1_15 (List.mem_of_getElem? (i := 0) rfl) hxt hlocks hK hTf hZ hP hD hS hA hl.1 ⟨Nat.le_of_ble_eq_true rfl, Nat.le_of_ble_eq_true rfl⟩ ⟨Nat.le_of_ble_eq_true rfl, Nat.le_of_ble_eq_true rfl⟩ d_Pri_requireLetter_7 d_Pri_requireLetter_10 d_Pri_requireLetter_11 d_Pri_requireLetter_13 d_Pri_requireLetter_16
set_option maxHeartbeats 1000000 in
set_option maxRecDepth 100000 in
theorem c_Pri_requireFactNumbers_x (l : Launch) (hst : l.stackTraces = false) (D : va_G) (ta : Nat → ClassId)  (x : Int32) (y : Int32) (h1 : fnOK x y = false) : ∀ sz, Thr l y_Pri_requireFactNumbers w_Pri_requireFactNumbers { frames := 6, cells := 1, slots := 6, locals := 90 } (va_Pc [.int x, .int y] (pT D ta [] sz)) (xT D ta (va_A [] sz) x_iae []) 1 6 (va_A [] sz) := by
  refine opn_X (bytes := b_Pri_requireFactNumbers) (maxL := 2) (by decide +kernel) rfl (Nat.le_of_ble_eq_true rfl) ?_
  intro p e s m below meth c A ls hx hb hml hown hlocks hxt hw hK hN hTf hZ hP hD hA hS hl
  have hl : lv_has ls 2 [(0, .int x), (1, .int y)] := hl
  refine lv_iload_n hx hb d_Pri_requireFactNumbers_0 rfl (lv_at hl 1 rfl) ?_
  refine lv_iconst (v := 1) hx hb d_Pri_requireFactNumbers_1 (by decide) ?_
  refine lv_icmp_lt (tgt := 12) hx hb d_Pri_requireFactNumbers_2 (by decide) (fun c_1 => ?_) (fun c_1 => ?_)
  · exact own_t (A := A) ⟨hx, hb, hml, hown, hw⟩ hst fit_iae ow_iae W3_15 W3_16 W1_16 (List.mem_of_getElem? (i := 1) rfl) hxt hlocks hK hTf hZ hP hD hS hA hl.1 ⟨Nat.le_of_ble_eq_true rfl, Nat.le_of_ble_eq_true rfl⟩ ⟨Nat.le_of_ble_eq_true rfl, Nat.le_of_ble_eq_true rfl⟩ d_Pri_requireFactNumbers_12 d_Pri_requireFactNumbers_15 d_Pri_requireFactNumbers_16 d_Pri_requireFactNumbers_18 d_Pri_requireFactNumbers_21
  · refine lv_iload_n hx hb d_Pri_requireFactNumbers_5 rfl (lv_at hl 1 rfl) ?_
    refine lv_sipush (v := 10000) hx hb d_Pri_requireFactNumbers_6 (by decide) ?_
    refine lv_icmp_le (tgt := 22) hx hb d_Pri_requireFactNumbers_9 (by decide) (fun c_2 => ?_) (fun c_2 => ?_)
    · refine lv_iload_n hx hb d_Pri_requireFactNumbers_22 rfl (lv_at hl 0 rfl) ?_
      refine lv_ldc (v := (-1000000)) hx hb hown (hw _ W3_31) d_Pri_requireFactNumbers_23 ?_
      refine lv_icmp_lt (tgt := 34) hx hb d_Pri_requireFactNumbers_25 (by decide) (fun c_3 => ?_) (fun c_3 => ?_)
      · exact own_t (A := A) ⟨hx, hb, hml, hown, hw⟩ hst fit_iae ow_iae W3_15 W3_16 W1_16 (List.mem_of_getElem? (i := 2) rfl) hxt hlocks hK hTf hZ hP hD hS hA hl.1 ⟨Nat.le_of_ble_eq_true rfl, Nat.le_of_ble_eq_true rfl⟩ ⟨Nat.le_of_ble_eq_true rfl, Nat.le_of_ble_eq_true rfl⟩ d_Pri_requireFactNumbers_34 d_Pri_requireFactNumbers_37 d_Pri_requireFactNumbers_38 d_Pri_requireFactNumbers_40 d_Pri_requireFactNumbers_43
      · refine lv_iload_n hx hb d_Pri_requireFactNumbers_28 rfl (lv_at hl 0 rfl) ?_
        refine lv_ldc (v := 1000000) hx hb hown (hw _ W3_32) d_Pri_requireFactNumbers_29 ?_
        refine lv_icmp_le (tgt := 44) hx hb d_Pri_requireFactNumbers_31 (by decide) (fun c_4 => ?_) (fun c_4 => ?_)
        · exact Bool.noConfusion ((h1).symm.trans (show fnOK x y = true from by simp only [fnOK, c_1, c_2, c_3, c_4, decide_true, decide_false, Bool.not_true, Bool.not_false, Bool.and_true, Bool.true_and, Bool.and_false, Bool.false_and, Bool.or_true, Bool.true_or, Bool.or_false, Bool.false_or, if_true, if_false, reduceIte, Bool.false_eq_true, b2i]))
        · exact own_t (A := A) ⟨hx, hb, hml, hown, hw⟩ hst fit_iae ow_iae W3_15 W3_16 W1_16 (List.mem_of_getElem? (i := 2) rfl) hxt hlocks hK hTf hZ hP hD hS hA hl.1 ⟨Nat.le_of_ble_eq_true rfl, Nat.le_of_ble_eq_true rfl⟩ ⟨Nat.le_of_ble_eq_true rfl, Nat.le_of_ble_eq_true rfl⟩ d_Pri_requireFactNumbers_34 d_Pri_requireFactNumbers_37 d_Pri_requireFactNumbers_38 d_Pri_requireFactNumbers_40 d_Pri_requireFactNumbers_43
    · exact own_t (A := A) ⟨hx, hb, hml, hown, hw⟩ hst fit_iae ow_iae W3_15 W3_16 W1_16 (List.mem_of_getElem? (i := 1) rfl) hxt hlocks hK hTf hZ hP hD hS hA hl.1 ⟨Nat.le_of_ble_eq_true rfl, Nat.le_of_ble_eq_true rfl⟩ ⟨Nat.le_of_ble_eq_true rfl, Nat.le_of_ble_eq_true rfl⟩ d_Pri_requireFactNumbers_12 d_Pri_requireFactNumbers_15 d_Pri_requireFactNumbers_16 d_Pri_requireFactNumbers_18 d_Pri_requireFactNumbers_21
set_option maxHeartbeats 1000000 in
set_option maxRecDepth 100000 in
theorem c_Pri_requireDay_x (l : Launch) (hst : l.stackTraces = false) (D : va_G) (ta : Nat → ClassId)  (d : Int32) (h1 : dyOK d = false) : ∀ sz, Thr l y_Pri_requireDay w_Pri_requireDay { frames := 6, cells := 1, slots := 6, locals := 90 } (va_Pc [.int d] (pT D ta [] sz)) (xT D ta (va_A [] sz) x_iae []) 1 6 (va_A [] sz) := by
  refine opn_X (bytes := b_Pri_requireDay) (maxL := 1) (by decide +kernel) rfl (Nat.le_of_ble_eq_true rfl) ?_
  intro p e s m below meth c A ls hx hb hml hown hlocks hxt hw hK hN hTf hZ hP hD hA hS hl
  have hl : lv_has ls 1 [(0, .int d)] := hl
  refine lv_iload_n hx hb d_Pri_requireDay_0 rfl (lv_at hl 0 rfl) ?_
  refine lv_if_lt (tgt := 11) hx hb d_Pri_requireDay_1 (by decide) (fun c_1 => ?_) (fun c_1 => ?_)
  · exact own_t (A := A) ⟨hx, hb, hml, hown, hw⟩ hst fit_iae ow_iae W3_15 W3_16 W1_16 (List.mem_of_getElem? (i := 5) rfl) hxt hlocks hK hTf hZ hP hD hS hA hl.1 ⟨Nat.le_of_ble_eq_true rfl, Nat.le_of_ble_eq_true rfl⟩ ⟨Nat.le_of_ble_eq_true rfl, Nat.le_of_ble_eq_true rfl⟩ d_Pri_requireDay_11 d_Pri_requireDay_14 d_Pri_requireDay_15 d_Pri_requireDay_17 d_Pri_requireDay_20
  · refine lv_iload_n hx hb d_Pri_requireDay_4 rfl (lv_at hl 0 rfl) ?_
    refine lv_sipush (v := 10000) hx hb d_Pri_requireDay_5 (by decide) ?_
    refine lv_icmp_le (tgt := 21) hx hb d_Pri_requireDay_8 (by decide) (fun c_2 => ?_) (fun c_2 => ?_)
    · exact Bool.noConfusion ((h1).symm.trans (show dyOK d = true from by simp only [dyOK, c_1, c_2, decide_true, decide_false, Bool.not_true, Bool.not_false, Bool.and_true, Bool.true_and, Bool.and_false, Bool.false_and, Bool.or_true, Bool.true_or, Bool.or_false, Bool.false_or, if_true, if_false, reduceIte, Bool.false_eq_true, b2i]))
    · exact own_t (A := A) ⟨hx, hb, hml, hown, hw⟩ hst fit_iae ow_iae W3_15 W3_16 W1_16 (List.mem_of_getElem? (i := 5) rfl) hxt hlocks hK hTf hZ hP hD hS hA hl.1 ⟨Nat.le_of_ble_eq_true rfl, Nat.le_of_ble_eq_true rfl⟩ ⟨Nat.le_of_ble_eq_true rfl, Nat.le_of_ble_eq_true rfl⟩ d_Pri_requireDay_11 d_Pri_requireDay_14 d_Pri_requireDay_15 d_Pri_requireDay_17 d_Pri_requireDay_20
set_option maxHeartbeats 1000000 in
set_option maxRecDepth 100000 in
theorem c_Pri_requireOffer_x (l : Launch) (hst : l.stackTraces = false) (D : va_G) (ta : Nat → ClassId) (z0 r0 f0 h0 u0 o0 v0 q0 g0 w0 o1 o2 : Nat) (oC : Nat → Int64) (oL : Nat → Int32) (on : Int32) (k : Int32) (h1 : inOK k on = false) : ∀ sz, Thr l y_Pri_requireOffer w_Pri_requireOffer { frames := 6, cells := 1, slots := 6, locals := 90 } (va_Pc [.ref z0, .int k] (pT D ta [(z0, .inr (9, [.ref r0, .ref f0, .ref h0, .ref u0, .ref o0, .ref v0, .ref q0, .ref g0, .ref w0])), (o0, .inr (5, [.ref o1, .ref o2, .int on])), (o1, .inl (ta 2, 8, .inr (.inl oC))), (o2, .inl (ta 0, 8, .inl oL))] sz)) (xT D ta (va_A [(z0, .inr (9, [.ref r0, .ref f0, .ref h0, .ref u0, .ref o0, .ref v0, .ref q0, .ref g0, .ref w0])), (o0, .inr (5, [.ref o1, .ref o2, .int on])), (o1, .inl (ta 2, 8, .inr (.inl oC))), (o2, .inl (ta 0, 8, .inl oL))] sz) x_iob [(z0, .inr (9, [.ref r0, .ref f0, .ref h0, .ref u0, .ref o0, .ref v0, .ref q0, .ref g0, .ref w0])), (o0, .inr (5, [.ref o1, .ref o2, .int on])), (o1, .inl (ta 2, 8, .inr (.inl oC))), (o2, .inl (ta 0, 8, .inl oL))]) 1 6 (va_A [(z0, .inr (9, [.ref r0, .ref f0, .ref h0, .ref u0, .ref o0, .ref v0, .ref q0, .ref g0, .ref w0])), (o0, .inr (5, [.ref o1, .ref o2, .int on])), (o1, .inl (ta 2, 8, .inr (.inl oC))), (o2, .inl (ta 0, 8, .inl oL))] sz) := by
  refine opn_X (bytes := b_Pri_requireOffer) (maxL := 2) (by decide +kernel) rfl (Nat.le_of_ble_eq_true rfl) ?_
  intro p e s m below meth c A ls hx hb hml hown hlocks hxt hw hK hN hTf hZ hP hD hA hS hl
  have hl : lv_has ls 2 [(0, .ref z0), (1, .int k)] := hl
  refine lv_iload_n hx hb d_Pri_requireOffer_0 rfl (lv_at hl 1 rfl) ?_
  refine lv_if_lt (tgt := 15) hx hb d_Pri_requireOffer_1 (by decide) (fun c_1 => ?_) (fun c_1 => ?_)
  · exact own_t (A := A) ⟨hx, hb, hml, hown, hw⟩ hst fit_iob ow_iob W2_184 W2_185 W1_15 (List.mem_of_getElem? (i := 11) rfl) hxt hlocks hK hTf hZ hP hD hS hA hl.1 ⟨Nat.le_of_ble_eq_true rfl, Nat.le_of_ble_eq_true rfl⟩ ⟨Nat.le_of_ble_eq_true rfl, Nat.le_of_ble_eq_true rfl⟩ d_Pri_requireOffer_15 d_Pri_requireOffer_18 d_Pri_requireOffer_19 d_Pri_requireOffer_21 d_Pri_requireOffer_24
  · refine lv_iload_n hx hb d_Pri_requireOffer_4 rfl (lv_at hl 1 rfl) ?_
    refine lv_aload_n hx hb d_Pri_requireOffer_5 rfl (lv_at hl 0 rfl) ?_
    refine va_get (D := D) (ci := 9) (v := .ref o0) (C := "PriceLines") (T := F_Pri) (N := 9) hx hb hw in_Pri hown hK hP 0 rfl rfl 4 (by decide) (hw _ W1_197) (fun _ h9 => h9) rfl d_Pri_requireOffer_6 ?_
    refine va_getN (D := D) (ci := 5) (v := .int on) (C := "PriceLines$Offers") (T := F_Off) (N := 3) hx hb hw in_Off hown hK hP 1 rfl rfl 2 (by decide) (hN.use 9 rfl rfl) (fun _ h9 => h9) rfl d_Pri_requireOffer_9 ?_
    refine lv_icmp_lt (tgt := 25) hx hb d_Pri_requireOffer_12 (by decide) (fun c_2 => ?_) (fun c_2 => ?_)
    · exact Bool.noConfusion ((h1).symm.trans (show inOK k on = true from by simp only [inOK, c_1, c_2, decide_true, decide_false, Bool.not_true, Bool.not_false, Bool.and_true, Bool.true_and, Bool.and_false, Bool.false_and, Bool.or_true, Bool.true_or, Bool.or_false, Bool.false_or, if_true, if_false, reduceIte, Bool.false_eq_true, b2i]))
    · exact own_t (A := A) ⟨hx, hb, hml, hown, hw⟩ hst fit_iob ow_iob W2_184 W2_185 W1_15 (List.mem_of_getElem? (i := 11) rfl) hxt hlocks hK hTf hZ hP hD hS hA hl.1 ⟨Nat.le_of_ble_eq_true rfl, Nat.le_of_ble_eq_true rfl⟩ ⟨Nat.le_of_ble_eq_true rfl, Nat.le_of_ble_eq_true rfl⟩ d_Pri_requireOffer_15 d_Pri_requireOffer_18 d_Pri_requireOffer_19 d_Pri_requireOffer_21 d_Pri_requireOffer_24
set_option maxHeartbeats 1000000 in
set_option maxRecDepth 100000 in
theorem c_Pri_requireInvoice_x (l : Launch) (hst : l.stackTraces = false) (D : va_G) (ta : Nat → ClassId) (z0 r0 f0 h0 u0 o0 v0 q0 g0 w0 v1 : Nat) (iL : Nat → Int64) (vn : Int32) (k : Int32) (h1 : inOK k vn = false) : ∀ sz, Thr l y_Pri_requireInvoice w_Pri_requireInvoice { frames := 6, cells := 1, slots := 6, locals := 90 } (va_Pc [.ref z0, .int k] (pT D ta [(z0, .inr (9, [.ref r0, .ref f0, .ref h0, .ref u0, .ref o0, .ref v0, .ref q0, .ref g0, .ref w0])), (v0, .inr (3, [.ref v1, .int vn])), (v1, .inl (ta 2, 8, .inr (.inl iL)))] sz)) (xT D ta (va_A [(z0, .inr (9, [.ref r0, .ref f0, .ref h0, .ref u0, .ref o0, .ref v0, .ref q0, .ref g0, .ref w0])), (v0, .inr (3, [.ref v1, .int vn])), (v1, .inl (ta 2, 8, .inr (.inl iL)))] sz) x_iob [(z0, .inr (9, [.ref r0, .ref f0, .ref h0, .ref u0, .ref o0, .ref v0, .ref q0, .ref g0, .ref w0])), (v0, .inr (3, [.ref v1, .int vn])), (v1, .inl (ta 2, 8, .inr (.inl iL)))]) 1 6 (va_A [(z0, .inr (9, [.ref r0, .ref f0, .ref h0, .ref u0, .ref o0, .ref v0, .ref q0, .ref g0, .ref w0])), (v0, .inr (3, [.ref v1, .int vn])), (v1, .inl (ta 2, 8, .inr (.inl iL)))] sz) := by
  refine opn_X (bytes := b_Pri_requireInvoice) (maxL := 2) (by decide +kernel) rfl (Nat.le_of_ble_eq_true rfl) ?_
  intro p e s m below meth c A ls hx hb hml hown hlocks hxt hw hK hN hTf hZ hP hD hA hS hl
  have hl : lv_has ls 2 [(0, .ref z0), (1, .int k)] := hl
  refine lv_iload_n hx hb d_Pri_requireInvoice_0 rfl (lv_at hl 1 rfl) ?_
  refine lv_if_lt (tgt := 15) hx hb d_Pri_requireInvoice_1 (by decide) (fun c_1 => ?_) (fun c_1 => ?_)
  · exact own_t (A := A) ⟨hx, hb, hml, hown, hw⟩ hst fit_iob ow_iob W2_184 W2_185 W1_15 (List.mem_of_getElem? (i := 15) rfl) hxt hlocks hK hTf hZ hP hD hS hA hl.1 ⟨Nat.le_of_ble_eq_true rfl, Nat.le_of_ble_eq_true rfl⟩ ⟨Nat.le_of_ble_eq_true rfl, Nat.le_of_ble_eq_true rfl⟩ d_Pri_requireInvoice_15 d_Pri_requireInvoice_18 d_Pri_requireInvoice_19 d_Pri_requireInvoice_21 d_Pri_requireInvoice_24
  · refine lv_iload_n hx hb d_Pri_requireInvoice_4 rfl (lv_at hl 1 rfl) ?_
    refine lv_aload_n hx hb d_Pri_requireInvoice_5 rfl (lv_at hl 0 rfl) ?_
    refine va_get (D := D) (ci := 9) (v := .ref v0) (C := "PriceLines") (T := F_Pri) (N := 9) hx hb hw in_Pri hown hK hP 0 rfl rfl 5 (by decide) (hw _ W1_198) (fun _ h9 => h9) rfl d_Pri_requireInvoice_6 ?_
    refine va_getN (D := D) (ci := 3) (v := .int vn) (C := "PriceLines$Invoices") (T := F_Inv) (N := 2) hx hb hw in_Inv hown hK hP 1 rfl rfl 1 (by decide) (hN.use 11 rfl rfl) (fun _ h9 => h9) rfl d_Pri_requireInvoice_9 ?_
    refine lv_icmp_lt (tgt := 25) hx hb d_Pri_requireInvoice_12 (by decide) (fun c_2 => ?_) (fun c_2 => ?_)
    · exact Bool.noConfusion ((h1).symm.trans (show inOK k vn = true from by simp only [inOK, c_1, c_2, decide_true, decide_false, Bool.not_true, Bool.not_false, Bool.and_true, Bool.true_and, Bool.and_false, Bool.false_and, Bool.or_true, Bool.true_or, Bool.or_false, Bool.false_or, if_true, if_false, reduceIte, Bool.false_eq_true, b2i]))
    · exact own_t (A := A) ⟨hx, hb, hml, hown, hw⟩ hst fit_iob ow_iob W2_184 W2_185 W1_15 (List.mem_of_getElem? (i := 15) rfl) hxt hlocks hK hTf hZ hP hD hS hA hl.1 ⟨Nat.le_of_ble_eq_true rfl, Nat.le_of_ble_eq_true rfl⟩ ⟨Nat.le_of_ble_eq_true rfl, Nat.le_of_ble_eq_true rfl⟩ d_Pri_requireInvoice_15 d_Pri_requireInvoice_18 d_Pri_requireInvoice_19 d_Pri_requireInvoice_21 d_Pri_requireInvoice_24
set_option maxHeartbeats 1000000 in
set_option maxRecDepth 100000 in
theorem c_Pri_requireHeld_x (l : Launch) (hst : l.stackTraces = false) (D : va_G) (ta : Nat → ClassId) (z0 r0 f0 h0 u0 o0 v0 q0 g0 w0 o1 o2 : Nat) (oC : Nat → Int64) (oL : Nat → Int32) (on : Int32) (k : Int32) (d : Int32) (h1 : hlOK oL k d = false) : ∀ sz, Thr l y_Pri_requireHeld w_Pri_requireHeld { frames := 6, cells := 1, slots := 6, locals := 90 } (va_Pc [.ref z0, .int k, .int d] (pT D ta [(z0, .inr (9, [.ref r0, .ref f0, .ref h0, .ref u0, .ref o0, .ref v0, .ref q0, .ref g0, .ref w0])), (o0, .inr (5, [.ref o1, .ref o2, .int on])), (o1, .inl (ta 2, 8, .inr (.inl oC))), (o2, .inl (ta 0, 8, .inl oL))] sz)) (xT D ta (va_A [(z0, .inr (9, [.ref r0, .ref f0, .ref h0, .ref u0, .ref o0, .ref v0, .ref q0, .ref g0, .ref w0])), (o0, .inr (5, [.ref o1, .ref o2, .int on])), (o1, .inl (ta 2, 8, .inr (.inl oC))), (o2, .inl (ta 0, 8, .inl oL))] sz) x_ise [(z0, .inr (9, [.ref r0, .ref f0, .ref h0, .ref u0, .ref o0, .ref v0, .ref q0, .ref g0, .ref w0])), (o0, .inr (5, [.ref o1, .ref o2, .int on])), (o1, .inl (ta 2, 8, .inr (.inl oC))), (o2, .inl (ta 0, 8, .inl oL))]) 1 6 (va_A [(z0, .inr (9, [.ref r0, .ref f0, .ref h0, .ref u0, .ref o0, .ref v0, .ref q0, .ref g0, .ref w0])), (o0, .inr (5, [.ref o1, .ref o2, .int on])), (o1, .inl (ta 2, 8, .inr (.inl oC))), (o2, .inl (ta 0, 8, .inl oL))] sz) := by
  refine opn_X (bytes := b_Pri_requireHeld) (maxL := 3) (by decide +kernel) rfl (Nat.le_of_ble_eq_true rfl) ?_
  intro p e s m below meth c A ls hx hb hml hown hlocks hxt hw hK hN hTf hZ hP hD hA hS hl
  have hl : lv_has ls 3 [(0, .ref z0), (1, .int k), (2, .int d)] := hl
  refine lv_iload_n hx hb d_Pri_requireHeld_0 rfl (lv_at hl 2 rfl) ?_
  refine lv_aload_n hx hb d_Pri_requireHeld_1 rfl (lv_at hl 0 rfl) ?_
  refine va_get (D := D) (ci := 9) (v := .ref o0) (C := "PriceLines") (T := F_Pri) (N := 9) hx hb hw in_Pri hown hK hP 0 rfl rfl 4 (by decide) (hw _ W1_197) (fun _ h9 => h9) rfl d_Pri_requireHeld_2 ?_
  refine lv_iload_n hx hb d_Pri_requireHeld_5 rfl (lv_at hl 1 rfl) ?_
  refine kV_i (rest := [.int d]) (As := [.int k]) (w2 := [(z0, .inr (9, [.ref r0, .ref f0, .ref h0, .ref u0, .ref o0, .ref v0, .ref q0, .ref g0, .ref w0])), (o0, .inr (5, [.ref o1, .ref o2, .int on])), (o1, .inl (ta 2, 8, .inr (.inl oC))), (o2, .inl (ta 0, 8, .inl oL))]) (q0 := 0) (ci := 5) ⟨hx, hb, hml, hown, hw⟩ (c_Off_lastDayOf l D ta o0 o1 o2 oC oL on k) W3_161 W3_162 W3_163 W1_7 W3_164 rfl rfl rfl hd_Off_lastDayOf ⟨Nat.le_of_ble_eq_true rfl, Nat.le_of_ble_eq_true rfl⟩ hK hN hP hD hS hA (Spl.lit [1, 2, 3] [0] [0, 1, 2, 3] rfl (by decide) rfl (by decide) (by decide) rfl (by decide)) rfl rfl rfl rfl hl.1 rfl (Nat.le_of_ble_eq_true rfl) ⟨Nat.zero_le _, Nat.zero_le _⟩ d_Pri_requireHeld_6 (fun H locs hP hD hS => ?_)
  refine lv_icmp_le (tgt := 22) hx hb d_Pri_requireHeld_9 (by decide) (fun c_1 => ?_) (fun c_1 => ?_)
  · exact Bool.noConfusion ((h1).symm.trans (show hlOK oL k d = true from by simp only [hlOK, c_1, decide_true, decide_false, Bool.not_true, Bool.not_false, Bool.and_true, Bool.true_and, Bool.and_false, Bool.false_and, Bool.or_true, Bool.true_or, Bool.or_false, Bool.false_or, if_true, if_false, reduceIte, Bool.false_eq_true, b2i]))
  · exact own_t (A := A) ⟨hx, hb, hml, hown, hw⟩ hst fit_ise ow_ise W3_95 W3_96 W1_18 (List.mem_of_getElem? (i := 12) rfl) hxt hlocks hK hTf hZ hP hD hS hA hl.1 ⟨Nat.le_of_ble_eq_true rfl, Nat.le_of_ble_eq_true rfl⟩ ⟨Nat.le_of_ble_eq_true rfl, Nat.le_of_ble_eq_true rfl⟩ d_Pri_requireHeld_12 d_Pri_requireHeld_15 d_Pri_requireHeld_16 d_Pri_requireHeld_18 d_Pri_requireHeld_21
