theorem hd_Fac_tell : y_Fac_tell.cls = "PriceLines$Facts" ∧ y_Fac_tell.cls ≠ "java/lang/invoke/MethodHandle" ∧ y_Fac_tell.cls ≠ "java/lang/invoke/VarHandle" ∧ (parseMethodDescriptor y_Fac_tell.desc).map (fun d => d.parameters.length) = some 3 := by decide +kernel
set_option maxHeartbeats 1000000 in
set_option maxRecDepth 100000 in
theorem c_Fac_tell (l : Launch) (D : va_G) (ta : Nat → ClassId) (h0 h1 h2 : Nat) (fA : Nat → Int32) (fB : Nat → Int32) (ch : Int32) (x : Int32) (y : Int32) : ∀ sz, Met l y_Fac_tell w_Fac_tell { frames := 1, cells := 0, slots := 0, locals := 21 } (va_Pc [.ref h0, .int ch, .int x, .int y] (pW D ta [(h0, .inr (1, [.ref h1, .ref h2])), (h1, .inl (ta 0, 26, .inl fA)), (h2, .inl (ta 0, 26, .inl fB))] sz)) (eV D ta (va_A [(h0, .inr (1, [.ref h1, .ref h2])), (h1, .inl (ta 0, 26, .inl fA)), (h2, .inl (ta 0, 26, .inl fB))] sz) [(h0, .inr (1, [.ref h1, .ref h2])), (h1, .inl (ta 0, 26, .inl (ixU fA 26 (ch - 97) x))), (h2, .inl (ta 0, 26, .inl (ixU fB 26 (ch - 97) y)))]) 0 0 (va_A [(h0, .inr (1, [.ref h1, .ref h2])), (h1, .inl (ta 0, 26, .inl fA)), (h2, .inl (ta 0, 26, .inl fB))] sz) := by
  refine opn_V (bytes := b_Fac_tell) (maxL := 5) (by decide +kernel) rfl (Nat.le_of_ble_eq_true rfl) ?_
  intro p e s m below meth c A ls hx hb hr hml hown hlocks hnm hw hK hN hP hD hA hS hl
  have hl : lv_has ls 5 [(0, .ref h0), (1, .int ch), (2, .int x), (3, .int y)] := hl
  refine lv_iload_n hx hb d_Fac_tell_0 rfl (lv_at hl 1 rfl) ?_
  refine lv_bipush (v := 97) hx hb d_Fac_tell_1 (by decide) ?_
  refine lv_isub hx hb d_Fac_tell_3 ?_
  refine lv_istore (lv' := [(4, .int (ch - 97)), (0, .ref h0), (1, .int ch), (2, .int x), (3, .int y)]) hx hb d_Fac_tell_4 hl (by decide) rfl (fun ls hl => ?_)
  refine lv_iload hx hb d_Fac_tell_6 (lv_at hl 0 rfl) ?_
  refine lv_bipush (v := 26) hx hb d_Fac_tell_8 (by decide) ?_
  refine kT_i (rest := []) (As := [.int (ch - 97), .int 26]) (w2 := [(h0, .inr (1, [.ref h1, .ref h2])), (h1, .inl (ta 0, 26, .inl fA)), (h2, .inl (ta 0, 26, .inl fB))]) ⟨hx, hb, hml, hown, hw⟩ (c_Pri_isIndex l D ta (ch - 97) 26) (hN.get 22 rfl) W1_230 W1_1 W1_231 rfl rfl rfl hd_Pri_isIndex ⟨Nat.le_of_ble_eq_true rfl, Nat.le_of_ble_eq_true rfl⟩ hK hN hP hD hS hA Spl.none rfl hl.1 rfl (Nat.le_of_ble_eq_true rfl) ⟨Nat.zero_le _, Nat.zero_le _⟩ d_Fac_tell_10 (fun H locs hP hD hS => ?_)
  refine lb_eq (tgt := 32) hx hb d_Fac_tell_13 (by decide) (fun c_1 => ?_) (fun c_1 => ?_)
  · exact fin_v hx hb hr hlocks hK hP hD hS d_Fac_tell_32 (by simp only [ixU, c_1, decide_true, decide_false, Bool.not_true, Bool.not_false, Bool.and_true, Bool.true_and, Bool.and_false, Bool.false_and, Bool.or_true, Bool.true_or, Bool.or_false, Bool.false_or, if_true, if_false, reduceIte, Bool.false_eq_true, b2i])
  · refine lv_aload_n hx hb d_Fac_tell_16 rfl (lv_at hl 1 rfl) ?_
    refine va_get (D := D) (ci := 1) (v := .ref h1) (C := "PriceLines$Facts") (T := F_Fac) (N := 2) hx hb hw in_Fac hown hK hP 0 rfl rfl 0 (by decide) (hw _ W1_53) (fun _ h9 => h9) rfl d_Fac_tell_17 ?_
    refine lv_iload hx hb d_Fac_tell_20 (lv_at hl 0 rfl) ?_
    refine lv_iload_n hx hb d_Fac_tell_22 rfl (lv_at hl 3 rfl) ?_
    have h_2 : vp_in (ch - 97) 26 := (ix_in (n := 26) (by assumption) (by decide))
    refine va_iast hx hb hK hP hD hS 1 0 rfl rfl h_2 d_Fac_tell_23 (fun H locs hP hD hS => ?_)
    have hP : va_P D vwCl [(h0, .inr (1, [.ref h1, .ref h2])), (h1, .inl (ta 0, 26, .inl (upd fA (ch - 97).toNatClampNeg x))), (h2, .inl (ta 0, 26, .inl fB))] H := hP
    have hD : va_D A [(h0, .inr (1, [.ref h1, .ref h2])), (h1, .inl (ta 0, 26, .inl (upd fA (ch - 97).toNatClampNeg x))), (h2, .inl (ta 0, 26, .inl fB))] := hD
    refine lv_aload_n hx hb d_Fac_tell_24 rfl (lv_at hl 1 rfl) ?_
    refine va_get (D := D) (ci := 1) (v := .ref h2) (C := "PriceLines$Facts") (T := F_Fac) (N := 2) hx hb hw in_Fac hown hK hP 0 rfl rfl 1 (by decide) (hw _ W1_54) (fun _ h9 => h9) rfl d_Fac_tell_25 ?_
    refine lv_iload hx hb d_Fac_tell_28 (lv_at hl 0 rfl) ?_
    refine lv_iload_n hx hb d_Fac_tell_30 rfl (lv_at hl 4 rfl) ?_
    have h_3 : vp_in (ch - 97) 26 := (ix_in (n := 26) (by assumption) (by decide))
    refine va_iast hx hb hK hP hD hS 2 0 rfl rfl h_3 d_Fac_tell_31 (fun H locs hP hD hS => ?_)
    have hP : va_P D vwCl [(h0, .inr (1, [.ref h1, .ref h2])), (h1, .inl (ta 0, 26, .inl (upd fA (ch - 97).toNatClampNeg x))), (h2, .inl (ta 0, 26, .inl (upd fB (ch - 97).toNatClampNeg y)))] H := hP
    have hD : va_D A [(h0, .inr (1, [.ref h1, .ref h2])), (h1, .inl (ta 0, 26, .inl (upd fA (ch - 97).toNatClampNeg x))), (h2, .inl (ta 0, 26, .inl (upd fB (ch - 97).toNatClampNeg y)))] := hD
    exact fin_v hx hb hr hlocks hK hP hD hS d_Fac_tell_32 (by simp only [ixU, c_1, decide_true, decide_false, Bool.not_true, Bool.not_false, Bool.and_true, Bool.true_and, Bool.and_false, Bool.false_and, Bool.or_true, Bool.true_or, Bool.or_false, Bool.false_or, if_true, if_false, reduceIte, Bool.false_eq_true, b2i])
theorem hd_Fac_drop : y_Fac_drop.cls = "PriceLines$Facts" ∧ y_Fac_drop.cls ≠ "java/lang/invoke/MethodHandle" ∧ y_Fac_drop.cls ≠ "java/lang/invoke/VarHandle" ∧ (parseMethodDescriptor y_Fac_drop.desc).map (fun d => d.parameters.length) = some 1 := by decide +kernel
set_option maxHeartbeats 1000000 in
set_option maxRecDepth 100000 in
theorem c_Fac_drop (l : Launch) (D : va_G) (ta : Nat → ClassId) (h0 h1 h2 : Nat) (fA : Nat → Int32) (fB : Nat → Int32) (ch : Int32) : ∀ sz, Met l y_Fac_drop w_Fac_drop { frames := 2, cells := 0, slots := 0, locals := 45 } (va_Pc [.ref h0, .int ch] (pW D ta [(h0, .inr (1, [.ref h1, .ref h2])), (h1, .inl (ta 0, 26, .inl fA)), (h2, .inl (ta 0, 26, .inl fB))] sz)) (eV D ta (va_A [(h0, .inr (1, [.ref h1, .ref h2])), (h1, .inl (ta 0, 26, .inl fA)), (h2, .inl (ta 0, 26, .inl fB))] sz) [(h0, .inr (1, [.ref h1, .ref h2])), (h1, .inl (ta 0, 26, .inl (ixU fA 26 (ch - 97) 0))), (h2, .inl (ta 0, 26, .inl (ixU fB 26 (ch - 97) 0)))]) 0 0 (va_A [(h0, .inr (1, [.ref h1, .ref h2])), (h1, .inl (ta 0, 26, .inl fA)), (h2, .inl (ta 0, 26, .inl fB))] sz) := by
  refine opn_V (bytes := b_Fac_drop) (maxL := 2) (by decide +kernel) rfl (Nat.le_of_ble_eq_true rfl) ?_
  intro p e s m below meth c A ls hx hb hr hml hown hlocks hnm hw hK hN hP hD hA hS hl
  have hl : lv_has ls 2 [(0, .ref h0), (1, .int ch)] := hl
  refine lv_aload_n hx hb d_Fac_drop_0 rfl (lv_at hl 0 rfl) ?_
  refine lv_iload_n hx hb d_Fac_drop_1 rfl (lv_at hl 1 rfl) ?_
  refine lv_iconst (v := 0) hx hb d_Fac_drop_2 (by decide) ?_
  refine lv_iconst (v := 0) hx hb d_Fac_drop_3 (by decide) ?_
  refine kV_v (rest := []) (As := [.int ch, .int 0, .int 0]) (w2 := [(h0, .inr (1, [.ref h1, .ref h2])), (h1, .inl (ta 0, 26, .inl (ixU fA 26 (ch - 97) 0))), (h2, .inl (ta 0, 26, .inl (ixU fB 26 (ch - 97) 0)))]) (q0 := 0) (ci := 1) ⟨hx, hb, hml, hown, hw⟩ (c_Fac_tell l D ta h0 h1 h2 fA fB ch 0 0) W3_50 W3_35 W3_36 W1_3 W3_37 rfl rfl rfl hd_Fac_tell ⟨Nat.le_of_ble_eq_true rfl, Nat.le_of_ble_eq_true rfl⟩ hK hN hP hD hS hA (Spl.lit [0, 1, 2] [] [0, 1, 2] rfl (by decide) rfl (by decide) (by decide) rfl (by decide)) rfl rfl rfl rfl hl.1 rfl (Nat.le_of_ble_eq_true rfl) ⟨Nat.zero_le _, Nat.zero_le _⟩ d_Fac_drop_4 (fun H locs hP hD hS => ?_)
  exact fin_v hx hb hr hlocks hK hP hD hS d_Fac_drop_7 rfl
theorem hd_Fac_aboveOf : y_Fac_aboveOf.cls = "PriceLines$Facts" ∧ y_Fac_aboveOf.cls ≠ "java/lang/invoke/MethodHandle" ∧ y_Fac_aboveOf.cls ≠ "java/lang/invoke/VarHandle" ∧ (parseMethodDescriptor y_Fac_aboveOf.desc).map (fun d => d.parameters.length) = some 1 := by decide +kernel
set_option maxHeartbeats 1000000 in
set_option maxRecDepth 100000 in
theorem c_Fac_aboveOf (l : Launch) (D : va_G) (ta : Nat → ClassId) (h0 h1 h2 : Nat) (fA : Nat → Int32) (fB : Nat → Int32) (ch : Int32) : ∀ sz, Met l y_Fac_aboveOf w_Fac_aboveOf { frames := 1, cells := 0, slots := 0, locals := 21 } (va_Pc [.ref h0, .int ch] (pW D ta [(h0, .inr (1, [.ref h1, .ref h2])), (h1, .inl (ta 0, 26, .inl fA)), (h2, .inl (ta 0, 26, .inl fB))] sz)) (eI D ta (va_A [(h0, .inr (1, [.ref h1, .ref h2])), (h1, .inl (ta 0, 26, .inl fA)), (h2, .inl (ta 0, 26, .inl fB))] sz) (ixG fA 26 (ch - 97)) [(h0, .inr (1, [.ref h1, .ref h2])), (h1, .inl (ta 0, 26, .inl fA)), (h2, .inl (ta 0, 26, .inl fB))]) 0 0 (va_A [(h0, .inr (1, [.ref h1, .ref h2])), (h1, .inl (ta 0, 26, .inl fA)), (h2, .inl (ta 0, 26, .inl fB))] sz) := by
  refine opn_I (bytes := b_Fac_aboveOf) (maxL := 3) (by decide +kernel) rfl (Nat.le_of_ble_eq_true rfl) ?_
  intro p e s m below meth c A ls hx hb hr hml hown hlocks hnm hw hK hN hP hD hA hS hl
  have hl : lv_has ls 3 [(0, .ref h0), (1, .int ch)] := hl
  refine lv_iload_n hx hb d_Fac_aboveOf_0 rfl (lv_at hl 1 rfl) ?_
  refine lv_bipush (v := 97) hx hb d_Fac_aboveOf_1 (by decide) ?_
  refine lv_isub hx hb d_Fac_aboveOf_3 ?_
  refine lv_istore_n (lv' := [(2, .int (ch - 97)), (0, .ref h0), (1, .int ch)]) hx hb d_Fac_aboveOf_4 rfl hl (by decide) rfl (fun ls hl => ?_)
  refine lv_iload_n hx hb d_Fac_aboveOf_5 rfl (lv_at hl 0 rfl) ?_
  refine lv_bipush (v := 26) hx hb d_Fac_aboveOf_6 (by decide) ?_
  refine kT_i (rest := []) (As := [.int (ch - 97), .int 26]) (w2 := [(h0, .inr (1, [.ref h1, .ref h2])), (h1, .inl (ta 0, 26, .inl fA)), (h2, .inl (ta 0, 26, .inl fB))]) ⟨hx, hb, hml, hown, hw⟩ (c_Pri_isIndex l D ta (ch - 97) 26) (hN.get 22 rfl) W1_230 W1_1 W1_231 rfl rfl rfl hd_Pri_isIndex ⟨Nat.le_of_ble_eq_true rfl, Nat.le_of_ble_eq_true rfl⟩ hK hN hP hD hS hA Spl.none rfl hl.1 rfl (Nat.le_of_ble_eq_true rfl) ⟨Nat.zero_le _, Nat.zero_le _⟩ d_Fac_aboveOf_8 (fun H locs hP hD hS => ?_)
  refine lb_eq (tgt := 23) hx hb d_Fac_aboveOf_11 (by decide) (fun c_1 => ?_) (fun c_1 => ?_)
  · refine lv_iconst (v := 0) hx hb d_Fac_aboveOf_23 (by decide) ?_
    exact fin_i hx hb hr hlocks hK hP hD hS d_Fac_aboveOf_24 (by simp only [ixG, c_1, decide_true, decide_false, Bool.not_true, Bool.not_false, Bool.and_true, Bool.true_and, Bool.and_false, Bool.false_and, Bool.or_true, Bool.true_or, Bool.or_false, Bool.false_or, if_true, if_false, reduceIte, Bool.false_eq_true, b2i]) rfl
  · refine lv_aload_n hx hb d_Fac_aboveOf_14 rfl (lv_at hl 1 rfl) ?_
    refine va_get (D := D) (ci := 1) (v := .ref h1) (C := "PriceLines$Facts") (T := F_Fac) (N := 2) hx hb hw in_Fac hown hK hP 0 rfl rfl 0 (by decide) (hw _ W1_53) (fun _ h9 => h9) rfl d_Fac_aboveOf_15 ?_
    refine lv_iload_n hx hb d_Fac_aboveOf_18 rfl (lv_at hl 0 rfl) ?_
    have h_2 : vp_in (ch - 97) 26 := (ix_in (n := 26) (by assumption) (by decide))
    refine va_iald hx hb hK hP 1 0 rfl rfl h_2 d_Fac_aboveOf_19 ?_
    refine lv_goto (tgt := 24) hx hb d_Fac_aboveOf_20 (by decide) ?_
    exact fin_i hx hb hr hlocks hK hP hD hS d_Fac_aboveOf_24 (by simp only [ixG, c_1, decide_true, decide_false, Bool.not_true, Bool.not_false, Bool.and_true, Bool.true_and, Bool.and_false, Bool.false_and, Bool.or_true, Bool.true_or, Bool.or_false, Bool.false_or, if_true, if_false, reduceIte, Bool.false_eq_true, b2i]) rfl
theorem hd_Fac_belowOf : y_Fac_belowOf.cls = "PriceLines$Facts" ∧ y_Fac_belowOf.cls ≠ "java/lang/invoke/MethodHandle" ∧ y_Fac_belowOf.cls ≠ "java/lang/invoke/VarHandle" ∧ (parseMethodDescriptor y_Fac_belowOf.desc).map (fun d => d.parameters.length) = some 1 := by decide +kernel
set_option maxHeartbeats 1000000 in
set_option maxRecDepth 100000 in
theorem c_Fac_belowOf (l : Launch) (D : va_G) (ta : Nat → ClassId) (h0 h1 h2 : Nat) (fA : Nat → Int32) (fB : Nat → Int32) (ch : Int32) : ∀ sz, Met l y_Fac_belowOf w_Fac_belowOf { frames := 1, cells := 0, slots := 0, locals := 21 } (va_Pc [.ref h0, .int ch] (pW D ta [(h0, .inr (1, [.ref h1, .ref h2])), (h1, .inl (ta 0, 26, .inl fA)), (h2, .inl (ta 0, 26, .inl fB))] sz)) (eI D ta (va_A [(h0, .inr (1, [.ref h1, .ref h2])), (h1, .inl (ta 0, 26, .inl fA)), (h2, .inl (ta 0, 26, .inl fB))] sz) (ixG fB 26 (ch - 97)) [(h0, .inr (1, [.ref h1, .ref h2])), (h1, .inl (ta 0, 26, .inl fA)), (h2, .inl (ta 0, 26, .inl fB))]) 0 0 (va_A [(h0, .inr (1, [.ref h1, .ref h2])), (h1, .inl (ta 0, 26, .inl fA)), (h2, .inl (ta 0, 26, .inl fB))] sz) := by
  refine opn_I (bytes := b_Fac_belowOf) (maxL := 3) (by decide +kernel) rfl (Nat.le_of_ble_eq_true rfl) ?_
  intro p e s m below meth c A ls hx hb hr hml hown hlocks hnm hw hK hN hP hD hA hS hl
  have hl : lv_has ls 3 [(0, .ref h0), (1, .int ch)] := hl
  refine lv_iload_n hx hb d_Fac_belowOf_0 rfl (lv_at hl 1 rfl) ?_
  refine lv_bipush (v := 97) hx hb d_Fac_belowOf_1 (by decide) ?_
  refine lv_isub hx hb d_Fac_belowOf_3 ?_
  refine lv_istore_n (lv' := [(2, .int (ch - 97)), (0, .ref h0), (1, .int ch)]) hx hb d_Fac_belowOf_4 rfl hl (by decide) rfl (fun ls hl => ?_)
  refine lv_iload_n hx hb d_Fac_belowOf_5 rfl (lv_at hl 0 rfl) ?_
  refine lv_bipush (v := 26) hx hb d_Fac_belowOf_6 (by decide) ?_
  refine kT_i (rest := []) (As := [.int (ch - 97), .int 26]) (w2 := [(h0, .inr (1, [.ref h1, .ref h2])), (h1, .inl (ta 0, 26, .inl fA)), (h2, .inl (ta 0, 26, .inl fB))]) ⟨hx, hb, hml, hown, hw⟩ (c_Pri_isIndex l D ta (ch - 97) 26) (hN.get 22 rfl) W1_230 W1_1 W1_231 rfl rfl rfl hd_Pri_isIndex ⟨Nat.le_of_ble_eq_true rfl, Nat.le_of_ble_eq_true rfl⟩ hK hN hP hD hS hA Spl.none rfl hl.1 rfl (Nat.le_of_ble_eq_true rfl) ⟨Nat.zero_le _, Nat.zero_le _⟩ d_Fac_belowOf_8 (fun H locs hP hD hS => ?_)
  refine lb_eq (tgt := 23) hx hb d_Fac_belowOf_11 (by decide) (fun c_1 => ?_) (fun c_1 => ?_)
  · refine lv_iconst (v := 0) hx hb d_Fac_belowOf_23 (by decide) ?_
    exact fin_i hx hb hr hlocks hK hP hD hS d_Fac_belowOf_24 (by simp only [ixG, c_1, decide_true, decide_false, Bool.not_true, Bool.not_false, Bool.and_true, Bool.true_and, Bool.and_false, Bool.false_and, Bool.or_true, Bool.true_or, Bool.or_false, Bool.false_or, if_true, if_false, reduceIte, Bool.false_eq_true, b2i]) rfl
  · refine lv_aload_n hx hb d_Fac_belowOf_14 rfl (lv_at hl 1 rfl) ?_
    refine va_get (D := D) (ci := 1) (v := .ref h2) (C := "PriceLines$Facts") (T := F_Fac) (N := 2) hx hb hw in_Fac hown hK hP 0 rfl rfl 1 (by decide) (hw _ W1_54) (fun _ h9 => h9) rfl d_Fac_belowOf_15 ?_
    refine lv_iload_n hx hb d_Fac_belowOf_18 rfl (lv_at hl 0 rfl) ?_
    have h_2 : vp_in (ch - 97) 26 := (ix_in (n := 26) (by assumption) (by decide))
    refine va_iald hx hb hK hP 2 0 rfl rfl h_2 d_Fac_belowOf_19 ?_
    refine lv_goto (tgt := 24) hx hb d_Fac_belowOf_20 (by decide) ?_
    exact fin_i hx hb hr hlocks hK hP hD hS d_Fac_belowOf_24 (by simp only [ixG, c_1, decide_true, decide_false, Bool.not_true, Bool.not_false, Bool.and_true, Bool.true_and, Bool.and_false, Bool.false_and, Bool.or_true, Bool.true_or, Bool.or_false, Bool.false_or, if_true, if_false, reduceIte, Bool.false_eq_true, b2i]) rfl
def fcT (fB : Nat → Int32) (c : Int32) : Bool := !decide (ixG fB 26 (c - 97) ≤ 0)
theorem hd_Fac_isTold : y_Fac_isTold.cls = "PriceLines$Facts" ∧ y_Fac_isTold.cls ≠ "java/lang/invoke/MethodHandle" ∧ y_Fac_isTold.cls ≠ "java/lang/invoke/VarHandle" ∧ (parseMethodDescriptor y_Fac_isTold.desc).map (fun d => d.parameters.length) = some 1 := by decide +kernel
set_option maxHeartbeats 1000000 in
set_option maxRecDepth 100000 in
theorem c_Fac_isTold (l : Launch) (D : va_G) (ta : Nat → ClassId) (h0 h1 h2 : Nat) (fA : Nat → Int32) (fB : Nat → Int32) (ch : Int32) : ∀ sz, Met l y_Fac_isTold w_Fac_isTold { frames := 2, cells := 0, slots := 0, locals := 43 } (va_Pc [.ref h0, .int ch] (pW D ta [(h0, .inr (1, [.ref h1, .ref h2])), (h1, .inl (ta 0, 26, .inl fA)), (h2, .inl (ta 0, 26, .inl fB))] sz)) (eI D ta (va_A [(h0, .inr (1, [.ref h1, .ref h2])), (h1, .inl (ta 0, 26, .inl fA)), (h2, .inl (ta 0, 26, .inl fB))] sz) (b2i (fcT fB ch)) [(h0, .inr (1, [.ref h1, .ref h2])), (h1, .inl (ta 0, 26, .inl fA)), (h2, .inl (ta 0, 26, .inl fB))]) 0 0 (va_A [(h0, .inr (1, [.ref h1, .ref h2])), (h1, .inl (ta 0, 26, .inl fA)), (h2, .inl (ta 0, 26, .inl fB))] sz) := by
  refine opn_Z (bytes := b_Fac_isTold) (maxL := 2) (by decide +kernel) rfl (Nat.le_of_ble_eq_true rfl) ?_
  intro p e s m below meth c A ls hx hb hr hml hown hlocks hnm hw hK hN hP hD hA hS hl
  have hl : lv_has ls 2 [(0, .ref h0), (1, .int ch)] := hl
  refine lv_aload_n hx hb d_Fac_isTold_0 rfl (lv_at hl 0 rfl) ?_
  refine lv_iload_n hx hb d_Fac_isTold_1 rfl (lv_at hl 1 rfl) ?_
  refine kV_i (rest := []) (As := [.int ch]) (w2 := [(h0, .inr (1, [.ref h1, .ref h2])), (h1, .inl (ta 0, 26, .inl fA)), (h2, .inl (ta 0, 26, .inl fB))]) (q0 := 0) (ci := 1) ⟨hx, hb, hml, hown, hw⟩ (c_Fac_belowOf l D ta h0 h1 h2 fA fB ch) W2_109 W2_110 W2_111 W1_3 W2_112 rfl rfl rfl hd_Fac_belowOf ⟨Nat.le_of_ble_eq_true rfl, Nat.le_of_ble_eq_true rfl⟩ hK hN hP hD hS hA (Spl.lit [0, 1, 2] [] [0, 1, 2] rfl (by decide) rfl (by decide) (by decide) rfl (by decide)) rfl rfl rfl rfl hl.1 rfl (Nat.le_of_ble_eq_true rfl) ⟨Nat.zero_le _, Nat.zero_le _⟩ d_Fac_isTold_2 (fun H locs hP hD hS => ?_)
  refine lv_if_le (tgt := 12) hx hb d_Fac_isTold_5 (by decide) (fun c_1 => ?_) (fun c_1 => ?_)
  · refine lv_iconst (v := 0) hx hb d_Fac_isTold_12 (by decide) ?_
    exact fin_z hx hb hr hlocks hK hP hD hS d_Fac_isTold_13 rfl (by simp only [fcT, c_1, decide_true, decide_false, Bool.not_true, Bool.not_false, Bool.and_true, Bool.true_and, Bool.and_false, Bool.false_and, Bool.or_true, Bool.true_or, Bool.or_false, Bool.false_or, if_true, if_false, reduceIte, Bool.false_eq_true, b2i]) rfl
  · refine lv_iconst (v := 1) hx hb d_Fac_isTold_8 (by decide) ?_
    refine lv_goto (tgt := 13) hx hb d_Fac_isTold_9 (by decide) ?_
    exact fin_z hx hb hr hlocks hK hP hD hS d_Fac_isTold_13 rfl (by simp only [fcT, c_1, decide_true, decide_false, Bool.not_true, Bool.not_false, Bool.and_true, Bool.true_and, Bool.and_false, Bool.false_and, Bool.or_true, Bool.true_or, Bool.or_false, Bool.false_or, if_true, if_false, reduceIte, Bool.false_eq_true, b2i]) rfl
theorem hd_Off_add : y_Off_add.cls = "PriceLines$Offers" ∧ y_Off_add.cls ≠ "java/lang/invoke/MethodHandle" ∧ y_Off_add.cls ≠ "java/lang/invoke/VarHandle" ∧ (parseMethodDescriptor y_Off_add.desc).map (fun d => d.parameters.length) = some 2 := by decide +kernel
set_option maxHeartbeats 1000000 in
set_option maxRecDepth 100000 in
theorem c_Off_add (l : Launch) (D : va_G) (ta : Nat → ClassId) (h0 h1 h2 : Nat) (oC : Nat → Int64) (oL : Nat → Int32) (on : Int32) (x : Int64) (d : Int32) : ∀ sz, Met l y_Off_add w_Off_add { frames := 1, cells := 0, slots := 0, locals := 21 } (va_Pc [.ref h0, .long x, .int d] (pW D ta [(h0, .inr (5, [.ref h1, .ref h2, .int on])), (h1, .inl (ta 2, 8, .inr (.inl oC))), (h2, .inl (ta 0, 8, .inl oL))] sz)) (eI D ta (va_A [(h0, .inr (5, [.ref h1, .ref h2, .int on])), (h1, .inl (ta 2, 8, .inr (.inl oC))), (h2, .inl (ta 0, 8, .inl oL))] sz) on [(h0, .inr (5, [.ref h1, .ref h2, .int (ixN 8 on (on + 1) on)])), (h1, .inl (ta 2, 8, .inr (.inl (ixUL oC 8 on x)))), (h2, .inl (ta 0, 8, .inl (ixU oL 8 on d)))]) 0 0 (va_A [(h0, .inr (5, [.ref h1, .ref h2, .int on])), (h1, .inl (ta 2, 8, .inr (.inl oC))), (h2, .inl (ta 0, 8, .inl oL))] sz) := by
  refine opn_I (bytes := b_Off_add) (maxL := 5) (by decide +kernel) rfl (Nat.le_of_ble_eq_true rfl) ?_
  intro p e s m below meth c A ls hx hb hr hml hown hlocks hnm hw hK hN hP hD hA hS hl
  have hl : lv_has ls 5 [(0, .ref h0), (1, .long x), (3, .int d)] := hl
  refine lv_aload_n hx hb d_Off_add_0 rfl (lv_at hl 0 rfl) ?_
  refine va_get (D := D) (ci := 5) (v := .int on) (C := "PriceLines$Offers") (T := F_Off) (N := 3) hx hb hw in_Off hown hK hP 0 rfl rfl 2 (by decide) (hw _ W1_134) (fun _ h9 => h9) rfl d_Off_add_1 ?_
  refine lv_istore (lv' := [(4, .int on), (0, .ref h0), (1, .long x), (3, .int d)]) hx hb d_Off_add_4 hl (by decide) rfl (fun ls hl => ?_)
  refine lv_iload hx hb d_Off_add_6 (lv_at hl 0 rfl) ?_
  refine lv_bipush (v := 8) hx hb d_Off_add_8 (by decide) ?_
  refine kT_i (rest := []) (As := [.int on, .int 8]) (w2 := [(h0, .inr (5, [.ref h1, .ref h2, .int on])), (h1, .inl (ta 2, 8, .inr (.inl oC))), (h2, .inl (ta 0, 8, .inl oL))]) ⟨hx, hb, hml, hown, hw⟩ (c_Pri_isIndex l D ta on 8) (hN.get 24 rfl) W1_230 W1_1 W1_231 rfl rfl rfl hd_Pri_isIndex ⟨Nat.le_of_ble_eq_true rfl, Nat.le_of_ble_eq_true rfl⟩ hK hN hP hD hS hA Spl.none rfl hl.1 rfl (Nat.le_of_ble_eq_true rfl) ⟨Nat.zero_le _, Nat.zero_le _⟩ d_Off_add_10 (fun H locs hP hD hS => ?_)
  refine lb_eq (tgt := 42) hx hb d_Off_add_13 (by decide) (fun c_1 => ?_) (fun c_1 => ?_)
  · refine lv_iload hx hb d_Off_add_42 (lv_at hl 0 rfl) ?_
    exact fin_i hx hb hr hlocks hK hP hD hS d_Off_add_44 rfl (by simp only [ixU, ixUL, ixN, c_1, decide_true, decide_false, Bool.not_true, Bool.not_false, Bool.and_true, Bool.true_and, Bool.and_false, Bool.false_and, Bool.or_true, Bool.true_or, Bool.or_false, Bool.false_or, if_true, if_false, reduceIte, Bool.false_eq_true, b2i])
  · refine lv_aload_n hx hb d_Off_add_16 rfl (lv_at hl 1 rfl) ?_
    refine va_get (D := D) (ci := 5) (v := .ref h1) (C := "PriceLines$Offers") (T := F_Off) (N := 3) hx hb hw in_Off hown hK hP 0 rfl rfl 0 (by decide) (hw _ W1_132) (fun _ h9 => h9) rfl d_Off_add_17 ?_
    refine lv_iload hx hb d_Off_add_20 (lv_at hl 0 rfl) ?_
    refine lv_lload_n hx hb d_Off_add_22 rfl (lv_at hl 2 rfl) ?_
    have h_2 : vp_in on 8 := (ix_in (n := 8) (by assumption) (by decide))
    refine va_last hx hb hK hP hD hS 1 2 rfl rfl h_2 d_Off_add_23 (fun H locs hP hD hS => ?_)
    have hP : va_P D vwCl [(h0, .inr (5, [.ref h1, .ref h2, .int on])), (h1, .inl (ta 2, 8, .inr (.inl (vp_updL oC on.toNatClampNeg x)))), (h2, .inl (ta 0, 8, .inl oL))] H := hP
    have hD : va_D A [(h0, .inr (5, [.ref h1, .ref h2, .int on])), (h1, .inl (ta 2, 8, .inr (.inl (vp_updL oC on.toNatClampNeg x)))), (h2, .inl (ta 0, 8, .inl oL))] := hD
    refine lv_aload_n hx hb d_Off_add_24 rfl (lv_at hl 1 rfl) ?_
    refine va_get (D := D) (ci := 5) (v := .ref h2) (C := "PriceLines$Offers") (T := F_Off) (N := 3) hx hb hw in_Off hown hK hP 0 rfl rfl 1 (by decide) (hw _ W1_133) (fun _ h9 => h9) rfl d_Off_add_25 ?_
    refine lv_iload hx hb d_Off_add_28 (lv_at hl 0 rfl) ?_
    refine lv_iload_n hx hb d_Off_add_30 rfl (lv_at hl 3 rfl) ?_
    have h_3 : vp_in on 8 := (ix_in (n := 8) (by assumption) (by decide))
    refine va_iast hx hb hK hP hD hS 2 0 rfl rfl h_3 d_Off_add_31 (fun H locs hP hD hS => ?_)
    have hP : va_P D vwCl [(h0, .inr (5, [.ref h1, .ref h2, .int on])), (h1, .inl (ta 2, 8, .inr (.inl (vp_updL oC on.toNatClampNeg x)))), (h2, .inl (ta 0, 8, .inl (upd oL on.toNatClampNeg d)))] H := hP
    have hD : va_D A [(h0, .inr (5, [.ref h1, .ref h2, .int on])), (h1, .inl (ta 2, 8, .inr (.inl (vp_updL oC on.toNatClampNeg x)))), (h2, .inl (ta 0, 8, .inl (upd oL on.toNatClampNeg d)))] := hD
    refine lv_aload_n hx hb d_Off_add_32 rfl (lv_at hl 1 rfl) ?_
    refine lv_dup hx hb d_Off_add_33 rfl ?_
    refine va_get (D := D) (ci := 5) (v := .int on) (C := "PriceLines$Offers") (T := F_Off) (N := 3) hx hb hw in_Off hown hK hP 0 rfl rfl 2 (by decide) (hw _ W1_134) (fun _ h9 => h9) rfl d_Off_add_34 ?_
    refine lv_iconst (v := 1) hx hb d_Off_add_37 (by decide) ?_
    refine lv_iadd hx hb d_Off_add_38 ?_
    refine va_put (D := D) (ci := 5) (v := .int (on + 1)) (ty := .int) (C := "PriceLines$Offers") (T := F_Off) (N := 3) hx hb hw in_Off t_Off tk_Off n_Off hown hK hP hD hS 0 rfl rfl 2 (by decide) (hw _ W1_134) (fun _ h9 => h9) rfl (tk_Off 2 (by decide)) rfl rfl (Nat.le_of_ble_eq_true rfl) d_Off_add_39 (fun H locs hP hD hS => ?_)
    have hP : va_P D vwCl [(h0, .inr (5, [.ref h1, .ref h2, .int (on + 1)])), (h1, .inl (ta 2, 8, .inr (.inl (vp_updL oC on.toNatClampNeg x)))), (h2, .inl (ta 0, 8, .inl (upd oL on.toNatClampNeg d)))] H := hP
    have hD : va_D A [(h0, .inr (5, [.ref h1, .ref h2, .int (on + 1)])), (h1, .inl (ta 2, 8, .inr (.inl (vp_updL oC on.toNatClampNeg x)))), (h2, .inl (ta 0, 8, .inl (upd oL on.toNatClampNeg d)))] := hD
    refine lv_iload hx hb d_Off_add_42 (lv_at hl 0 rfl) ?_
    exact fin_i hx hb hr hlocks hK hP hD hS d_Off_add_44 rfl (by simp only [ixU, ixUL, ixN, c_1, decide_true, decide_false, Bool.not_true, Bool.not_false, Bool.and_true, Bool.true_and, Bool.and_false, Bool.false_and, Bool.or_true, Bool.true_or, Bool.or_false, Bool.false_or, if_true, if_false, reduceIte, Bool.false_eq_true, b2i])
theorem hd_Off_centsOf : y_Off_centsOf.cls = "PriceLines$Offers" ∧ y_Off_centsOf.cls ≠ "java/lang/invoke/MethodHandle" ∧ y_Off_centsOf.cls ≠ "java/lang/invoke/VarHandle" ∧ (parseMethodDescriptor y_Off_centsOf.desc).map (fun d => d.parameters.length) = some 1 := by decide +kernel
set_option maxHeartbeats 1000000 in
set_option maxRecDepth 100000 in
theorem c_Off_centsOf (l : Launch) (D : va_G) (ta : Nat → ClassId) (h0 h1 h2 : Nat) (oC : Nat → Int64) (oL : Nat → Int32) (on : Int32) (k : Int32) : ∀ sz, Met l y_Off_centsOf w_Off_centsOf { frames := 1, cells := 0, slots := 0, locals := 21 } (va_Pc [.ref h0, .int k] (pW D ta [(h0, .inr (5, [.ref h1, .ref h2, .int on])), (h1, .inl (ta 2, 8, .inr (.inl oC))), (h2, .inl (ta 0, 8, .inl oL))] sz)) (eL D ta (va_A [(h0, .inr (5, [.ref h1, .ref h2, .int on])), (h1, .inl (ta 2, 8, .inr (.inl oC))), (h2, .inl (ta 0, 8, .inl oL))] sz) (ixGL oC 8 k) [(h0, .inr (5, [.ref h1, .ref h2, .int on])), (h1, .inl (ta 2, 8, .inr (.inl oC))), (h2, .inl (ta 0, 8, .inl oL))]) 0 0 (va_A [(h0, .inr (5, [.ref h1, .ref h2, .int on])), (h1, .inl (ta 2, 8, .inr (.inl oC))), (h2, .inl (ta 0, 8, .inl oL))] sz) := by
  refine opn_L (bytes := b_Off_centsOf) (maxL := 2) (by decide +kernel) rfl (Nat.le_of_ble_eq_true rfl) ?_
  intro p e s m below meth c A ls hx hb hr hml hown hlocks hnm hw hK hN hP hD hA hS hl
  have hl : lv_has ls 2 [(0, .ref h0), (1, .int k)] := hl
  refine lv_iload_n hx hb d_Off_centsOf_0 rfl (lv_at hl 1 rfl) ?_
  refine lv_bipush (v := 8) hx hb d_Off_centsOf_1 (by decide) ?_
  refine kT_i (rest := []) (As := [.int k, .int 8]) (w2 := [(h0, .inr (5, [.ref h1, .ref h2, .int on])), (h1, .inl (ta 2, 8, .inr (.inl oC))), (h2, .inl (ta 0, 8, .inl oL))]) ⟨hx, hb, hml, hown, hw⟩ (c_Pri_isIndex l D ta k 8) (hN.get 24 rfl) W1_230 W1_1 W1_231 rfl rfl rfl hd_Pri_isIndex ⟨Nat.le_of_ble_eq_true rfl, Nat.le_of_ble_eq_true rfl⟩ hK hN hP hD hS hA Spl.none rfl hl.1 rfl (Nat.le_of_ble_eq_true rfl) ⟨Nat.zero_le _, Nat.zero_le _⟩ d_Off_centsOf_3 (fun H locs hP hD hS => ?_)
  refine lb_eq (tgt := 18) hx hb d_Off_centsOf_6 (by decide) (fun c_1 => ?_) (fun c_1 => ?_)
  · refine lv_lconst (v := 0) hx hb d_Off_centsOf_18 (by decide) ?_
    exact fin_l hx hb hr hlocks hK hP hD hS d_Off_centsOf_19 (by simp only [ixGL, c_1, decide_true, decide_false, Bool.not_true, Bool.not_false, Bool.and_true, Bool.true_and, Bool.and_false, Bool.false_and, Bool.or_true, Bool.true_or, Bool.or_false, Bool.false_or, if_true, if_false, reduceIte, Bool.false_eq_true, b2i]) rfl
  · refine lv_aload_n hx hb d_Off_centsOf_9 rfl (lv_at hl 0 rfl) ?_
    refine va_get (D := D) (ci := 5) (v := .ref h1) (C := "PriceLines$Offers") (T := F_Off) (N := 3) hx hb hw in_Off hown hK hP 0 rfl rfl 0 (by decide) (hw _ W1_132) (fun _ h9 => h9) rfl d_Off_centsOf_10 ?_
    refine lv_iload_n hx hb d_Off_centsOf_13 rfl (lv_at hl 1 rfl) ?_
    have h_2 : vp_in k 8 := (ix_in (n := 8) (by assumption) (by decide))
    refine va_lald hx hb hK hP 1 2 rfl rfl h_2 d_Off_centsOf_14 ?_
    refine lv_goto (tgt := 19) hx hb d_Off_centsOf_15 (by decide) ?_
    exact fin_l hx hb hr hlocks hK hP hD hS d_Off_centsOf_19 (by simp only [ixGL, c_1, decide_true, decide_false, Bool.not_true, Bool.not_false, Bool.and_true, Bool.true_and, Bool.and_false, Bool.false_and, Bool.or_true, Bool.true_or, Bool.or_false, Bool.false_or, if_true, if_false, reduceIte, Bool.false_eq_true, b2i]) rfl
theorem hd_Off_lastDayOf : y_Off_lastDayOf.cls = "PriceLines$Offers" ∧ y_Off_lastDayOf.cls ≠ "java/lang/invoke/MethodHandle" ∧ y_Off_lastDayOf.cls ≠ "java/lang/invoke/VarHandle" ∧ (parseMethodDescriptor y_Off_lastDayOf.desc).map (fun d => d.parameters.length) = some 1 := by decide +kernel
set_option maxHeartbeats 1000000 in
set_option maxRecDepth 100000 in
theorem c_Off_lastDayOf (l : Launch) (D : va_G) (ta : Nat → ClassId) (h0 h1 h2 : Nat) (oC : Nat → Int64) (oL : Nat → Int32) (on : Int32) (k : Int32) : ∀ sz, Met l y_Off_lastDayOf w_Off_lastDayOf { frames := 1, cells := 0, slots := 0, locals := 21 } (va_Pc [.ref h0, .int k] (pW D ta [(h0, .inr (5, [.ref h1, .ref h2, .int on])), (h1, .inl (ta 2, 8, .inr (.inl oC))), (h2, .inl (ta 0, 8, .inl oL))] sz)) (eI D ta (va_A [(h0, .inr (5, [.ref h1, .ref h2, .int on])), (h1, .inl (ta 2, 8, .inr (.inl oC))), (h2, .inl (ta 0, 8, .inl oL))] sz) (ixG oL 8 k) [(h0, .inr (5, [.ref h1, .ref h2, .int on])), (h1, .inl (ta 2, 8, .inr (.inl oC))), (h2, .inl (ta 0, 8, .inl oL))]) 0 0 (va_A [(h0, .inr (5, [.ref h1, .ref h2, .int on])), (h1, .inl (ta 2, 8, .inr (.inl oC))), (h2, .inl (ta 0, 8, .inl oL))] sz) := by
  refine opn_I (bytes := b_Off_lastDayOf) (maxL := 2) (by decide +kernel) rfl (Nat.le_of_ble_eq_true rfl) ?_
  intro p e s m below meth c A ls hx hb hr hml hown hlocks hnm hw hK hN hP hD hA hS hl
  have hl : lv_has ls 2 [(0, .ref h0), (1, .int k)] := hl
  refine lv_iload_n hx hb d_Off_lastDayOf_0 rfl (lv_at hl 1 rfl) ?_
  refine lv_bipush (v := 8) hx hb d_Off_lastDayOf_1 (by decide) ?_
  refine kT_i (rest := []) (As := [.int k, .int 8]) (w2 := [(h0, .inr (5, [.ref h1, .ref h2, .int on])), (h1, .inl (ta 2, 8, .inr (.inl oC))), (h2, .inl (ta 0, 8, .inl oL))]) ⟨hx, hb, hml, hown, hw⟩ (c_Pri_isIndex l D ta k 8) (hN.get 24 rfl) W1_230 W1_1 W1_231 rfl rfl rfl hd_Pri_isIndex ⟨Nat.le_of_ble_eq_true rfl, Nat.le_of_ble_eq_true rfl⟩ hK hN hP hD hS hA Spl.none rfl hl.1 rfl (Nat.le_of_ble_eq_true rfl) ⟨Nat.zero_le _, Nat.zero_le _⟩ d_Off_lastDayOf_3 (fun H locs hP hD hS => ?_)
  refine lb_eq (tgt := 18) hx hb d_Off_lastDayOf_6 (by decide) (fun c_1 => ?_) (fun c_1 => ?_)
  · refine lv_iconst (v := 0) hx hb d_Off_lastDayOf_18 (by decide) ?_
    exact fin_i hx hb hr hlocks hK hP hD hS d_Off_lastDayOf_19 (by simp only [ixG, c_1, decide_true, decide_false, Bool.not_true, Bool.not_false, Bool.and_true, Bool.true_and, Bool.and_false, Bool.false_and, Bool.or_true, Bool.true_or, Bool.or_false, Bool.false_or, if_true, if_false, reduceIte, Bool.false_eq_true, b2i]) rfl
  · refine lv_aload_n hx hb d_Off_lastDayOf_9 rfl (lv_at hl 0 rfl) ?_
    refine va_get (D := D) (ci := 5) (v := .ref h2) (C := "PriceLines$Offers") (T := F_Off) (N := 3) hx hb hw in_Off hown hK hP 0 rfl rfl 1 (by decide) (hw _ W1_133) (fun _ h9 => h9) rfl d_Off_lastDayOf_10 ?_
    refine lv_iload_n hx hb d_Off_lastDayOf_13 rfl (lv_at hl 1 rfl) ?_
    have h_2 : vp_in k 8 := (ix_in (n := 8) (by assumption) (by decide))
    refine va_iald hx hb hK hP 2 0 rfl rfl h_2 d_Off_lastDayOf_14 ?_
    refine lv_goto (tgt := 19) hx hb d_Off_lastDayOf_15 (by decide) ?_
    exact fin_i hx hb hr hlocks hK hP hD hS d_Off_lastDayOf_19 (by simp only [ixG, c_1, decide_true, decide_false, Bool.not_true, Bool.not_false, Bool.and_true, Bool.true_and, Bool.and_false, Bool.false_and, Bool.or_true, Bool.true_or, Bool.or_false, Bool.false_or, if_true, if_false, reduceIte, Bool.false_eq_true, b2i]) rfl
theorem hd_Inv_add : y_Inv_add.cls = "PriceLines$Invoices" ∧ y_Inv_add.cls ≠ "java/lang/invoke/MethodHandle" ∧ y_Inv_add.cls ≠ "java/lang/invoke/VarHandle" ∧ (parseMethodDescriptor y_Inv_add.desc).map (fun d => d.parameters.length) = some 1 := by decide +kernel
set_option maxHeartbeats 1000000 in
set_option maxRecDepth 100000 in
theorem c_Inv_add (l : Launch) (D : va_G) (ta : Nat → ClassId) (h0 h1 : Nat) (iL : Nat → Int64) (vn : Int32) (x : Int64) : ∀ sz, Met l y_Inv_add w_Inv_add { frames := 1, cells := 0, slots := 0, locals := 21 } (va_Pc [.ref h0, .long x] (pW D ta [(h0, .inr (3, [.ref h1, .int vn])), (h1, .inl (ta 2, 8, .inr (.inl iL)))] sz)) (eI D ta (va_A [(h0, .inr (3, [.ref h1, .int vn])), (h1, .inl (ta 2, 8, .inr (.inl iL)))] sz) vn [(h0, .inr (3, [.ref h1, .int (ixN 8 vn (vn + 1) vn)])), (h1, .inl (ta 2, 8, .inr (.inl (ixUL iL 8 vn x))))]) 0 0 (va_A [(h0, .inr (3, [.ref h1, .int vn])), (h1, .inl (ta 2, 8, .inr (.inl iL)))] sz) := by
  refine opn_I (bytes := b_Inv_add) (maxL := 4) (by decide +kernel) rfl (Nat.le_of_ble_eq_true rfl) ?_
  intro p e s m below meth c A ls hx hb hr hml hown hlocks hnm hw hK hN hP hD hA hS hl
  have hl : lv_has ls 4 [(0, .ref h0), (1, .long x)] := hl
  refine lv_aload_n hx hb d_Inv_add_0 rfl (lv_at hl 0 rfl) ?_
  refine va_get (D := D) (ci := 3) (v := .int vn) (C := "PriceLines$Invoices") (T := F_Inv) (N := 2) hx hb hw in_Inv hown hK hP 0 rfl rfl 1 (by decide) (hw _ W1_151) (fun _ h9 => h9) rfl d_Inv_add_1 ?_
  refine lv_istore_n (lv' := [(3, .int vn), (0, .ref h0), (1, .long x)]) hx hb d_Inv_add_4 rfl hl (by decide) rfl (fun ls hl => ?_)
  refine lv_iload_n hx hb d_Inv_add_5 rfl (lv_at hl 0 rfl) ?_
  refine lv_bipush (v := 8) hx hb d_Inv_add_6 (by decide) ?_
  refine kT_i (rest := []) (As := [.int vn, .int 8]) (w2 := [(h0, .inr (3, [.ref h1, .int vn])), (h1, .inl (ta 2, 8, .inr (.inl iL)))]) ⟨hx, hb, hml, hown, hw⟩ (c_Pri_isIndex l D ta vn 8) (hN.get 25 rfl) W1_230 W1_1 W1_231 rfl rfl rfl hd_Pri_isIndex ⟨Nat.le_of_ble_eq_true rfl, Nat.le_of_ble_eq_true rfl⟩ hK hN hP hD hS hA Spl.none rfl hl.1 rfl (Nat.le_of_ble_eq_true rfl) ⟨Nat.zero_le _, Nat.zero_le _⟩ d_Inv_add_8 (fun H locs hP hD hS => ?_)
  refine lb_eq (tgt := 31) hx hb d_Inv_add_11 (by decide) (fun c_1 => ?_) (fun c_1 => ?_)
  · refine lv_iload_n hx hb d_Inv_add_31 rfl (lv_at hl 0 rfl) ?_
    exact fin_i hx hb hr hlocks hK hP hD hS d_Inv_add_32 rfl (by simp only [ixUL, ixN, c_1, decide_true, decide_false, Bool.not_true, Bool.not_false, Bool.and_true, Bool.true_and, Bool.and_false, Bool.false_and, Bool.or_true, Bool.true_or, Bool.or_false, Bool.false_or, if_true, if_false, reduceIte, Bool.false_eq_true, b2i])
  · refine lv_aload_n hx hb d_Inv_add_14 rfl (lv_at hl 1 rfl) ?_
    refine va_get (D := D) (ci := 3) (v := .ref h1) (C := "PriceLines$Invoices") (T := F_Inv) (N := 2) hx hb hw in_Inv hown hK hP 0 rfl rfl 0 (by decide) (hw _ W1_150) (fun _ h9 => h9) rfl d_Inv_add_15 ?_
    refine lv_iload_n hx hb d_Inv_add_18 rfl (lv_at hl 0 rfl) ?_
    refine lv_lload_n hx hb d_Inv_add_19 rfl (lv_at hl 2 rfl) ?_
    have h_2 : vp_in vn 8 := (ix_in (n := 8) (by assumption) (by decide))
    refine va_last hx hb hK hP hD hS 1 2 rfl rfl h_2 d_Inv_add_20 (fun H locs hP hD hS => ?_)
    have hP : va_P D vwCl [(h0, .inr (3, [.ref h1, .int vn])), (h1, .inl (ta 2, 8, .inr (.inl (vp_updL iL vn.toNatClampNeg x))))] H := hP
    have hD : va_D A [(h0, .inr (3, [.ref h1, .int vn])), (h1, .inl (ta 2, 8, .inr (.inl (vp_updL iL vn.toNatClampNeg x))))] := hD
    refine lv_aload_n hx hb d_Inv_add_21 rfl (lv_at hl 1 rfl) ?_
    refine lv_dup hx hb d_Inv_add_22 rfl ?_
    refine va_get (D := D) (ci := 3) (v := .int vn) (C := "PriceLines$Invoices") (T := F_Inv) (N := 2) hx hb hw in_Inv hown hK hP 0 rfl rfl 1 (by decide) (hw _ W1_151) (fun _ h9 => h9) rfl d_Inv_add_23 ?_
    refine lv_iconst (v := 1) hx hb d_Inv_add_26 (by decide) ?_
    refine lv_iadd hx hb d_Inv_add_27 ?_
    refine va_put (D := D) (ci := 3) (v := .int (vn + 1)) (ty := .int) (C := "PriceLines$Invoices") (T := F_Inv) (N := 2) hx hb hw in_Inv t_Inv tk_Inv n_Inv hown hK hP hD hS 0 rfl rfl 1 (by decide) (hw _ W1_151) (fun _ h9 => h9) rfl (tk_Inv 1 (by decide)) rfl rfl (Nat.le_of_ble_eq_true rfl) d_Inv_add_28 (fun H locs hP hD hS => ?_)
    have hP : va_P D vwCl [(h0, .inr (3, [.ref h1, .int (vn + 1)])), (h1, .inl (ta 2, 8, .inr (.inl (vp_updL iL vn.toNatClampNeg x))))] H := hP
    have hD : va_D A [(h0, .inr (3, [.ref h1, .int (vn + 1)])), (h1, .inl (ta 2, 8, .inr (.inl (vp_updL iL vn.toNatClampNeg x))))] := hD
    refine lv_iload_n hx hb d_Inv_add_31 rfl (lv_at hl 0 rfl) ?_
    exact fin_i hx hb hr hlocks hK hP hD hS d_Inv_add_32 rfl (by simp only [ixUL, ixN, c_1, decide_true, decide_false, Bool.not_true, Bool.not_false, Bool.and_true, Bool.true_and, Bool.and_false, Bool.false_and, Bool.or_true, Bool.true_or, Bool.or_false, Bool.false_or, if_true, if_false, reduceIte, Bool.false_eq_true, b2i])
theorem hd_Inv_leftOf : y_Inv_leftOf.cls = "PriceLines$Invoices" ∧ y_Inv_leftOf.cls ≠ "java/lang/invoke/MethodHandle" ∧ y_Inv_leftOf.cls ≠ "java/lang/invoke/VarHandle" ∧ (parseMethodDescriptor y_Inv_leftOf.desc).map (fun d => d.parameters.length) = some 1 := by decide +kernel
set_option maxHeartbeats 1000000 in
set_option maxRecDepth 100000 in
theorem c_Inv_leftOf (l : Launch) (D : va_G) (ta : Nat → ClassId) (h0 h1 : Nat) (iL : Nat → Int64) (vn : Int32) (k : Int32) : ∀ sz, Met l y_Inv_leftOf w_Inv_leftOf { frames := 1, cells := 0, slots := 0, locals := 21 } (va_Pc [.ref h0, .int k] (pW D ta [(h0, .inr (3, [.ref h1, .int vn])), (h1, .inl (ta 2, 8, .inr (.inl iL)))] sz)) (eL D ta (va_A [(h0, .inr (3, [.ref h1, .int vn])), (h1, .inl (ta 2, 8, .inr (.inl iL)))] sz) (ixGL iL 8 k) [(h0, .inr (3, [.ref h1, .int vn])), (h1, .inl (ta 2, 8, .inr (.inl iL)))]) 0 0 (va_A [(h0, .inr (3, [.ref h1, .int vn])), (h1, .inl (ta 2, 8, .inr (.inl iL)))] sz) := by
  refine opn_L (bytes := b_Inv_leftOf) (maxL := 2) (by decide +kernel) rfl (Nat.le_of_ble_eq_true rfl) ?_
  intro p e s m below meth c A ls hx hb hr hml hown hlocks hnm hw hK hN hP hD hA hS hl
  have hl : lv_has ls 2 [(0, .ref h0), (1, .int k)] := hl
  refine lv_iload_n hx hb d_Inv_leftOf_0 rfl (lv_at hl 1 rfl) ?_
  refine lv_bipush (v := 8) hx hb d_Inv_leftOf_1 (by decide) ?_
  refine kT_i (rest := []) (As := [.int k, .int 8]) (w2 := [(h0, .inr (3, [.ref h1, .int vn])), (h1, .inl (ta 2, 8, .inr (.inl iL)))]) ⟨hx, hb, hml, hown, hw⟩ (c_Pri_isIndex l D ta k 8) (hN.get 25 rfl) W1_230 W1_1 W1_231 rfl rfl rfl hd_Pri_isIndex ⟨Nat.le_of_ble_eq_true rfl, Nat.le_of_ble_eq_true rfl⟩ hK hN hP hD hS hA Spl.none rfl hl.1 rfl (Nat.le_of_ble_eq_true rfl) ⟨Nat.zero_le _, Nat.zero_le _⟩ d_Inv_leftOf_3 (fun H locs hP hD hS => ?_)
  refine lb_eq (tgt := 18) hx hb d_Inv_leftOf_6 (by decide) (fun c_1 => ?_) (fun c_1 => ?_)
  · refine lv_lconst (v := 0) hx hb d_Inv_leftOf_18 (by decide) ?_
    exact fin_l hx hb hr hlocks hK hP hD hS d_Inv_leftOf_19 (by simp only [ixGL, c_1, decide_true, decide_false, Bool.not_true, Bool.not_false, Bool.and_true, Bool.true_and, Bool.and_false, Bool.false_and, Bool.or_true, Bool.true_or, Bool.or_false, Bool.false_or, if_true, if_false, reduceIte, Bool.false_eq_true, b2i]) rfl
  · refine lv_aload_n hx hb d_Inv_leftOf_9 rfl (lv_at hl 0 rfl) ?_
    refine va_get (D := D) (ci := 3) (v := .ref h1) (C := "PriceLines$Invoices") (T := F_Inv) (N := 2) hx hb hw in_Inv hown hK hP 0 rfl rfl 0 (by decide) (hw _ W1_150) (fun _ h9 => h9) rfl d_Inv_leftOf_10 ?_
    refine lv_iload_n hx hb d_Inv_leftOf_13 rfl (lv_at hl 1 rfl) ?_
    have h_2 : vp_in k 8 := (ix_in (n := 8) (by assumption) (by decide))
    refine va_lald hx hb hK hP 1 2 rfl rfl h_2 d_Inv_leftOf_14 ?_
    refine lv_goto (tgt := 19) hx hb d_Inv_leftOf_15 (by decide) ?_
    exact fin_l hx hb hr hlocks hK hP hD hS d_Inv_leftOf_19 (by simp only [ixGL, c_1, decide_true, decide_false, Bool.not_true, Bool.not_false, Bool.and_true, Bool.true_and, Bool.and_false, Bool.false_and, Bool.or_true, Bool.true_or, Bool.or_false, Bool.false_or, if_true, if_false, reduceIte, Bool.false_eq_true, b2i]) rfl
def ivT (iL : Nat → Int64) (k x : Int32) : Bool := isIx k 8 && decide (x.toInt64 ≤ iL k.toNatClampNeg)
def ivU (iL : Nat → Int64) (k x : Int32) : Nat → Int64 := if ivT iL k x = true then vp_updL iL k.toNatClampNeg (iL k.toNatClampNeg - x.toInt64) else iL
theorem hd_Inv_takeOff : y_Inv_takeOff.cls = "PriceLines$Invoices" ∧ y_Inv_takeOff.cls ≠ "java/lang/invoke/MethodHandle" ∧ y_Inv_takeOff.cls ≠ "java/lang/invoke/VarHandle" ∧ (parseMethodDescriptor y_Inv_takeOff.desc).map (fun d => d.parameters.length) = some 2 := by decide +kernel
set_option maxHeartbeats 1000000 in
set_option maxRecDepth 100000 in
theorem c_Inv_takeOff (l : Launch) (D : va_G) (ta : Nat → ClassId) (h0 h1 : Nat) (iL : Nat → Int64) (vn : Int32) (k : Int32) (x : Int32) : ∀ sz, Met l y_Inv_takeOff w_Inv_takeOff { frames := 1, cells := 0, slots := 0, locals := 21 } (va_Pc [.ref h0, .int k, .int x] (pW D ta [(h0, .inr (3, [.ref h1, .int vn])), (h1, .inl (ta 2, 8, .inr (.inl iL)))] sz)) (eI D ta (va_A [(h0, .inr (3, [.ref h1, .int vn])), (h1, .inl (ta 2, 8, .inr (.inl iL)))] sz) (b2i (ivT iL k x)) [(h0, .inr (3, [.ref h1, .int vn])), (h1, .inl (ta 2, 8, .inr (.inl (ivU iL k x))))]) 0 0 (va_A [(h0, .inr (3, [.ref h1, .int vn])), (h1, .inl (ta 2, 8, .inr (.inl iL)))] sz) := by
  refine opn_Z (bytes := b_Inv_takeOff) (maxL := 3) (by decide +kernel) rfl (Nat.le_of_ble_eq_true rfl) ?_
  intro p e s m below meth c A ls hx hb hr hml hown hlocks hnm hw hK hN hP hD hA hS hl
  have hl : lv_has ls 3 [(0, .ref h0), (1, .int k), (2, .int x)] := hl
  refine lv_iload_n hx hb d_Inv_takeOff_0 rfl (lv_at hl 1 rfl) ?_
  refine lv_bipush (v := 8) hx hb d_Inv_takeOff_1 (by decide) ?_
  refine kT_i (rest := []) (As := [.int k, .int 8]) (w2 := [(h0, .inr (3, [.ref h1, .int vn])), (h1, .inl (ta 2, 8, .inr (.inl iL)))]) ⟨hx, hb, hml, hown, hw⟩ (c_Pri_isIndex l D ta k 8) (hN.get 25 rfl) W1_230 W1_1 W1_231 rfl rfl rfl hd_Pri_isIndex ⟨Nat.le_of_ble_eq_true rfl, Nat.le_of_ble_eq_true rfl⟩ hK hN hP hD hS hA Spl.none rfl hl.1 rfl (Nat.le_of_ble_eq_true rfl) ⟨Nat.zero_le _, Nat.zero_le _⟩ d_Inv_takeOff_3 (fun H locs hP hD hS => ?_)
  refine lb_eq (tgt := 21) hx hb d_Inv_takeOff_6 (by decide) (fun c_1 => ?_) (fun c_1 => ?_)
  · refine lv_iconst (v := 0) hx hb d_Inv_takeOff_21 (by decide) ?_
    exact fin_z hx hb hr hlocks hK hP hD hS d_Inv_takeOff_22 rfl (by simp only [ivU, ivT, c_1, decide_true, decide_false, Bool.not_true, Bool.not_false, Bool.and_true, Bool.true_and, Bool.and_false, Bool.false_and, Bool.or_true, Bool.true_or, Bool.or_false, Bool.false_or, if_true, if_false, reduceIte, Bool.false_eq_true, b2i]) (by simp only [ivU, ivT, c_1, decide_true, decide_false, Bool.not_true, Bool.not_false, Bool.and_true, Bool.true_and, Bool.and_false, Bool.false_and, Bool.or_true, Bool.true_or, Bool.or_false, Bool.false_or, if_true, if_false, reduceIte, Bool.false_eq_true, b2i])
  · refine lv_iload_n hx hb d_Inv_takeOff_9 rfl (lv_at hl 2 rfl) ?_
    refine lv_i2l (v := x.toInt64) hx hb d_Inv_takeOff_10 rfl ?_
    refine lv_aload_n hx hb d_Inv_takeOff_11 rfl (lv_at hl 0 rfl) ?_
    refine va_get (D := D) (ci := 3) (v := .ref h1) (C := "PriceLines$Invoices") (T := F_Inv) (N := 2) hx hb hw in_Inv hown hK hP 0 rfl rfl 0 (by decide) (hw _ W1_150) (fun _ h9 => h9) rfl d_Inv_takeOff_12 ?_
    refine lv_iload_n hx hb d_Inv_takeOff_15 rfl (lv_at hl 1 rfl) ?_
    have h_2 : vp_in k 8 := (ix_in (n := 8) (by assumption) (by decide))
    refine va_lald hx hb hK hP 1 2 rfl rfl h_2 d_Inv_takeOff_16 ?_
    refine lc_le (tgt := 23) hx hb d_Inv_takeOff_17 d_Inv_takeOff_18 (by decide) (fun c_3 => ?_) (fun c_3 => ?_)
    · refine lv_aload_n hx hb d_Inv_takeOff_23 rfl (lv_at hl 0 rfl) ?_
      refine va_get (D := D) (ci := 3) (v := .ref h1) (C := "PriceLines$Invoices") (T := F_Inv) (N := 2) hx hb hw in_Inv hown hK hP 0 rfl rfl 0 (by decide) (hw _ W1_150) (fun _ h9 => h9) rfl d_Inv_takeOff_24 ?_
      refine lv_iload_n hx hb d_Inv_takeOff_27 rfl (lv_at hl 1 rfl) ?_
      refine lv_dup2_11 hx hb d_Inv_takeOff_28 rfl rfl ?_
      have h_4 : vp_in k 8 := (ix_in (n := 8) (by assumption) (by decide))
      refine va_lald hx hb hK hP 1 2 rfl rfl h_4 d_Inv_takeOff_29 ?_
      refine lv_iload_n hx hb d_Inv_takeOff_30 rfl (lv_at hl 2 rfl) ?_
      refine lv_i2l (v := x.toInt64) hx hb d_Inv_takeOff_31 rfl ?_
      refine lv_lsub hx hb d_Inv_takeOff_32 ?_
      have h_5 : vp_in k 8 := (ix_in (n := 8) (by assumption) (by decide))
      refine va_last hx hb hK hP hD hS 1 2 rfl rfl h_5 d_Inv_takeOff_33 (fun H locs hP hD hS => ?_)
      have hP : va_P D vwCl [(h0, .inr (3, [.ref h1, .int vn])), (h1, .inl (ta 2, 8, .inr (.inl (vp_updL iL k.toNatClampNeg ((iL k.toNatClampNeg) - x.toInt64)))))] H := hP
      have hD : va_D A [(h0, .inr (3, [.ref h1, .int vn])), (h1, .inl (ta 2, 8, .inr (.inl (vp_updL iL k.toNatClampNeg ((iL k.toNatClampNeg) - x.toInt64)))))] := hD
      refine lv_iconst (v := 1) hx hb d_Inv_takeOff_34 (by decide) ?_
      exact fin_z hx hb hr hlocks hK hP hD hS d_Inv_takeOff_35 rfl (by simp only [ivU, ivT, c_1, c_3, decide_true, decide_false, Bool.not_true, Bool.not_false, Bool.and_true, Bool.true_and, Bool.and_false, Bool.false_and, Bool.or_true, Bool.true_or, Bool.or_false, Bool.false_or, if_true, if_false, reduceIte, Bool.false_eq_true, b2i]) (by simp only [ivU, ivT, c_1, c_3, decide_true, decide_false, Bool.not_true, Bool.not_false, Bool.and_true, Bool.true_and, Bool.and_false, Bool.false_and, Bool.or_true, Bool.true_or, Bool.or_false, Bool.false_or, if_true, if_false, reduceIte, Bool.false_eq_true, b2i])
    · refine lv_iconst (v := 0) hx hb d_Inv_takeOff_21 (by decide) ?_
      exact fin_z hx hb hr hlocks hK hP hD hS d_Inv_takeOff_22 rfl (by simp only [ivU, ivT, c_1, c_3, decide_true, decide_false, Bool.not_true, Bool.not_false, Bool.and_true, Bool.true_and, Bool.and_false, Bool.false_and, Bool.or_true, Bool.true_or, Bool.or_false, Bool.false_or, if_true, if_false, reduceIte, Bool.false_eq_true, b2i]) (by simp only [ivU, ivT, c_1, c_3, decide_true, decide_false, Bool.not_true, Bool.not_false, Bool.and_true, Bool.true_and, Bool.and_false, Bool.false_and, Bool.or_true, Bool.true_or, Bool.or_false, Bool.false_or, if_true, if_false, reduceIte, Bool.false_eq_true, b2i])
theorem hd_Min_add : y_Min_add.cls = "PriceLines$Minutes" ∧ y_Min_add.cls ≠ "java/lang/invoke/MethodHandle" ∧ y_Min_add.cls ≠ "java/lang/invoke/VarHandle" ∧ (parseMethodDescriptor y_Min_add.desc).map (fun d => d.parameters.length) = some 2 := by decide +kernel
set_option maxHeartbeats 1000000 in
set_option maxRecDepth 100000 in
theorem c_Min_add (l : Launch) (D : va_G) (ta : Nat → ClassId) (h0 h1 h2 : Nat) (mS : Nat → Int64) (mC : Nat → Int64) (k : Int32) (x : Int32) : ∀ sz, Met l y_Min_add w_Min_add { frames := 1, cells := 0, slots := 0, locals := 21 } (va_Pc [.ref h0, .int k, .int x] (pW D ta [(h0, .inr (4, [.ref h1, .ref h2])), (h1, .inl (ta 2, 8, .inr (.inl mS))), (h2, .inl (ta 2, 8, .inr (.inl mC)))] sz)) (eV D ta (va_A [(h0, .inr (4, [.ref h1, .ref h2])), (h1, .inl (ta 2, 8, .inr (.inl mS))), (h2, .inl (ta 2, 8, .inr (.inl mC)))] sz) [(h0, .inr (4, [.ref h1, .ref h2])), (h1, .inl (ta 2, 8, .inr (.inl (ixUL mS 8 k (mS k.toNatClampNeg + x.toInt64))))), (h2, .inl (ta 2, 8, .inr (.inl (ixUL mC 8 k (mC k.toNatClampNeg + 1)))))]) 0 0 (va_A [(h0, .inr (4, [.ref h1, .ref h2])), (h1, .inl (ta 2, 8, .inr (.inl mS))), (h2, .inl (ta 2, 8, .inr (.inl mC)))] sz) := by
  refine opn_V (bytes := b_Min_add) (maxL := 3) (by decide +kernel) rfl (Nat.le_of_ble_eq_true rfl) ?_
  intro p e s m below meth c A ls hx hb hr hml hown hlocks hnm hw hK hN hP hD hA hS hl
  have hl : lv_has ls 3 [(0, .ref h0), (1, .int k), (2, .int x)] := hl
  refine lv_iload_n hx hb d_Min_add_0 rfl (lv_at hl 1 rfl) ?_
  refine lv_bipush (v := 8) hx hb d_Min_add_1 (by decide) ?_
  refine kT_i (rest := []) (As := [.int k, .int 8]) (w2 := [(h0, .inr (4, [.ref h1, .ref h2])), (h1, .inl (ta 2, 8, .inr (.inl mS))), (h2, .inl (ta 2, 8, .inr (.inl mC)))]) ⟨hx, hb, hml, hown, hw⟩ (c_Pri_isIndex l D ta k 8) (hN.get 26 rfl) W1_230 W1_1 W1_231 rfl rfl rfl hd_Pri_isIndex ⟨Nat.le_of_ble_eq_true rfl, Nat.le_of_ble_eq_true rfl⟩ hK hN hP hD hS hA Spl.none rfl hl.1 rfl (Nat.le_of_ble_eq_true rfl) ⟨Nat.zero_le _, Nat.zero_le _⟩ d_Min_add_3 (fun H locs hP hD hS => ?_)
  refine lb_eq (tgt := 30) hx hb d_Min_add_6 (by decide) (fun c_1 => ?_) (fun c_1 => ?_)
  · exact fin_v hx hb hr hlocks hK hP hD hS d_Min_add_30 (by simp only [ixUL, c_1, decide_true, decide_false, Bool.not_true, Bool.not_false, Bool.and_true, Bool.true_and, Bool.and_false, Bool.false_and, Bool.or_true, Bool.true_or, Bool.or_false, Bool.false_or, if_true, if_false, reduceIte, Bool.false_eq_true, b2i])
  · refine lv_aload_n hx hb d_Min_add_9 rfl (lv_at hl 0 rfl) ?_
    refine va_get (D := D) (ci := 4) (v := .ref h1) (C := "PriceLines$Minutes") (T := F_Min) (N := 2) hx hb hw in_Min hown hK hP 0 rfl rfl 0 (by decide) (hw _ W1_164) (fun _ h9 => h9) rfl d_Min_add_10 ?_
    refine lv_iload_n hx hb d_Min_add_13 rfl (lv_at hl 1 rfl) ?_
    refine lv_dup2_11 hx hb d_Min_add_14 rfl rfl ?_
    have h_2 : vp_in k 8 := (ix_in (n := 8) (by assumption) (by decide))
    refine va_lald hx hb hK hP 1 2 rfl rfl h_2 d_Min_add_15 ?_
    refine lv_iload_n hx hb d_Min_add_16 rfl (lv_at hl 2 rfl) ?_
    refine lv_i2l (v := x.toInt64) hx hb d_Min_add_17 rfl ?_
    refine lv_ladd hx hb d_Min_add_18 ?_
    have h_3 : vp_in k 8 := (ix_in (n := 8) (by assumption) (by decide))
    refine va_last hx hb hK hP hD hS 1 2 rfl rfl h_3 d_Min_add_19 (fun H locs hP hD hS => ?_)
    have hP : va_P D vwCl [(h0, .inr (4, [.ref h1, .ref h2])), (h1, .inl (ta 2, 8, .inr (.inl (vp_updL mS k.toNatClampNeg ((mS k.toNatClampNeg) + x.toInt64))))), (h2, .inl (ta 2, 8, .inr (.inl mC)))] H := hP
    have hD : va_D A [(h0, .inr (4, [.ref h1, .ref h2])), (h1, .inl (ta 2, 8, .inr (.inl (vp_updL mS k.toNatClampNeg ((mS k.toNatClampNeg) + x.toInt64))))), (h2, .inl (ta 2, 8, .inr (.inl mC)))] := hD
    refine lv_aload_n hx hb d_Min_add_20 rfl (lv_at hl 0 rfl) ?_
    refine va_get (D := D) (ci := 4) (v := .ref h2) (C := "PriceLines$Minutes") (T := F_Min) (N := 2) hx hb hw in_Min hown hK hP 0 rfl rfl 1 (by decide) (hw _ W1_165) (fun _ h9 => h9) rfl d_Min_add_21 ?_
    refine lv_iload_n hx hb d_Min_add_24 rfl (lv_at hl 1 rfl) ?_
    refine lv_dup2_11 hx hb d_Min_add_25 rfl rfl ?_
    have h_4 : vp_in k 8 := (ix_in (n := 8) (by assumption) (by decide))
    refine va_lald hx hb hK hP 2 2 rfl rfl h_4 d_Min_add_26 ?_
    refine lv_lconst (v := 1) hx hb d_Min_add_27 (by decide) ?_
    refine lv_ladd hx hb d_Min_add_28 ?_
    have h_5 : vp_in k 8 := (ix_in (n := 8) (by assumption) (by decide))
    refine va_last hx hb hK hP hD hS 2 2 rfl rfl h_5 d_Min_add_29 (fun H locs hP hD hS => ?_)
    have hP : va_P D vwCl [(h0, .inr (4, [.ref h1, .ref h2])), (h1, .inl (ta 2, 8, .inr (.inl (vp_updL mS k.toNatClampNeg ((mS k.toNatClampNeg) + x.toInt64))))), (h2, .inl (ta 2, 8, .inr (.inl (vp_updL mC k.toNatClampNeg ((mC k.toNatClampNeg) + 1)))))] H := hP
    have hD : va_D A [(h0, .inr (4, [.ref h1, .ref h2])), (h1, .inl (ta 2, 8, .inr (.inl (vp_updL mS k.toNatClampNeg ((mS k.toNatClampNeg) + x.toInt64))))), (h2, .inl (ta 2, 8, .inr (.inl (vp_updL mC k.toNatClampNeg ((mC k.toNatClampNeg) + 1)))))] := hD
    exact fin_v hx hb hr hlocks hK hP hD hS d_Min_add_30 (by simp only [ixUL, c_1, decide_true, decide_false, Bool.not_true, Bool.not_false, Bool.and_true, Bool.true_and, Bool.and_false, Bool.false_and, Bool.or_true, Bool.true_or, Bool.or_false, Bool.false_or, if_true, if_false, reduceIte, Bool.false_eq_true, b2i])
def mnM (mS mC : Nat → Int64) (k : Int32) : Int32 := if isIx k 8 = true then (if 1 ≤ mC k.toNatClampNeg then (mS k.toNatClampNeg / mC k.toNatClampNeg).toInt32 else 0) else 0
theorem hd_Min_meanOf : y_Min_meanOf.cls = "PriceLines$Minutes" ∧ y_Min_meanOf.cls ≠ "java/lang/invoke/MethodHandle" ∧ y_Min_meanOf.cls ≠ "java/lang/invoke/VarHandle" ∧ (parseMethodDescriptor y_Min_meanOf.desc).map (fun d => d.parameters.length) = some 1 := by decide +kernel
set_option maxHeartbeats 1000000 in
set_option maxRecDepth 100000 in
theorem c_Min_meanOf (l : Launch) (D : va_G) (ta : Nat → ClassId) (h0 h1 h2 : Nat) (mS : Nat → Int64) (mC : Nat → Int64) (k : Int32) : ∀ sz, Met l y_Min_meanOf w_Min_meanOf { frames := 1, cells := 0, slots := 0, locals := 21 } (va_Pc [.ref h0, .int k] (pW D ta [(h0, .inr (4, [.ref h1, .ref h2])), (h1, .inl (ta 2, 8, .inr (.inl mS))), (h2, .inl (ta 2, 8, .inr (.inl mC)))] sz)) (eI D ta (va_A [(h0, .inr (4, [.ref h1, .ref h2])), (h1, .inl (ta 2, 8, .inr (.inl mS))), (h2, .inl (ta 2, 8, .inr (.inl mC)))] sz) (mnM mS mC k) [(h0, .inr (4, [.ref h1, .ref h2])), (h1, .inl (ta 2, 8, .inr (.inl mS))), (h2, .inl (ta 2, 8, .inr (.inl mC)))]) 0 0 (va_A [(h0, .inr (4, [.ref h1, .ref h2])), (h1, .inl (ta 2, 8, .inr (.inl mS))), (h2, .inl (ta 2, 8, .inr (.inl mC)))] sz) := by
  refine opn_I (bytes := b_Min_meanOf) (maxL := 2) (by decide +kernel) rfl (Nat.le_of_ble_eq_true rfl) ?_
  intro p e s m below meth c A ls hx hb hr hml hown hlocks hnm hw hK hN hP hD hA hS hl
  have hl : lv_has ls 2 [(0, .ref h0), (1, .int k)] := hl
  refine lv_iload_n hx hb d_Min_meanOf_0 rfl (lv_at hl 1 rfl) ?_
  refine lv_bipush (v := 8) hx hb d_Min_meanOf_1 (by decide) ?_
  refine kT_i (rest := []) (As := [.int k, .int 8]) (w2 := [(h0, .inr (4, [.ref h1, .ref h2])), (h1, .inl (ta 2, 8, .inr (.inl mS))), (h2, .inl (ta 2, 8, .inr (.inl mC)))]) ⟨hx, hb, hml, hown, hw⟩ (c_Pri_isIndex l D ta k 8) (hN.get 26 rfl) W1_230 W1_1 W1_231 rfl rfl rfl hd_Pri_isIndex ⟨Nat.le_of_ble_eq_true rfl, Nat.le_of_ble_eq_true rfl⟩ hK hN hP hD hS hA Spl.none rfl hl.1 rfl (Nat.le_of_ble_eq_true rfl) ⟨Nat.zero_le _, Nat.zero_le _⟩ d_Min_meanOf_3 (fun H locs hP hD hS => ?_)
  refine lb_eq (tgt := 20) hx hb d_Min_meanOf_6 (by decide) (fun c_1 => ?_) (fun c_1 => ?_)
  · refine lv_iconst (v := 0) hx hb d_Min_meanOf_20 (by decide) ?_
    exact fin_i hx hb hr hlocks hK hP hD hS d_Min_meanOf_21 (by simp only [mnM, c_1, decide_true, decide_false, Bool.not_true, Bool.not_false, Bool.and_true, Bool.true_and, Bool.and_false, Bool.false_and, Bool.or_true, Bool.true_or, Bool.or_false, Bool.false_or, if_true, if_false, reduceIte, Bool.false_eq_true, b2i]) rfl
  · refine lv_aload_n hx hb d_Min_meanOf_9 rfl (lv_at hl 0 rfl) ?_
    refine va_get (D := D) (ci := 4) (v := .ref h2) (C := "PriceLines$Minutes") (T := F_Min) (N := 2) hx hb hw in_Min hown hK hP 0 rfl rfl 1 (by decide) (hw _ W1_165) (fun _ h9 => h9) rfl d_Min_meanOf_10 ?_
    refine lv_iload_n hx hb d_Min_meanOf_13 rfl (lv_at hl 1 rfl) ?_
    have h_2 : vp_in k 8 := (ix_in (n := 8) (by assumption) (by decide))
    refine va_lald hx hb hK hP 2 2 rfl rfl h_2 d_Min_meanOf_14 ?_
    refine lv_lconst (v := 1) hx hb d_Min_meanOf_15 (by decide) ?_
    refine lc_ge (tgt := 22) hx hb d_Min_meanOf_16 d_Min_meanOf_17 (by decide) (fun c_3 => ?_) (fun c_3 => ?_)
    · refine lv_aload_n hx hb d_Min_meanOf_22 rfl (lv_at hl 0 rfl) ?_
      refine va_get (D := D) (ci := 4) (v := .ref h1) (C := "PriceLines$Minutes") (T := F_Min) (N := 2) hx hb hw in_Min hown hK hP 0 rfl rfl 0 (by decide) (hw _ W1_164) (fun _ h9 => h9) rfl d_Min_meanOf_23 ?_
      refine lv_iload_n hx hb d_Min_meanOf_26 rfl (lv_at hl 1 rfl) ?_
      have h_4 : vp_in k 8 := (ix_in (n := 8) (by assumption) (by decide))
      refine va_lald hx hb hK hP 1 2 rfl rfl h_4 d_Min_meanOf_27 ?_
      refine lv_aload_n hx hb d_Min_meanOf_28 rfl (lv_at hl 0 rfl) ?_
      refine va_get (D := D) (ci := 4) (v := .ref h2) (C := "PriceLines$Minutes") (T := F_Min) (N := 2) hx hb hw in_Min hown hK hP 0 rfl rfl 1 (by decide) (hw _ W1_165) (fun _ h9 => h9) rfl d_Min_meanOf_29 ?_
      refine lv_iload_n hx hb d_Min_meanOf_32 rfl (lv_at hl 1 rfl) ?_
      have h_5 : vp_in k 8 := (ix_in (n := 8) (by assumption) (by decide))
      refine va_lald hx hb hK hP 2 2 rfl rfl h_5 d_Min_meanOf_33 ?_
      have h_6 : ¬ (mC k.toNatClampNeg) = 0 := (ne0_1 (by assumption))
      refine lv_ldiv hx hb d_Min_meanOf_34 h_6 ?_
      refine lv_l2i (v := ((mS k.toNatClampNeg) / (mC k.toNatClampNeg)).toInt32) hx hb d_Min_meanOf_35 rfl ?_
      exact fin_i hx hb hr hlocks hK hP hD hS d_Min_meanOf_36 (by simp only [mnM, c_1, c_3, decide_true, decide_false, Bool.not_true, Bool.not_false, Bool.and_true, Bool.true_and, Bool.and_false, Bool.false_and, Bool.or_true, Bool.true_or, Bool.or_false, Bool.false_or, if_true, if_false, reduceIte, Bool.false_eq_true, b2i]) rfl
    · refine lv_iconst (v := 0) hx hb d_Min_meanOf_20 (by decide) ?_
      exact fin_i hx hb hr hlocks hK hP hD hS d_Min_meanOf_21 (by simp only [mnM, c_1, c_3, decide_true, decide_false, Bool.not_true, Bool.not_false, Bool.and_true, Bool.true_and, Bool.and_false, Bool.false_and, Bool.or_true, Bool.true_or, Bool.or_false, Bool.false_or, if_true, if_false, reduceIte, Bool.false_eq_true, b2i]) rfl
