theorem hd_She_clear : y_She_clear.cls = "PriceLines$Sheet" ∧ y_She_clear.cls ≠ "java/lang/invoke/MethodHandle" ∧ y_She_clear.cls ≠ "java/lang/invoke/VarHandle" ∧ (parseMethodDescriptor y_She_clear.desc).map (fun d => d.parameters.length) = some 0 := by decide +kernel
set_option maxHeartbeats 1000000 in
set_option maxRecDepth 100000 in
theorem c_She_clear (l : Launch) (D : va_G) (ta : Nat → ClassId) (h0 h1 h2 : Nat) (sg : Nat → Int32) (en : Nat → Int32) (sc : Int32) (lc : Int32) : ∀ sz, Met l y_She_clear w_She_clear { frames := 0, cells := 0, slots := 0, locals := 0 } (va_Pc [.ref h0] (pW D ta [(h0, .inr (8, [.ref h1, .ref h2, .int sc, .int lc])), (h1, .inl (ta 0, 240, .inl sg)), (h2, .inl (ta 0, 16, .inl en))] sz)) (eV D ta (va_A [(h0, .inr (8, [.ref h1, .ref h2, .int sc, .int lc])), (h1, .inl (ta 0, 240, .inl sg)), (h2, .inl (ta 0, 16, .inl en))] sz) [(h0, .inr (8, [.ref h1, .ref h2, .int 0, .int 0])), (h1, .inl (ta 0, 240, .inl sg)), (h2, .inl (ta 0, 16, .inl en))]) 0 0 (va_A [(h0, .inr (8, [.ref h1, .ref h2, .int sc, .int lc])), (h1, .inl (ta 0, 240, .inl sg)), (h2, .inl (ta 0, 16, .inl en))] sz) := by
  refine opn_V (bytes := b_She_clear) (maxL := 1) (by decide +kernel) rfl (Nat.le_of_ble_eq_true rfl) ?_
  intro p e s m below meth c A ls hx hb hr hml hown hlocks hnm hw hK hN hP hD hA hS hl
  have hl : lv_has ls 1 [(0, .ref h0)] := hl
  refine lv_aload_n hx hb d_She_clear_0 rfl (lv_at hl 0 rfl) ?_
  refine lv_iconst (v := 0) hx hb d_She_clear_1 (by decide) ?_
  refine va_put (D := D) (ci := 8) (v := .int 0) (ty := .int) (C := "PriceLines$Sheet") (T := F_She) (N := 4) hx hb hw in_She t_She tk_She n_She hown hK hP hD hS 0 rfl rfl 2 (by decide) (hw _ W1_179) (fun _ h9 => h9) rfl (tk_She 2 (by decide)) rfl rfl (Nat.le_of_ble_eq_true rfl) d_She_clear_2 (fun H locs hP hD hS => ?_)
  have hP : va_P D vwCl [(h0, .inr (8, [.ref h1, .ref h2, .int 0, .int lc])), (h1, .inl (ta 0, 240, .inl sg)), (h2, .inl (ta 0, 16, .inl en))] H := hP
  have hD : va_D A [(h0, .inr (8, [.ref h1, .ref h2, .int 0, .int lc])), (h1, .inl (ta 0, 240, .inl sg)), (h2, .inl (ta 0, 16, .inl en))] := hD
  refine lv_aload_n hx hb d_She_clear_5 rfl (lv_at hl 0 rfl) ?_
  refine lv_iconst (v := 0) hx hb d_She_clear_6 (by decide) ?_
  refine va_put (D := D) (ci := 8) (v := .int 0) (ty := .int) (C := "PriceLines$Sheet") (T := F_She) (N := 4) hx hb hw in_She t_She tk_She n_She hown hK hP hD hS 0 rfl rfl 3 (by decide) (hw _ W1_180) (fun _ h9 => h9) rfl (tk_She 3 (by decide)) rfl rfl (Nat.le_of_ble_eq_true rfl) d_She_clear_7 (fun H locs hP hD hS => ?_)
  have hP : va_P D vwCl [(h0, .inr (8, [.ref h1, .ref h2, .int 0, .int 0])), (h1, .inl (ta 0, 240, .inl sg)), (h2, .inl (ta 0, 16, .inl en))] H := hP
  have hD : va_D A [(h0, .inr (8, [.ref h1, .ref h2, .int 0, .int 0])), (h1, .inl (ta 0, 240, .inl sg)), (h2, .inl (ta 0, 16, .inl en))] := hD
  exact fin_v hx hb hr hlocks hK hP hD hS d_She_clear_10 rfl
theorem hd_She_addSign : y_She_addSign.cls = "PriceLines$Sheet" ∧ y_She_addSign.cls ≠ "java/lang/invoke/MethodHandle" ∧ y_She_addSign.cls ≠ "java/lang/invoke/VarHandle" ∧ (parseMethodDescriptor y_She_addSign.desc).map (fun d => d.parameters.length) = some 1 := by decide +kernel
set_option maxHeartbeats 1000000 in
set_option maxRecDepth 100000 in
theorem c_She_addSign (l : Launch) (D : va_G) (ta : Nat → ClassId) (h0 h1 h2 : Nat) (sg : Nat → Int32) (en : Nat → Int32) (sc : Int32) (lc : Int32) (x : Int32) : ∀ sz, Met l y_She_addSign w_She_addSign { frames := 1, cells := 0, slots := 0, locals := 21 } (va_Pc [.ref h0, .int x] (pW D ta [(h0, .inr (8, [.ref h1, .ref h2, .int sc, .int lc])), (h1, .inl (ta 0, 240, .inl sg)), (h2, .inl (ta 0, 16, .inl en))] sz)) (eV D ta (va_A [(h0, .inr (8, [.ref h1, .ref h2, .int sc, .int lc])), (h1, .inl (ta 0, 240, .inl sg)), (h2, .inl (ta 0, 16, .inl en))] sz) [(h0, .inr (8, [.ref h1, .ref h2, .int (ixN 240 sc (sc + 1) sc), .int lc])), (h1, .inl (ta 0, 240, .inl (ixU sg 240 sc x))), (h2, .inl (ta 0, 16, .inl en))]) 0 0 (va_A [(h0, .inr (8, [.ref h1, .ref h2, .int sc, .int lc])), (h1, .inl (ta 0, 240, .inl sg)), (h2, .inl (ta 0, 16, .inl en))] sz) := by
  refine opn_V (bytes := b_She_addSign) (maxL := 2) (by decide +kernel) rfl (Nat.le_of_ble_eq_true rfl) ?_
  intro p e s m below meth c A ls hx hb hr hml hown hlocks hnm hw hK hN hP hD hA hS hl
  have hl : lv_has ls 2 [(0, .ref h0), (1, .int x)] := hl
  refine lv_aload_n hx hb d_She_addSign_0 rfl (lv_at hl 0 rfl) ?_
  refine va_get (D := D) (ci := 8) (v := .int sc) (C := "PriceLines$Sheet") (T := F_She) (N := 4) hx hb hw in_She hown hK hP 0 rfl rfl 2 (by decide) (hw _ W1_179) (fun _ h9 => h9) rfl d_She_addSign_1 ?_
  refine lv_aload_n hx hb d_She_addSign_4 rfl (lv_at hl 0 rfl) ?_
  refine va_get (D := D) (ci := 8) (v := .ref h1) (C := "PriceLines$Sheet") (T := F_She) (N := 4) hx hb hw in_She hown hK hP 0 rfl rfl 0 (by decide) (hw _ W1_177) (fun _ h9 => h9) rfl d_She_addSign_5 ?_
  refine va_alen (v := 240) hx hb hK hP 1 0 rfl rfl rfl d_She_addSign_8 ?_
  refine kT_i (rest := []) (As := [.int sc, .int 240]) (w2 := [(h0, .inr (8, [.ref h1, .ref h2, .int sc, .int lc])), (h1, .inl (ta 0, 240, .inl sg)), (h2, .inl (ta 0, 16, .inl en))]) ⟨hx, hb, hml, hown, hw⟩ (c_Pri_isIndex l D ta sc 240) (hN.get 18 rfl) W1_230 W1_1 W1_231 rfl rfl rfl hd_Pri_isIndex ⟨Nat.le_of_ble_eq_true rfl, Nat.le_of_ble_eq_true rfl⟩ hK hN hP hD hS hA Spl.none rfl hl.1 rfl (Nat.le_of_ble_eq_true rfl) ⟨Nat.zero_le _, Nat.zero_le _⟩ d_She_addSign_9 (fun H locs hP hD hS => ?_)
  refine lb_eq (tgt := 35) hx hb d_She_addSign_12 (by decide) (fun c_1 => ?_) (fun c_1 => ?_)
  · exact fin_v hx hb hr hlocks hK hP hD hS d_She_addSign_35 (by simp only [ixU, ixN, c_1, decide_true, decide_false, Bool.not_true, Bool.not_false, Bool.and_true, Bool.true_and, Bool.and_false, Bool.false_and, Bool.or_true, Bool.true_or, Bool.or_false, Bool.false_or, if_true, if_false, reduceIte, Bool.false_eq_true, b2i])
  · refine lv_aload_n hx hb d_She_addSign_15 rfl (lv_at hl 0 rfl) ?_
    refine va_get (D := D) (ci := 8) (v := .ref h1) (C := "PriceLines$Sheet") (T := F_She) (N := 4) hx hb hw in_She hown hK hP 0 rfl rfl 0 (by decide) (hw _ W1_177) (fun _ h9 => h9) rfl d_She_addSign_16 ?_
    refine lv_aload_n hx hb d_She_addSign_19 rfl (lv_at hl 0 rfl) ?_
    refine va_get (D := D) (ci := 8) (v := .int sc) (C := "PriceLines$Sheet") (T := F_She) (N := 4) hx hb hw in_She hown hK hP 0 rfl rfl 2 (by decide) (hw _ W1_179) (fun _ h9 => h9) rfl d_She_addSign_20 ?_
    refine lv_iload_n hx hb d_She_addSign_23 rfl (lv_at hl 1 rfl) ?_
    have h_2 : vp_in sc 240 := (ix_in (n := 240) (by assumption) (by decide))
    refine va_iast hx hb hK hP hD hS 1 0 rfl rfl h_2 d_She_addSign_24 (fun H locs hP hD hS => ?_)
    have hP : va_P D vwCl [(h0, .inr (8, [.ref h1, .ref h2, .int sc, .int lc])), (h1, .inl (ta 0, 240, .inl (upd sg sc.toNatClampNeg x))), (h2, .inl (ta 0, 16, .inl en))] H := hP
    have hD : va_D A [(h0, .inr (8, [.ref h1, .ref h2, .int sc, .int lc])), (h1, .inl (ta 0, 240, .inl (upd sg sc.toNatClampNeg x))), (h2, .inl (ta 0, 16, .inl en))] := hD
    refine lv_aload_n hx hb d_She_addSign_25 rfl (lv_at hl 0 rfl) ?_
    refine lv_dup hx hb d_She_addSign_26 rfl ?_
    refine va_get (D := D) (ci := 8) (v := .int sc) (C := "PriceLines$Sheet") (T := F_She) (N := 4) hx hb hw in_She hown hK hP 0 rfl rfl 2 (by decide) (hw _ W1_179) (fun _ h9 => h9) rfl d_She_addSign_27 ?_
    refine lv_iconst (v := 1) hx hb d_She_addSign_30 (by decide) ?_
    refine lv_iadd hx hb d_She_addSign_31 ?_
    refine va_put (D := D) (ci := 8) (v := .int (sc + 1)) (ty := .int) (C := "PriceLines$Sheet") (T := F_She) (N := 4) hx hb hw in_She t_She tk_She n_She hown hK hP hD hS 0 rfl rfl 2 (by decide) (hw _ W1_179) (fun _ h9 => h9) rfl (tk_She 2 (by decide)) rfl rfl (Nat.le_of_ble_eq_true rfl) d_She_addSign_32 (fun H locs hP hD hS => ?_)
    have hP : va_P D vwCl [(h0, .inr (8, [.ref h1, .ref h2, .int (sc + 1), .int lc])), (h1, .inl (ta 0, 240, .inl (upd sg sc.toNatClampNeg x))), (h2, .inl (ta 0, 16, .inl en))] H := hP
    have hD : va_D A [(h0, .inr (8, [.ref h1, .ref h2, .int (sc + 1), .int lc])), (h1, .inl (ta 0, 240, .inl (upd sg sc.toNatClampNeg x))), (h2, .inl (ta 0, 16, .inl en))] := hD
    exact fin_v hx hb hr hlocks hK hP hD hS d_She_addSign_35 (by simp only [ixU, ixN, c_1, decide_true, decide_false, Bool.not_true, Bool.not_false, Bool.and_true, Bool.true_and, Bool.and_false, Bool.false_and, Bool.or_true, Bool.true_or, Bool.or_false, Bool.false_or, if_true, if_false, reduceIte, Bool.false_eq_true, b2i])
theorem hd_She_addNumber : y_She_addNumber.cls = "PriceLines$Sheet" ∧ y_She_addNumber.cls ≠ "java/lang/invoke/MethodHandle" ∧ y_She_addNumber.cls ≠ "java/lang/invoke/VarHandle" ∧ (parseMethodDescriptor y_She_addNumber.desc).map (fun d => d.parameters.length) = some 1 := by decide +kernel
set_option maxHeartbeats 1000000 in
set_option maxRecDepth 100000 in
theorem c_She_addNumber (l : Launch) (D : va_G) (ta : Nat → ClassId) (h0 h1 h2 : Nat) (sg : Nat → Int32) (en : Nat → Int32) (sc : Int32) (lc : Int32) (x : Int32) : ∀ sz, Met l y_She_addNumber w_She_addNumber { frames := 2, cells := 0, slots := 0, locals := 42 } (va_Pc [.ref h0, .int x] (pW D ta [(h0, .inr (8, [.ref h1, .ref h2, .int sc, .int lc])), (h1, .inl (ta 0, 240, .inl sg)), (h2, .inl (ta 0, 16, .inl en))] sz)) (eV D ta (va_A [(h0, .inr (8, [.ref h1, .ref h2, .int sc, .int lc])), (h1, .inl (ta 0, 240, .inl sg)), (h2, .inl (ta 0, 16, .inl en))] sz) [(h0, .inr (8, [.ref h1, .ref h2, .int (ixN 240 sc (sc + 1) sc), .int lc])), (h1, .inl (ta 0, 240, .inl (ixU sg 240 sc x))), (h2, .inl (ta 0, 16, .inl en))]) 0 0 (va_A [(h0, .inr (8, [.ref h1, .ref h2, .int sc, .int lc])), (h1, .inl (ta 0, 240, .inl sg)), (h2, .inl (ta 0, 16, .inl en))] sz) := by
  refine opn_V (bytes := b_She_addNumber) (maxL := 2) (by decide +kernel) rfl (Nat.le_of_ble_eq_true rfl) ?_
  intro p e s m below meth c A ls hx hb hr hml hown hlocks hnm hw hK hN hP hD hA hS hl
  have hl : lv_has ls 2 [(0, .ref h0), (1, .int x)] := hl
  refine lv_aload_n hx hb d_She_addNumber_0 rfl (lv_at hl 0 rfl) ?_
  refine lv_iload_n hx hb d_She_addNumber_1 rfl (lv_at hl 1 rfl) ?_
  refine kV_v (rest := []) (As := [.int x]) (w2 := [(h0, .inr (8, [.ref h1, .ref h2, .int (ixN 240 sc (sc + 1) sc), .int lc])), (h1, .inl (ta 0, 240, .inl (ixU sg 240 sc x))), (h2, .inl (ta 0, 16, .inl en))]) (q0 := 0) (ci := 8) ⟨hx, hb, hml, hown, hw⟩ (c_She_addSign l D ta h0 h1 h2 sg en sc lc x) W2_25 W2_27 WP_3 W1_10 W2_28 rfl rfl rfl hd_She_addSign ⟨Nat.le_of_ble_eq_true rfl, Nat.le_of_ble_eq_true rfl⟩ hK hN hP hD hS hA (Spl.lit [0, 1, 2] [] [0, 1, 2] rfl (by decide) rfl (by decide) (by decide) rfl (by decide)) rfl rfl rfl rfl hl.1 rfl (Nat.le_of_ble_eq_true rfl) ⟨Nat.zero_le _, Nat.zero_le _⟩ d_She_addNumber_2 (fun H locs hP hD hS => ?_)
  exact fin_v hx hb hr hlocks hK hP hD hS d_She_addNumber_5 rfl
theorem hd_She_addCharacter : y_She_addCharacter.cls = "PriceLines$Sheet" ∧ y_She_addCharacter.cls ≠ "java/lang/invoke/MethodHandle" ∧ y_She_addCharacter.cls ≠ "java/lang/invoke/VarHandle" ∧ (parseMethodDescriptor y_She_addCharacter.desc).map (fun d => d.parameters.length) = some 1 := by decide +kernel
set_option maxHeartbeats 1000000 in
set_option maxRecDepth 100000 in
theorem c_She_addCharacter (l : Launch) (D : va_G) (ta : Nat → ClassId) (h0 h1 h2 : Nat) (sg : Nat → Int32) (en : Nat → Int32) (sc : Int32) (lc : Int32) (x : Int32) : ∀ sz, Met l y_She_addCharacter w_She_addCharacter { frames := 2, cells := 0, slots := 0, locals := 42 } (va_Pc [.ref h0, .int x] (pW D ta [(h0, .inr (8, [.ref h1, .ref h2, .int sc, .int lc])), (h1, .inl (ta 0, 240, .inl sg)), (h2, .inl (ta 0, 16, .inl en))] sz)) (eV D ta (va_A [(h0, .inr (8, [.ref h1, .ref h2, .int sc, .int lc])), (h1, .inl (ta 0, 240, .inl sg)), (h2, .inl (ta 0, 16, .inl en))] sz) [(h0, .inr (8, [.ref h1, .ref h2, .int (ixN 240 sc (sc + 1) sc), .int lc])), (h1, .inl (ta 0, 240, .inl (ixU sg 240 sc (-x)))), (h2, .inl (ta 0, 16, .inl en))]) 0 0 (va_A [(h0, .inr (8, [.ref h1, .ref h2, .int sc, .int lc])), (h1, .inl (ta 0, 240, .inl sg)), (h2, .inl (ta 0, 16, .inl en))] sz) := by
  refine opn_V (bytes := b_She_addCharacter) (maxL := 2) (by decide +kernel) rfl (Nat.le_of_ble_eq_true rfl) ?_
  intro p e s m below meth c A ls hx hb hr hml hown hlocks hnm hw hK hN hP hD hA hS hl
  have hl : lv_has ls 2 [(0, .ref h0), (1, .int x)] := hl
  refine lv_aload_n hx hb d_She_addCharacter_0 rfl (lv_at hl 0 rfl) ?_
  refine lv_iload_n hx hb d_She_addCharacter_1 rfl (lv_at hl 1 rfl) ?_
  refine lv_ineg hx hb d_She_addCharacter_2 ?_
  refine kV_v (rest := []) (As := [.int (-x)]) (w2 := [(h0, .inr (8, [.ref h1, .ref h2, .int (ixN 240 sc (sc + 1) sc), .int lc])), (h1, .inl (ta 0, 240, .inl (ixU sg 240 sc (-x)))), (h2, .inl (ta 0, 16, .inl en))]) (q0 := 0) (ci := 8) ⟨hx, hb, hml, hown, hw⟩ (c_She_addSign l D ta h0 h1 h2 sg en sc lc (-x)) W2_25 W2_27 WP_3 W1_10 W2_28 rfl rfl rfl hd_She_addSign ⟨Nat.le_of_ble_eq_true rfl, Nat.le_of_ble_eq_true rfl⟩ hK hN hP hD hS hA (Spl.lit [0, 1, 2] [] [0, 1, 2] rfl (by decide) rfl (by decide) (by decide) rfl (by decide)) rfl rfl rfl rfl hl.1 rfl (Nat.le_of_ble_eq_true rfl) ⟨Nat.zero_le _, Nat.zero_le _⟩ d_She_addCharacter_3 (fun H locs hP hD hS => ?_)
  exact fin_v hx hb hr hlocks hK hP hD hS d_She_addCharacter_6 rfl
theorem hd_She_addDigit : y_She_addDigit.cls = "PriceLines$Sheet" ∧ y_She_addDigit.cls ≠ "java/lang/invoke/MethodHandle" ∧ y_She_addDigit.cls ≠ "java/lang/invoke/VarHandle" ∧ (parseMethodDescriptor y_She_addDigit.desc).map (fun d => d.parameters.length) = some 1 := by decide +kernel
set_option maxHeartbeats 1000000 in
set_option maxRecDepth 100000 in
theorem c_She_addDigit (l : Launch) (D : va_G) (ta : Nat → ClassId) (h0 h1 h2 : Nat) (sg : Nat → Int32) (en : Nat → Int32) (sc : Int32) (lc : Int32) (x : Int32) : ∀ sz, Met l y_She_addDigit w_She_addDigit { frames := 1, cells := 0, slots := 0, locals := 21 } (va_Pc [.ref h0, .int x] (pW D ta [(h0, .inr (8, [.ref h1, .ref h2, .int sc, .int lc])), (h1, .inl (ta 0, 240, .inl sg)), (h2, .inl (ta 0, 16, .inl en))] sz)) (eV D ta (va_A [(h0, .inr (8, [.ref h1, .ref h2, .int sc, .int lc])), (h1, .inl (ta 0, 240, .inl sg)), (h2, .inl (ta 0, 16, .inl en))] sz) [(h0, .inr (8, [.ref h1, .ref h2, .int sc, .int lc])), (h1, .inl (ta 0, 240, .inl (ixU sg 240 (sc - 1) (sg (sc - 1).toNatClampNeg * 10 + x)))), (h2, .inl (ta 0, 16, .inl en))]) 0 0 (va_A [(h0, .inr (8, [.ref h1, .ref h2, .int sc, .int lc])), (h1, .inl (ta 0, 240, .inl sg)), (h2, .inl (ta 0, 16, .inl en))] sz) := by
  refine opn_V (bytes := b_She_addDigit) (maxL := 3) (by decide +kernel) rfl (Nat.le_of_ble_eq_true rfl) ?_
  intro p e s m below meth c A ls hx hb hr hml hown hlocks hnm hw hK hN hP hD hA hS hl
  have hl : lv_has ls 3 [(0, .ref h0), (1, .int x)] := hl
  refine lv_aload_n hx hb d_She_addDigit_0 rfl (lv_at hl 0 rfl) ?_
  refine va_get (D := D) (ci := 8) (v := .int sc) (C := "PriceLines$Sheet") (T := F_She) (N := 4) hx hb hw in_She hown hK hP 0 rfl rfl 2 (by decide) (hw _ W1_179) (fun _ h9 => h9) rfl d_She_addDigit_1 ?_
  refine lv_iconst (v := 1) hx hb d_She_addDigit_4 (by decide) ?_
  refine lv_isub hx hb d_She_addDigit_5 ?_
  refine lv_istore_n (lv' := [(2, .int (sc - 1)), (0, .ref h0), (1, .int x)]) hx hb d_She_addDigit_6 rfl hl (by decide) rfl (fun ls hl => ?_)
  refine lv_iload_n hx hb d_She_addDigit_7 rfl (lv_at hl 0 rfl) ?_
  refine lv_aload_n hx hb d_She_addDigit_8 rfl (lv_at hl 1 rfl) ?_
  refine va_get (D := D) (ci := 8) (v := .ref h1) (C := "PriceLines$Sheet") (T := F_She) (N := 4) hx hb hw in_She hown hK hP 0 rfl rfl 0 (by decide) (hw _ W1_177) (fun _ h9 => h9) rfl d_She_addDigit_9 ?_
  refine va_alen (v := 240) hx hb hK hP 1 0 rfl rfl rfl d_She_addDigit_12 ?_
  refine kT_i (rest := []) (As := [.int (sc - 1), .int 240]) (w2 := [(h0, .inr (8, [.ref h1, .ref h2, .int sc, .int lc])), (h1, .inl (ta 0, 240, .inl sg)), (h2, .inl (ta 0, 16, .inl en))]) ⟨hx, hb, hml, hown, hw⟩ (c_Pri_isIndex l D ta (sc - 1) 240) (hN.get 18 rfl) W1_230 W1_1 W1_231 rfl rfl rfl hd_Pri_isIndex ⟨Nat.le_of_ble_eq_true rfl, Nat.le_of_ble_eq_true rfl⟩ hK hN hP hD hS hA Spl.none rfl hl.1 rfl (Nat.le_of_ble_eq_true rfl) ⟨Nat.zero_le _, Nat.zero_le _⟩ d_She_addDigit_13 (fun H locs hP hD hS => ?_)
  refine lb_eq (tgt := 36) hx hb d_She_addDigit_16 (by decide) (fun c_1 => ?_) (fun c_1 => ?_)
  · exact fin_v hx hb hr hlocks hK hP hD hS d_She_addDigit_36 (by simp only [ixU, c_1, decide_true, decide_false, Bool.not_true, Bool.not_false, Bool.and_true, Bool.true_and, Bool.and_false, Bool.false_and, Bool.or_true, Bool.true_or, Bool.or_false, Bool.false_or, if_true, if_false, reduceIte, Bool.false_eq_true, b2i])
  · refine lv_aload_n hx hb d_She_addDigit_19 rfl (lv_at hl 1 rfl) ?_
    refine va_get (D := D) (ci := 8) (v := .ref h1) (C := "PriceLines$Sheet") (T := F_She) (N := 4) hx hb hw in_She hown hK hP 0 rfl rfl 0 (by decide) (hw _ W1_177) (fun _ h9 => h9) rfl d_She_addDigit_20 ?_
    refine lv_iload_n hx hb d_She_addDigit_23 rfl (lv_at hl 0 rfl) ?_
    refine lv_aload_n hx hb d_She_addDigit_24 rfl (lv_at hl 1 rfl) ?_
    refine va_get (D := D) (ci := 8) (v := .ref h1) (C := "PriceLines$Sheet") (T := F_She) (N := 4) hx hb hw in_She hown hK hP 0 rfl rfl 0 (by decide) (hw _ W1_177) (fun _ h9 => h9) rfl d_She_addDigit_25 ?_
    refine lv_iload_n hx hb d_She_addDigit_28 rfl (lv_at hl 0 rfl) ?_
    have h_2 : vp_in (sc - 1) 240 := (ix_in (n := 240) (by assumption) (by decide))
    refine va_iald hx hb hK hP 1 0 rfl rfl h_2 d_She_addDigit_29 ?_
    refine lv_bipush (v := 10) hx hb d_She_addDigit_30 (by decide) ?_
    refine lv_imul hx hb d_She_addDigit_32 ?_
    refine lv_iload_n hx hb d_She_addDigit_33 rfl (lv_at hl 2 rfl) ?_
    refine lv_iadd hx hb d_She_addDigit_34 ?_
    have h_3 : vp_in (sc - 1) 240 := (ix_in (n := 240) (by assumption) (by decide))
    refine va_iast hx hb hK hP hD hS 1 0 rfl rfl h_3 d_She_addDigit_35 (fun H locs hP hD hS => ?_)
    have hP : va_P D vwCl [(h0, .inr (8, [.ref h1, .ref h2, .int sc, .int lc])), (h1, .inl (ta 0, 240, .inl (upd sg (sc - 1).toNatClampNeg (((sg (sc - 1).toNatClampNeg) * 10) + x)))), (h2, .inl (ta 0, 16, .inl en))] H := hP
    have hD : va_D A [(h0, .inr (8, [.ref h1, .ref h2, .int sc, .int lc])), (h1, .inl (ta 0, 240, .inl (upd sg (sc - 1).toNatClampNeg (((sg (sc - 1).toNatClampNeg) * 10) + x)))), (h2, .inl (ta 0, 16, .inl en))] := hD
    exact fin_v hx hb hr hlocks hK hP hD hS d_She_addDigit_36 (by simp only [ixU, c_1, decide_true, decide_false, Bool.not_true, Bool.not_false, Bool.and_true, Bool.true_and, Bool.and_false, Bool.false_and, Bool.or_true, Bool.true_or, Bool.or_false, Bool.false_or, if_true, if_false, reduceIte, Bool.false_eq_true, b2i])
def shE {α : Type} (lc : Int32) (x y : α) : α := if isIx lc 16 = true then x else y
theorem hd_She_addEnd : y_She_addEnd.cls = "PriceLines$Sheet" ∧ y_She_addEnd.cls ≠ "java/lang/invoke/MethodHandle" ∧ y_She_addEnd.cls ≠ "java/lang/invoke/VarHandle" ∧ (parseMethodDescriptor y_She_addEnd.desc).map (fun d => d.parameters.length) = some 1 := by decide +kernel
set_option maxHeartbeats 1000000 in
set_option maxRecDepth 100000 in
theorem c_She_addEnd (l : Launch) (D : va_G) (ta : Nat → ClassId) (h0 h1 h2 : Nat) (sg : Nat → Int32) (en : Nat → Int32) (sc : Int32) (lc : Int32) (x : Int32) : ∀ sz, Met l y_She_addEnd w_She_addEnd { frames := 2, cells := 0, slots := 0, locals := 42 } (va_Pc [.ref h0, .int x] (pW D ta [(h0, .inr (8, [.ref h1, .ref h2, .int sc, .int lc])), (h1, .inl (ta 0, 240, .inl sg)), (h2, .inl (ta 0, 16, .inl en))] sz)) (eV D ta (va_A [(h0, .inr (8, [.ref h1, .ref h2, .int sc, .int lc])), (h1, .inl (ta 0, 240, .inl sg)), (h2, .inl (ta 0, 16, .inl en))] sz) [(h0, .inr (8, [.ref h1, .ref h2, .int (shE lc (ixN 240 sc (sc + 1) sc) sc), .int (ixN 16 lc (lc + 1) lc)])), (h1, .inl (ta 0, 240, .inl (shE lc (ixU sg 240 sc (-x)) sg))), (h2, .inl (ta 0, 16, .inl (ixU en 16 lc sc)))]) 0 0 (va_A [(h0, .inr (8, [.ref h1, .ref h2, .int sc, .int lc])), (h1, .inl (ta 0, 240, .inl sg)), (h2, .inl (ta 0, 16, .inl en))] sz) := by
  refine opn_V (bytes := b_She_addEnd) (maxL := 2) (by decide +kernel) rfl (Nat.le_of_ble_eq_true rfl) ?_
  intro p e s m below meth c A ls hx hb hr hml hown hlocks hnm hw hK hN hP hD hA hS hl
  have hl : lv_has ls 2 [(0, .ref h0), (1, .int x)] := hl
  refine lv_aload_n hx hb d_She_addEnd_0 rfl (lv_at hl 0 rfl) ?_
  refine va_get (D := D) (ci := 8) (v := .int lc) (C := "PriceLines$Sheet") (T := F_She) (N := 4) hx hb hw in_She hown hK hP 0 rfl rfl 3 (by decide) (hw _ W1_180) (fun _ h9 => h9) rfl d_She_addEnd_1 ?_
  refine lv_aload_n hx hb d_She_addEnd_4 rfl (lv_at hl 0 rfl) ?_
  refine va_get (D := D) (ci := 8) (v := .ref h2) (C := "PriceLines$Sheet") (T := F_She) (N := 4) hx hb hw in_She hown hK hP 0 rfl rfl 1 (by decide) (hw _ W1_178) (fun _ h9 => h9) rfl d_She_addEnd_5 ?_
  refine va_alen (v := 16) hx hb hK hP 2 0 rfl rfl rfl d_She_addEnd_8 ?_
  refine kT_i (rest := []) (As := [.int lc, .int 16]) (w2 := [(h0, .inr (8, [.ref h1, .ref h2, .int sc, .int lc])), (h1, .inl (ta 0, 240, .inl sg)), (h2, .inl (ta 0, 16, .inl en))]) ⟨hx, hb, hml, hown, hw⟩ (c_Pri_isIndex l D ta lc 16) (hN.get 18 rfl) W1_230 W1_1 W1_231 rfl rfl rfl hd_Pri_isIndex ⟨Nat.le_of_ble_eq_true rfl, Nat.le_of_ble_eq_true rfl⟩ hK hN hP hD hS hA Spl.none rfl hl.1 rfl (Nat.le_of_ble_eq_true rfl) ⟨Nat.zero_le _, Nat.zero_le _⟩ d_She_addEnd_9 (fun H locs hP hD hS => ?_)
  refine lb_eq (tgt := 44) hx hb d_She_addEnd_12 (by decide) (fun c_1 => ?_) (fun c_1 => ?_)
  · exact fin_v hx hb hr hlocks hK hP hD hS d_She_addEnd_44 (by simp only [shE, c_1, if_true, if_false, Bool.false_eq_true]; simp only [ixU, ixN, c_1, if_true, if_false, Bool.false_eq_true])
  · refine lv_aload_n hx hb d_She_addEnd_15 rfl (lv_at hl 0 rfl) ?_
    refine va_get (D := D) (ci := 8) (v := .ref h2) (C := "PriceLines$Sheet") (T := F_She) (N := 4) hx hb hw in_She hown hK hP 0 rfl rfl 1 (by decide) (hw _ W1_178) (fun _ h9 => h9) rfl d_She_addEnd_16 ?_
    refine lv_aload_n hx hb d_She_addEnd_19 rfl (lv_at hl 0 rfl) ?_
    refine va_get (D := D) (ci := 8) (v := .int lc) (C := "PriceLines$Sheet") (T := F_She) (N := 4) hx hb hw in_She hown hK hP 0 rfl rfl 3 (by decide) (hw _ W1_180) (fun _ h9 => h9) rfl d_She_addEnd_20 ?_
    refine lv_aload_n hx hb d_She_addEnd_23 rfl (lv_at hl 0 rfl) ?_
    refine va_get (D := D) (ci := 8) (v := .int sc) (C := "PriceLines$Sheet") (T := F_She) (N := 4) hx hb hw in_She hown hK hP 0 rfl rfl 2 (by decide) (hw _ W1_179) (fun _ h9 => h9) rfl d_She_addEnd_24 ?_
    have h_2 : vp_in lc 16 := (ix_in (n := 16) (by assumption) (by decide))
    refine va_iast hx hb hK hP hD hS 2 0 rfl rfl h_2 d_She_addEnd_27 (fun H locs hP hD hS => ?_)
    have hP : va_P D vwCl [(h0, .inr (8, [.ref h1, .ref h2, .int sc, .int lc])), (h1, .inl (ta 0, 240, .inl sg)), (h2, .inl (ta 0, 16, .inl (upd en lc.toNatClampNeg sc)))] H := hP
    have hD : va_D A [(h0, .inr (8, [.ref h1, .ref h2, .int sc, .int lc])), (h1, .inl (ta 0, 240, .inl sg)), (h2, .inl (ta 0, 16, .inl (upd en lc.toNatClampNeg sc)))] := hD
    refine lv_aload_n hx hb d_She_addEnd_28 rfl (lv_at hl 0 rfl) ?_
    refine lv_dup hx hb d_She_addEnd_29 rfl ?_
    refine va_get (D := D) (ci := 8) (v := .int lc) (C := "PriceLines$Sheet") (T := F_She) (N := 4) hx hb hw in_She hown hK hP 0 rfl rfl 3 (by decide) (hw _ W1_180) (fun _ h9 => h9) rfl d_She_addEnd_30 ?_
    refine lv_iconst (v := 1) hx hb d_She_addEnd_33 (by decide) ?_
    refine lv_iadd hx hb d_She_addEnd_34 ?_
    refine va_put (D := D) (ci := 8) (v := .int (lc + 1)) (ty := .int) (C := "PriceLines$Sheet") (T := F_She) (N := 4) hx hb hw in_She t_She tk_She n_She hown hK hP hD hS 0 rfl rfl 3 (by decide) (hw _ W1_180) (fun _ h9 => h9) rfl (tk_She 3 (by decide)) rfl rfl (Nat.le_of_ble_eq_true rfl) d_She_addEnd_35 (fun H locs hP hD hS => ?_)
    have hP : va_P D vwCl [(h0, .inr (8, [.ref h1, .ref h2, .int sc, .int (lc + 1)])), (h1, .inl (ta 0, 240, .inl sg)), (h2, .inl (ta 0, 16, .inl (upd en lc.toNatClampNeg sc)))] H := hP
    have hD : va_D A [(h0, .inr (8, [.ref h1, .ref h2, .int sc, .int (lc + 1)])), (h1, .inl (ta 0, 240, .inl sg)), (h2, .inl (ta 0, 16, .inl (upd en lc.toNatClampNeg sc)))] := hD
    refine lv_aload_n hx hb d_She_addEnd_38 rfl (lv_at hl 0 rfl) ?_
    refine lv_iload_n hx hb d_She_addEnd_39 rfl (lv_at hl 1 rfl) ?_
    refine lv_ineg hx hb d_She_addEnd_40 ?_
    refine kV_v (rest := []) (As := [.int (-x)]) (w2 := [(h0, .inr (8, [.ref h1, .ref h2, .int (ixN 240 sc (sc + 1) sc), .int (lc + 1)])), (h1, .inl (ta 0, 240, .inl (ixU sg 240 sc (-x)))), (h2, .inl (ta 0, 16, .inl (upd en lc.toNatClampNeg sc)))]) (q0 := 0) (ci := 8) ⟨hx, hb, hml, hown, hw⟩ (c_She_addSign l D ta h0 h1 h2 sg (upd en lc.toNatClampNeg sc) sc (lc + 1) (-x)) W2_25 W2_27 WP_3 W1_10 W2_28 rfl rfl rfl hd_She_addSign ⟨Nat.le_of_ble_eq_true rfl, Nat.le_of_ble_eq_true rfl⟩ hK hN hP hD hS hA (Spl.lit [0, 1, 2] [] [0, 1, 2] rfl (by decide) rfl (by decide) (by decide) rfl (by decide)) rfl rfl rfl rfl hl.1 rfl (Nat.le_of_ble_eq_true rfl) ⟨Nat.zero_le _, Nat.zero_le _⟩ d_She_addEnd_41 (fun H locs hP hD hS => ?_)
    exact fin_v hx hb hr hlocks hK hP hD hS d_She_addEnd_44 (by simp only [shE, c_1, if_true, if_false, Bool.false_eq_true]; simp only [ixU, ixN, c_1, if_true, if_false, Bool.false_eq_true])
theorem hd_She_endOf : y_She_endOf.cls = "PriceLines$Sheet" ∧ y_She_endOf.cls ≠ "java/lang/invoke/MethodHandle" ∧ y_She_endOf.cls ≠ "java/lang/invoke/VarHandle" ∧ (parseMethodDescriptor y_She_endOf.desc).map (fun d => d.parameters.length) = some 1 := by decide +kernel
set_option maxHeartbeats 1000000 in
set_option maxRecDepth 100000 in
theorem c_She_endOf (l : Launch) (D : va_G) (ta : Nat → ClassId) (h0 h1 h2 : Nat) (sg : Nat → Int32) (en : Nat → Int32) (sc : Int32) (lc : Int32) (k : Int32) : ∀ sz, Met l y_She_endOf w_She_endOf { frames := 1, cells := 0, slots := 0, locals := 21 } (va_Pc [.ref h0, .int k] (pW D ta [(h0, .inr (8, [.ref h1, .ref h2, .int sc, .int lc])), (h1, .inl (ta 0, 240, .inl sg)), (h2, .inl (ta 0, 16, .inl en))] sz)) (eI D ta (va_A [(h0, .inr (8, [.ref h1, .ref h2, .int sc, .int lc])), (h1, .inl (ta 0, 240, .inl sg)), (h2, .inl (ta 0, 16, .inl en))] sz) (ixG en 16 k) [(h0, .inr (8, [.ref h1, .ref h2, .int sc, .int lc])), (h1, .inl (ta 0, 240, .inl sg)), (h2, .inl (ta 0, 16, .inl en))]) 0 0 (va_A [(h0, .inr (8, [.ref h1, .ref h2, .int sc, .int lc])), (h1, .inl (ta 0, 240, .inl sg)), (h2, .inl (ta 0, 16, .inl en))] sz) := by
  refine opn_I (bytes := b_She_endOf) (maxL := 2) (by decide +kernel) rfl (Nat.le_of_ble_eq_true rfl) ?_
  intro p e s m below meth c A ls hx hb hr hml hown hlocks hnm hw hK hN hP hD hA hS hl
  have hl : lv_has ls 2 [(0, .ref h0), (1, .int k)] := hl
  refine lv_iload_n hx hb d_She_endOf_0 rfl (lv_at hl 1 rfl) ?_
  refine lv_aload_n hx hb d_She_endOf_1 rfl (lv_at hl 0 rfl) ?_
  refine va_get (D := D) (ci := 8) (v := .ref h2) (C := "PriceLines$Sheet") (T := F_She) (N := 4) hx hb hw in_She hown hK hP 0 rfl rfl 1 (by decide) (hw _ W1_178) (fun _ h9 => h9) rfl d_She_endOf_2 ?_
  refine va_alen (v := 16) hx hb hK hP 2 0 rfl rfl rfl d_She_endOf_5 ?_
  refine kT_i (rest := []) (As := [.int k, .int 16]) (w2 := [(h0, .inr (8, [.ref h1, .ref h2, .int sc, .int lc])), (h1, .inl (ta 0, 240, .inl sg)), (h2, .inl (ta 0, 16, .inl en))]) ⟨hx, hb, hml, hown, hw⟩ (c_Pri_isIndex l D ta k 16) (hN.get 18 rfl) W1_230 W1_1 W1_231 rfl rfl rfl hd_Pri_isIndex ⟨Nat.le_of_ble_eq_true rfl, Nat.le_of_ble_eq_true rfl⟩ hK hN hP hD hS hA Spl.none rfl hl.1 rfl (Nat.le_of_ble_eq_true rfl) ⟨Nat.zero_le _, Nat.zero_le _⟩ d_She_endOf_6 (fun H locs hP hD hS => ?_)
  refine lb_eq (tgt := 21) hx hb d_She_endOf_9 (by decide) (fun c_1 => ?_) (fun c_1 => ?_)
  · refine lv_iconst (v := 0) hx hb d_She_endOf_21 (by decide) ?_
    exact fin_i hx hb hr hlocks hK hP hD hS d_She_endOf_22 (by simp only [ixG, c_1, decide_true, decide_false, Bool.not_true, Bool.not_false, Bool.and_true, Bool.true_and, Bool.and_false, Bool.false_and, Bool.or_true, Bool.true_or, Bool.or_false, Bool.false_or, if_true, if_false, reduceIte, Bool.false_eq_true, b2i]) rfl
  · refine lv_aload_n hx hb d_She_endOf_12 rfl (lv_at hl 0 rfl) ?_
    refine va_get (D := D) (ci := 8) (v := .ref h2) (C := "PriceLines$Sheet") (T := F_She) (N := 4) hx hb hw in_She hown hK hP 0 rfl rfl 1 (by decide) (hw _ W1_178) (fun _ h9 => h9) rfl d_She_endOf_13 ?_
    refine lv_iload_n hx hb d_She_endOf_16 rfl (lv_at hl 1 rfl) ?_
    have h_2 : vp_in k 16 := (ix_in (n := 16) (by assumption) (by decide))
    refine va_iald hx hb hK hP 2 0 rfl rfl h_2 d_She_endOf_17 ?_
    refine lv_goto (tgt := 22) hx hb d_She_endOf_18 (by decide) ?_
    exact fin_i hx hb hr hlocks hK hP hD hS d_She_endOf_22 (by simp only [ixG, c_1, decide_true, decide_false, Bool.not_true, Bool.not_false, Bool.and_true, Bool.true_and, Bool.and_false, Bool.false_and, Bool.or_true, Bool.true_or, Bool.or_false, Bool.false_or, if_true, if_false, reduceIte, Bool.false_eq_true, b2i]) rfl
theorem hd_She_signAt : y_She_signAt.cls = "PriceLines$Sheet" ∧ y_She_signAt.cls ≠ "java/lang/invoke/MethodHandle" ∧ y_She_signAt.cls ≠ "java/lang/invoke/VarHandle" ∧ (parseMethodDescriptor y_She_signAt.desc).map (fun d => d.parameters.length) = some 1 := by decide +kernel
set_option maxHeartbeats 1000000 in
set_option maxRecDepth 100000 in
theorem c_She_signAt (l : Launch) (D : va_G) (ta : Nat → ClassId) (h0 h1 h2 : Nat) (sg : Nat → Int32) (en : Nat → Int32) (sc : Int32) (lc : Int32) (k : Int32) : ∀ sz, Met l y_She_signAt w_She_signAt { frames := 1, cells := 0, slots := 0, locals := 21 } (va_Pc [.ref h0, .int k] (pW D ta [(h0, .inr (8, [.ref h1, .ref h2, .int sc, .int lc])), (h1, .inl (ta 0, 240, .inl sg)), (h2, .inl (ta 0, 16, .inl en))] sz)) (eI D ta (va_A [(h0, .inr (8, [.ref h1, .ref h2, .int sc, .int lc])), (h1, .inl (ta 0, 240, .inl sg)), (h2, .inl (ta 0, 16, .inl en))] sz) (ixG sg 240 k) [(h0, .inr (8, [.ref h1, .ref h2, .int sc, .int lc])), (h1, .inl (ta 0, 240, .inl sg)), (h2, .inl (ta 0, 16, .inl en))]) 0 0 (va_A [(h0, .inr (8, [.ref h1, .ref h2, .int sc, .int lc])), (h1, .inl (ta 0, 240, .inl sg)), (h2, .inl (ta 0, 16, .inl en))] sz) := by
  refine opn_I (bytes := b_She_signAt) (maxL := 2) (by decide +kernel) rfl (Nat.le_of_ble_eq_true rfl) ?_
  intro p e s m below meth c A ls hx hb hr hml hown hlocks hnm hw hK hN hP hD hA hS hl
  have hl : lv_has ls 2 [(0, .ref h0), (1, .int k)] := hl
  refine lv_iload_n hx hb d_She_signAt_0 rfl (lv_at hl 1 rfl) ?_
  refine lv_aload_n hx hb d_She_signAt_1 rfl (lv_at hl 0 rfl) ?_
  refine va_get (D := D) (ci := 8) (v := .ref h1) (C := "PriceLines$Sheet") (T := F_She) (N := 4) hx hb hw in_She hown hK hP 0 rfl rfl 0 (by decide) (hw _ W1_177) (fun _ h9 => h9) rfl d_She_signAt_2 ?_
  refine va_alen (v := 240) hx hb hK hP 1 0 rfl rfl rfl d_She_signAt_5 ?_
  refine kT_i (rest := []) (As := [.int k, .int 240]) (w2 := [(h0, .inr (8, [.ref h1, .ref h2, .int sc, .int lc])), (h1, .inl (ta 0, 240, .inl sg)), (h2, .inl (ta 0, 16, .inl en))]) ⟨hx, hb, hml, hown, hw⟩ (c_Pri_isIndex l D ta k 240) (hN.get 18 rfl) W1_230 W1_1 W1_231 rfl rfl rfl hd_Pri_isIndex ⟨Nat.le_of_ble_eq_true rfl, Nat.le_of_ble_eq_true rfl⟩ hK hN hP hD hS hA Spl.none rfl hl.1 rfl (Nat.le_of_ble_eq_true rfl) ⟨Nat.zero_le _, Nat.zero_le _⟩ d_She_signAt_6 (fun H locs hP hD hS => ?_)
  refine lb_eq (tgt := 21) hx hb d_She_signAt_9 (by decide) (fun c_1 => ?_) (fun c_1 => ?_)
  · refine lv_iconst (v := 0) hx hb d_She_signAt_21 (by decide) ?_
    exact fin_i hx hb hr hlocks hK hP hD hS d_She_signAt_22 (by simp only [ixG, c_1, decide_true, decide_false, Bool.not_true, Bool.not_false, Bool.and_true, Bool.true_and, Bool.and_false, Bool.false_and, Bool.or_true, Bool.true_or, Bool.or_false, Bool.false_or, if_true, if_false, reduceIte, Bool.false_eq_true, b2i]) rfl
  · refine lv_aload_n hx hb d_She_signAt_12 rfl (lv_at hl 0 rfl) ?_
    refine va_get (D := D) (ci := 8) (v := .ref h1) (C := "PriceLines$Sheet") (T := F_She) (N := 4) hx hb hw in_She hown hK hP 0 rfl rfl 0 (by decide) (hw _ W1_177) (fun _ h9 => h9) rfl d_She_signAt_13 ?_
    refine lv_iload_n hx hb d_She_signAt_16 rfl (lv_at hl 1 rfl) ?_
    have h_2 : vp_in k 240 := (ix_in (n := 240) (by assumption) (by decide))
    refine va_iald hx hb hK hP 1 0 rfl rfl h_2 d_She_signAt_17 ?_
    refine lv_goto (tgt := 22) hx hb d_She_signAt_18 (by decide) ?_
    exact fin_i hx hb hr hlocks hK hP hD hS d_She_signAt_22 (by simp only [ixG, c_1, decide_true, decide_false, Bool.not_true, Bool.not_false, Bool.and_true, Bool.true_and, Bool.and_false, Bool.false_and, Bool.or_true, Bool.true_or, Bool.or_false, Bool.false_or, if_true, if_false, reduceIte, Bool.false_eq_true, b2i]) rfl
def shF (en : Nat → Int32) (k : Int32) : Int32 := if k = 0 then 0 else ixG en 16 (k - 1) + 1
theorem hd_She_firstOf : y_She_firstOf.cls = "PriceLines$Sheet" ∧ y_She_firstOf.cls ≠ "java/lang/invoke/MethodHandle" ∧ y_She_firstOf.cls ≠ "java/lang/invoke/VarHandle" ∧ (parseMethodDescriptor y_She_firstOf.desc).map (fun d => d.parameters.length) = some 1 := by decide +kernel
set_option maxHeartbeats 1000000 in
set_option maxRecDepth 100000 in
theorem c_She_firstOf (l : Launch) (D : va_G) (ta : Nat → ClassId) (h0 h1 h2 : Nat) (sg : Nat → Int32) (en : Nat → Int32) (sc : Int32) (lc : Int32) (k : Int32) : ∀ sz, Met l y_She_firstOf w_She_firstOf { frames := 2, cells := 0, slots := 0, locals := 42 } (va_Pc [.ref h0, .int k] (pW D ta [(h0, .inr (8, [.ref h1, .ref h2, .int sc, .int lc])), (h1, .inl (ta 0, 240, .inl sg)), (h2, .inl (ta 0, 16, .inl en))] sz)) (eI D ta (va_A [(h0, .inr (8, [.ref h1, .ref h2, .int sc, .int lc])), (h1, .inl (ta 0, 240, .inl sg)), (h2, .inl (ta 0, 16, .inl en))] sz) (shF en k) [(h0, .inr (8, [.ref h1, .ref h2, .int sc, .int lc])), (h1, .inl (ta 0, 240, .inl sg)), (h2, .inl (ta 0, 16, .inl en))]) 0 0 (va_A [(h0, .inr (8, [.ref h1, .ref h2, .int sc, .int lc])), (h1, .inl (ta 0, 240, .inl sg)), (h2, .inl (ta 0, 16, .inl en))] sz) := by
  refine opn_I (bytes := b_She_firstOf) (maxL := 2) (by decide +kernel) rfl (Nat.le_of_ble_eq_true rfl) ?_
  intro p e s m below meth c A ls hx hb hr hml hown hlocks hnm hw hK hN hP hD hA hS hl
  have hl : lv_has ls 2 [(0, .ref h0), (1, .int k)] := hl
  refine lv_iload_n hx hb d_She_firstOf_0 rfl (lv_at hl 1 rfl) ?_
  refine lv_if_ne (tgt := 8) hx hb d_She_firstOf_1 (by decide) (fun c_1 => ?_) (fun c_1 => ?_)
  · refine lv_aload_n hx hb d_She_firstOf_8 rfl (lv_at hl 0 rfl) ?_
    refine lv_iload_n hx hb d_She_firstOf_9 rfl (lv_at hl 1 rfl) ?_
    refine lv_iconst (v := 1) hx hb d_She_firstOf_10 (by decide) ?_
    refine lv_isub hx hb d_She_firstOf_11 ?_
    refine kV_i (rest := []) (As := [.int (k - 1)]) (w2 := [(h0, .inr (8, [.ref h1, .ref h2, .int sc, .int lc])), (h1, .inl (ta 0, 240, .inl sg)), (h2, .inl (ta 0, 16, .inl en))]) (q0 := 0) (ci := 8) ⟨hx, hb, hml, hown, hw⟩ (c_She_endOf l D ta h0 h1 h2 sg en sc lc (k - 1)) W2_79 W2_80 W2_81 W1_10 W2_82 rfl rfl rfl hd_She_endOf ⟨Nat.le_of_ble_eq_true rfl, Nat.le_of_ble_eq_true rfl⟩ hK hN hP hD hS hA (Spl.lit [0, 1, 2] [] [0, 1, 2] rfl (by decide) rfl (by decide) (by decide) rfl (by decide)) rfl rfl rfl rfl hl.1 rfl (Nat.le_of_ble_eq_true rfl) ⟨Nat.zero_le _, Nat.zero_le _⟩ d_She_firstOf_12 (fun H locs hP hD hS => ?_)
    refine lv_iconst (v := 1) hx hb d_She_firstOf_15 (by decide) ?_
    refine lv_iadd hx hb d_She_firstOf_16 ?_
    exact fin_i hx hb hr hlocks hK hP hD hS d_She_firstOf_17 (by simp only [shF, c_1, decide_true, decide_false, Bool.not_true, Bool.not_false, Bool.and_true, Bool.true_and, Bool.and_false, Bool.false_and, Bool.or_true, Bool.true_or, Bool.or_false, Bool.false_or, if_true, if_false, reduceIte, Bool.false_eq_true, b2i]) rfl
  · refine lv_iconst (v := 0) hx hb d_She_firstOf_4 (by decide) ?_
    refine lv_goto (tgt := 17) hx hb d_She_firstOf_5 (by decide) ?_
    exact fin_i hx hb hr hlocks hK hP hD hS d_She_firstOf_17 (by simp only [shF, eq_true c_1, decide_true, decide_false, Bool.not_true, Bool.not_false, Bool.and_true, Bool.true_and, Bool.and_false, Bool.false_and, Bool.or_true, Bool.true_or, Bool.or_false, Bool.false_or, if_true, if_false, reduceIte, Bool.false_eq_true, b2i]) rfl
