def cuB (cD : Nat → Int32) (n day : Int32) : Bool := !isIx (n - 1) 8 || !decide (day ≤ cD (n - 1).toNatClampNeg)
theorem hd_Cur_isBehindLast : y_Cur_isBehindLast.cls = "PriceLines$Currencies" ∧ y_Cur_isBehindLast.cls ≠ "java/lang/invoke/MethodHandle" ∧ y_Cur_isBehindLast.cls ≠ "java/lang/invoke/VarHandle" ∧ (parseMethodDescriptor y_Cur_isBehindLast.desc).map (fun d => d.parameters.length) = some 1 := by decide +kernel
set_option maxHeartbeats 1000000 in
set_option maxRecDepth 100000 in
theorem c_Cur_isBehindLast (l : Launch) (D : va_G) (ta : Nat → ClassId) (h0 h1 h2 h3 : Nat) (cD : Nat → Int32) (cA : Nat → Int32) (cB : Nat → Int32) (cn : Int32) (day : Int32) : ∀ sz, Met l y_Cur_isBehindLast w_Cur_isBehindLast { frames := 1, cells := 0, slots := 0, locals := 21 } (va_Pc [.ref h0, .int day] (pW D ta [(h0, .inr (0, [.ref h1, .ref h2, .ref h3, .int cn])), (h1, .inl (ta 0, 8, .inl cD)), (h2, .inl (ta 0, 8, .inl cA)), (h3, .inl (ta 0, 8, .inl cB))] sz)) (eI D ta (va_A [(h0, .inr (0, [.ref h1, .ref h2, .ref h3, .int cn])), (h1, .inl (ta 0, 8, .inl cD)), (h2, .inl (ta 0, 8, .inl cA)), (h3, .inl (ta 0, 8, .inl cB))] sz) (b2i (cuB cD cn day)) [(h0, .inr (0, [.ref h1, .ref h2, .ref h3, .int cn])), (h1, .inl (ta 0, 8, .inl cD)), (h2, .inl (ta 0, 8, .inl cA)), (h3, .inl (ta 0, 8, .inl cB))]) 0 0 (va_A [(h0, .inr (0, [.ref h1, .ref h2, .ref h3, .int cn])), (h1, .inl (ta 0, 8, .inl cD)), (h2, .inl (ta 0, 8, .inl cA)), (h3, .inl (ta 0, 8, .inl cB))] sz) := by
  refine opn_Z (bytes := b_Cur_isBehindLast) (maxL := 3) (by decide +kernel) rfl (Nat.le_of_ble_eq_true rfl) ?_
  intro p e s m below meth c A ls hx hb hr hml hown hlocks hnm hw hK hN hP hD hA hS hl
  have hl : lv_has ls 3 [(0, .ref h0), (1, .int day)] := hl
  refine lv_aload_n hx hb d_Cur_isBehindLast_0 rfl (lv_at hl 0 rfl) ?_
  refine va_get (D := D) (ci := 0) (v := .int cn) (C := "PriceLines$Currencies") (T := F_Cur) (N := 4) hx hb hw in_Cur hown hK hP 0 rfl rfl 3 (by decide) (hw _ W1_115) (fun _ h9 => h9) rfl d_Cur_isBehindLast_1 ?_
  refine lv_iconst (v := 1) hx hb d_Cur_isBehindLast_4 (by decide) ?_
  refine lv_isub hx hb d_Cur_isBehindLast_5 ?_
  refine lv_istore_n (lv' := [(2, .int (cn - 1)), (0, .ref h0), (1, .int day)]) hx hb d_Cur_isBehindLast_6 rfl hl (by decide) rfl (fun ls hl => ?_)
  refine lv_iload_n hx hb d_Cur_isBehindLast_7 rfl (lv_at hl 0 rfl) ?_
  refine lv_bipush (v := 8) hx hb d_Cur_isBehindLast_8 (by decide) ?_
  refine kT_i (rest := []) (As := [.int (cn - 1), .int 8]) (w2 := [(h0, .inr (0, [.ref h1, .ref h2, .ref h3, .int cn])), (h1, .inl (ta 0, 8, .inl cD)), (h2, .inl (ta 0, 8, .inl cA)), (h3, .inl (ta 0, 8, .inl cB))]) ⟨hx, hb, hml, hown, hw⟩ (c_Pri_isIndex l D ta (cn - 1) 8) (hN.get 23 rfl) W1_230 W1_1 W1_231 rfl rfl rfl hd_Pri_isIndex ⟨Nat.le_of_ble_eq_true rfl, Nat.le_of_ble_eq_true rfl⟩ hK hN hP hD hS hA Spl.none rfl hl.1 rfl (Nat.le_of_ble_eq_true rfl) ⟨Nat.zero_le _, Nat.zero_le _⟩ d_Cur_isBehindLast_10 (fun H locs hP hD hS => ?_)
  refine lb_eq (tgt := 26) hx hb d_Cur_isBehindLast_13 (by decide) (fun c_1 => ?_) (fun c_1 => ?_)
  · refine lv_iconst (v := 1) hx hb d_Cur_isBehindLast_26 (by decide) ?_
    refine lv_goto (tgt := 31) hx hb d_Cur_isBehindLast_27 (by decide) ?_
    exact fin_z hx hb hr hlocks hK hP hD hS d_Cur_isBehindLast_31 rfl (by simp only [cuB, c_1, decide_true, decide_false, Bool.not_true, Bool.not_false, Bool.and_true, Bool.true_and, Bool.and_false, Bool.false_and, Bool.or_true, Bool.true_or, Bool.or_false, Bool.false_or, if_true, if_false, reduceIte, Bool.false_eq_true, b2i]) rfl
  · refine lv_iload_n hx hb d_Cur_isBehindLast_16 rfl (lv_at hl 2 rfl) ?_
    refine lv_aload_n hx hb d_Cur_isBehindLast_17 rfl (lv_at hl 1 rfl) ?_
    refine va_get (D := D) (ci := 0) (v := .ref h1) (C := "PriceLines$Currencies") (T := F_Cur) (N := 4) hx hb hw in_Cur hown hK hP 0 rfl rfl 0 (by decide) (hw _ W1_112) (fun _ h9 => h9) rfl d_Cur_isBehindLast_18 ?_
    refine lv_iload_n hx hb d_Cur_isBehindLast_21 rfl (lv_at hl 0 rfl) ?_
    have h_2 : vp_in (cn - 1) 8 := (ix_in (n := 8) (by assumption) (by decide))
    refine va_iald hx hb hK hP 1 0 rfl rfl h_2 d_Cur_isBehindLast_22 ?_
    refine lv_icmp_le (tgt := 30) hx hb d_Cur_isBehindLast_23 (by decide) (fun c_3 => ?_) (fun c_3 => ?_)
    · refine lv_iconst (v := 0) hx hb d_Cur_isBehindLast_30 (by decide) ?_
      exact fin_z hx hb hr hlocks hK hP hD hS d_Cur_isBehindLast_31 rfl (by simp only [cuB, c_1, c_3, decide_true, decide_false, Bool.not_true, Bool.not_false, Bool.and_true, Bool.true_and, Bool.and_false, Bool.false_and, Bool.or_true, Bool.true_or, Bool.or_false, Bool.false_or, if_true, if_false, reduceIte, Bool.false_eq_true, b2i]) rfl
    · refine lv_iconst (v := 1) hx hb d_Cur_isBehindLast_26 (by decide) ?_
      refine lv_goto (tgt := 31) hx hb d_Cur_isBehindLast_27 (by decide) ?_
      exact fin_z hx hb hr hlocks hK hP hD hS d_Cur_isBehindLast_31 rfl (by simp only [cuB, c_1, c_3, decide_true, decide_false, Bool.not_true, Bool.not_false, Bool.and_true, Bool.true_and, Bool.and_false, Bool.false_and, Bool.or_true, Bool.true_or, Bool.or_false, Bool.false_or, if_true, if_false, reduceIte, Bool.false_eq_true, b2i]) rfl
theorem hd_Cur_add : y_Cur_add.cls = "PriceLines$Currencies" ∧ y_Cur_add.cls ≠ "java/lang/invoke/MethodHandle" ∧ y_Cur_add.cls ≠ "java/lang/invoke/VarHandle" ∧ (parseMethodDescriptor y_Cur_add.desc).map (fun d => d.parameters.length) = some 3 := by decide +kernel
set_option maxHeartbeats 1000000 in
set_option maxRecDepth 100000 in
theorem c_Cur_add (l : Launch) (D : va_G) (ta : Nat → ClassId) (h0 h1 h2 h3 : Nat) (cD : Nat → Int32) (cA : Nat → Int32) (cB : Nat → Int32) (cn : Int32) (day : Int32) (x : Int32) (y : Int32) : ∀ sz, Met l y_Cur_add w_Cur_add { frames := 1, cells := 0, slots := 0, locals := 21 } (va_Pc [.ref h0, .int day, .int x, .int y] (pW D ta [(h0, .inr (0, [.ref h1, .ref h2, .ref h3, .int cn])), (h1, .inl (ta 0, 8, .inl cD)), (h2, .inl (ta 0, 8, .inl cA)), (h3, .inl (ta 0, 8, .inl cB))] sz)) (eV D ta (va_A [(h0, .inr (0, [.ref h1, .ref h2, .ref h3, .int cn])), (h1, .inl (ta 0, 8, .inl cD)), (h2, .inl (ta 0, 8, .inl cA)), (h3, .inl (ta 0, 8, .inl cB))] sz) [(h0, .inr (0, [.ref h1, .ref h2, .ref h3, .int (ixN 8 cn (cn + 1) cn)])), (h1, .inl (ta 0, 8, .inl (ixU cD 8 cn day))), (h2, .inl (ta 0, 8, .inl (ixU cA 8 cn x))), (h3, .inl (ta 0, 8, .inl (ixU cB 8 cn y)))]) 0 0 (va_A [(h0, .inr (0, [.ref h1, .ref h2, .ref h3, .int cn])), (h1, .inl (ta 0, 8, .inl cD)), (h2, .inl (ta 0, 8, .inl cA)), (h3, .inl (ta 0, 8, .inl cB))] sz) := by
  refine opn_V (bytes := b_Cur_add) (maxL := 4) (by decide +kernel) rfl (Nat.le_of_ble_eq_true rfl) ?_
  intro p e s m below meth c A ls hx hb hr hml hown hlocks hnm hw hK hN hP hD hA hS hl
  have hl : lv_has ls 4 [(0, .ref h0), (1, .int day), (2, .int x), (3, .int y)] := hl
  refine lv_aload_n hx hb d_Cur_add_0 rfl (lv_at hl 0 rfl) ?_
  refine va_get (D := D) (ci := 0) (v := .int cn) (C := "PriceLines$Currencies") (T := F_Cur) (N := 4) hx hb hw in_Cur hown hK hP 0 rfl rfl 3 (by decide) (hw _ W1_115) (fun _ h9 => h9) rfl d_Cur_add_1 ?_
  refine lv_bipush (v := 8) hx hb d_Cur_add_4 (by decide) ?_
  refine kT_i (rest := []) (As := [.int cn, .int 8]) (w2 := [(h0, .inr (0, [.ref h1, .ref h2, .ref h3, .int cn])), (h1, .inl (ta 0, 8, .inl cD)), (h2, .inl (ta 0, 8, .inl cA)), (h3, .inl (ta 0, 8, .inl cB))]) ⟨hx, hb, hml, hown, hw⟩ (c_Pri_isIndex l D ta cn 8) (hN.get 23 rfl) W1_230 W1_1 W1_231 rfl rfl rfl hd_Pri_isIndex ⟨Nat.le_of_ble_eq_true rfl, Nat.le_of_ble_eq_true rfl⟩ hK hN hP hD hS hA Spl.none rfl hl.1 rfl (Nat.le_of_ble_eq_true rfl) ⟨Nat.zero_le _, Nat.zero_le _⟩ d_Cur_add_6 (fun H locs hP hD hS => ?_)
  refine lb_eq (tgt := 52) hx hb d_Cur_add_9 (by decide) (fun c_1 => ?_) (fun c_1 => ?_)
  · exact fin_v hx hb hr hlocks hK hP hD hS d_Cur_add_52 (by simp only [ixU, ixN, c_1, decide_true, decide_false, Bool.not_true, Bool.not_false, Bool.and_true, Bool.true_and, Bool.and_false, Bool.false_and, Bool.or_true, Bool.true_or, Bool.or_false, Bool.false_or, if_true, if_false, reduceIte, Bool.false_eq_true, b2i])
  · refine lv_aload_n hx hb d_Cur_add_12 rfl (lv_at hl 0 rfl) ?_
    refine va_get (D := D) (ci := 0) (v := .ref h1) (C := "PriceLines$Currencies") (T := F_Cur) (N := 4) hx hb hw in_Cur hown hK hP 0 rfl rfl 0 (by decide) (hw _ W1_112) (fun _ h9 => h9) rfl d_Cur_add_13 ?_
    refine lv_aload_n hx hb d_Cur_add_16 rfl (lv_at hl 0 rfl) ?_
    refine va_get (D := D) (ci := 0) (v := .int cn) (C := "PriceLines$Currencies") (T := F_Cur) (N := 4) hx hb hw in_Cur hown hK hP 0 rfl rfl 3 (by decide) (hw _ W1_115) (fun _ h9 => h9) rfl d_Cur_add_17 ?_
    refine lv_iload_n hx hb d_Cur_add_20 rfl (lv_at hl 1 rfl) ?_
    have h_2 : vp_in cn 8 := (ix_in (n := 8) (by assumption) (by decide))
    refine va_iast hx hb hK hP hD hS 1 0 rfl rfl h_2 d_Cur_add_21 (fun H locs hP hD hS => ?_)
    have hP : va_P D vwCl [(h0, .inr (0, [.ref h1, .ref h2, .ref h3, .int cn])), (h1, .inl (ta 0, 8, .inl (upd cD cn.toNatClampNeg day))), (h2, .inl (ta 0, 8, .inl cA)), (h3, .inl (ta 0, 8, .inl cB))] H := hP
    have hD : va_D A [(h0, .inr (0, [.ref h1, .ref h2, .ref h3, .int cn])), (h1, .inl (ta 0, 8, .inl (upd cD cn.toNatClampNeg day))), (h2, .inl (ta 0, 8, .inl cA)), (h3, .inl (ta 0, 8, .inl cB))] := hD
    refine lv_aload_n hx hb d_Cur_add_22 rfl (lv_at hl 0 rfl) ?_
    refine va_get (D := D) (ci := 0) (v := .ref h2) (C := "PriceLines$Currencies") (T := F_Cur) (N := 4) hx hb hw in_Cur hown hK hP 0 rfl rfl 1 (by decide) (hw _ W1_113) (fun _ h9 => h9) rfl d_Cur_add_23 ?_
    refine lv_aload_n hx hb d_Cur_add_26 rfl (lv_at hl 0 rfl) ?_
    refine va_get (D := D) (ci := 0) (v := .int cn) (C := "PriceLines$Currencies") (T := F_Cur) (N := 4) hx hb hw in_Cur hown hK hP 0 rfl rfl 3 (by decide) (hw _ W1_115) (fun _ h9 => h9) rfl d_Cur_add_27 ?_
    refine lv_iload_n hx hb d_Cur_add_30 rfl (lv_at hl 2 rfl) ?_
    have h_3 : vp_in cn 8 := (ix_in (n := 8) (by assumption) (by decide))
    refine va_iast hx hb hK hP hD hS 2 0 rfl rfl h_3 d_Cur_add_31 (fun H locs hP hD hS => ?_)
    have hP : va_P D vwCl [(h0, .inr (0, [.ref h1, .ref h2, .ref h3, .int cn])), (h1, .inl (ta 0, 8, .inl (upd cD cn.toNatClampNeg day))), (h2, .inl (ta 0, 8, .inl (upd cA cn.toNatClampNeg x))), (h3, .inl (ta 0, 8, .inl cB))] H := hP
    have hD : va_D A [(h0, .inr (0, [.ref h1, .ref h2, .ref h3, .int cn])), (h1, .inl (ta 0, 8, .inl (upd cD cn.toNatClampNeg day))), (h2, .inl (ta 0, 8, .inl (upd cA cn.toNatClampNeg x))), (h3, .inl (ta 0, 8, .inl cB))] := hD
    refine lv_aload_n hx hb d_Cur_add_32 rfl (lv_at hl 0 rfl) ?_
    refine va_get (D := D) (ci := 0) (v := .ref h3) (C := "PriceLines$Currencies") (T := F_Cur) (N := 4) hx hb hw in_Cur hown hK hP 0 rfl rfl 2 (by decide) (hw _ W1_114) (fun _ h9 => h9) rfl d_Cur_add_33 ?_
    refine lv_aload_n hx hb d_Cur_add_36 rfl (lv_at hl 0 rfl) ?_
    refine va_get (D := D) (ci := 0) (v := .int cn) (C := "PriceLines$Currencies") (T := F_Cur) (N := 4) hx hb hw in_Cur hown hK hP 0 rfl rfl 3 (by decide) (hw _ W1_115) (fun _ h9 => h9) rfl d_Cur_add_37 ?_
    refine lv_iload_n hx hb d_Cur_add_40 rfl (lv_at hl 3 rfl) ?_
    have h_4 : vp_in cn 8 := (ix_in (n := 8) (by assumption) (by decide))
    refine va_iast hx hb hK hP hD hS 3 0 rfl rfl h_4 d_Cur_add_41 (fun H locs hP hD hS => ?_)
    have hP : va_P D vwCl [(h0, .inr (0, [.ref h1, .ref h2, .ref h3, .int cn])), (h1, .inl (ta 0, 8, .inl (upd cD cn.toNatClampNeg day))), (h2, .inl (ta 0, 8, .inl (upd cA cn.toNatClampNeg x))), (h3, .inl (ta 0, 8, .inl (upd cB cn.toNatClampNeg y)))] H := hP
    have hD : va_D A [(h0, .inr (0, [.ref h1, .ref h2, .ref h3, .int cn])), (h1, .inl (ta 0, 8, .inl (upd cD cn.toNatClampNeg day))), (h2, .inl (ta 0, 8, .inl (upd cA cn.toNatClampNeg x))), (h3, .inl (ta 0, 8, .inl (upd cB cn.toNatClampNeg y)))] := hD
    refine lv_aload_n hx hb d_Cur_add_42 rfl (lv_at hl 0 rfl) ?_
    refine lv_dup hx hb d_Cur_add_43 rfl ?_
    refine va_get (D := D) (ci := 0) (v := .int cn) (C := "PriceLines$Currencies") (T := F_Cur) (N := 4) hx hb hw in_Cur hown hK hP 0 rfl rfl 3 (by decide) (hw _ W1_115) (fun _ h9 => h9) rfl d_Cur_add_44 ?_
    refine lv_iconst (v := 1) hx hb d_Cur_add_47 (by decide) ?_
    refine lv_iadd hx hb d_Cur_add_48 ?_
    refine va_put (D := D) (ci := 0) (v := .int (cn + 1)) (ty := .int) (C := "PriceLines$Currencies") (T := F_Cur) (N := 4) hx hb hw in_Cur t_Cur tk_Cur n_Cur hown hK hP hD hS 0 rfl rfl 3 (by decide) (hw _ W1_115) (fun _ h9 => h9) rfl (tk_Cur 3 (by decide)) rfl rfl (Nat.le_of_ble_eq_true rfl) d_Cur_add_49 (fun H locs hP hD hS => ?_)
    have hP : va_P D vwCl [(h0, .inr (0, [.ref h1, .ref h2, .ref h3, .int (cn + 1)])), (h1, .inl (ta 0, 8, .inl (upd cD cn.toNatClampNeg day))), (h2, .inl (ta 0, 8, .inl (upd cA cn.toNatClampNeg x))), (h3, .inl (ta 0, 8, .inl (upd cB cn.toNatClampNeg y)))] H := hP
    have hD : va_D A [(h0, .inr (0, [.ref h1, .ref h2, .ref h3, .int (cn + 1)])), (h1, .inl (ta 0, 8, .inl (upd cD cn.toNatClampNeg day))), (h2, .inl (ta 0, 8, .inl (upd cA cn.toNatClampNeg x))), (h3, .inl (ta 0, 8, .inl (upd cB cn.toNatClampNeg y)))] := hD
    exact fin_v hx hb hr hlocks hK hP hD hS d_Cur_add_52 (by simp only [ixU, ixN, c_1, decide_true, decide_false, Bool.not_true, Bool.not_false, Bool.and_true, Bool.true_and, Bool.and_false, Bool.false_and, Bool.or_true, Bool.true_or, Bool.or_false, Bool.false_or, if_true, if_false, reduceIte, Bool.false_eq_true, b2i])
/-- the last of the first rows that is not behind the day -/
def cuR (cD : Nat → Int32) (n day : Int32) : Nat → Int32 → Int32
  | 0, row => row
  | f + 1, row => if n ≤ nI (8 - (f + 1)) then row else cuR cD n day f (if day < cD (nI (8 - (f + 1))).toNatClampNeg then row else nI (8 - (f + 1)))
theorem hd_Cur_rowAt : y_Cur_rowAt.cls = "PriceLines$Currencies" ∧ y_Cur_rowAt.cls ≠ "java/lang/invoke/MethodHandle" ∧ y_Cur_rowAt.cls ≠ "java/lang/invoke/VarHandle" ∧ (parseMethodDescriptor y_Cur_rowAt.desc).map (fun d => d.parameters.length) = some 1 := by decide +kernel
set_option maxHeartbeats 1000000 in
set_option maxRecDepth 100000 in
theorem c_Cur_rowAt (l : Launch) (D : va_G) (ta : Nat → ClassId) (h0 h1 h2 h3 : Nat) (cD : Nat → Int32) (cA : Nat → Int32) (cB : Nat → Int32) (cn : Int32) (day : Int32) : ∀ sz, Met l y_Cur_rowAt w_Cur_rowAt { frames := 0, cells := 0, slots := 0, locals := 0 } (va_Pc [.ref h0, .int day] (pW D ta [(h0, .inr (0, [.ref h1, .ref h2, .ref h3, .int cn])), (h1, .inl (ta 0, 8, .inl cD)), (h2, .inl (ta 0, 8, .inl cA)), (h3, .inl (ta 0, 8, .inl cB))] sz)) (eI D ta (va_A [(h0, .inr (0, [.ref h1, .ref h2, .ref h3, .int cn])), (h1, .inl (ta 0, 8, .inl cD)), (h2, .inl (ta 0, 8, .inl cA)), (h3, .inl (ta 0, 8, .inl cB))] sz) (cuR cD cn day 8 (-1)) [(h0, .inr (0, [.ref h1, .ref h2, .ref h3, .int cn])), (h1, .inl (ta 0, 8, .inl cD)), (h2, .inl (ta 0, 8, .inl cA)), (h3, .inl (ta 0, 8, .inl cB))]) 0 0 (va_A [(h0, .inr (0, [.ref h1, .ref h2, .ref h3, .int cn])), (h1, .inl (ta 0, 8, .inl cD)), (h2, .inl (ta 0, 8, .inl cA)), (h3, .inl (ta 0, 8, .inl cB))] sz) := by
  refine opn_I (bytes := b_Cur_rowAt) (maxL := 4) (by decide +kernel) rfl (Nat.le_of_ble_eq_true rfl) ?_
  intro p e s m below meth c A ls hx hb hr hml hown hlocks hnm hw hK hN hP hD hA hS hl
  have hl : lv_has ls 4 [(0, .ref h0), (1, .int day)] := hl
  have LOOP : ∀ (f : Nat) (row k : Int32) (ls : Array Slot), k = nI (8 - f) → f ≤ 8 → cuR cD cn day f row = cuR cD cn day 8 (-1) → lv_has ls 4 [(3, .int k), (2, .int row), (0, .ref h0), (1, .int day)] → W p l e { frames := 0, cells := 0, slots := 0, locals := 0 } s m ([.ref h0, .int day] : List Value).toArray below meth c s.heap [] 0 0 (MQ below (eI D ta A (cuR cD cn day 8 (-1)) [(h0, .inr (0, [.ref h1, .ref h2, .ref h3, .int cn])), (h1, .inl (ta 0, 8, .inl cD)), (h2, .inl (ta 0, 8, .inl cA)), (h3, .inl (ta 0, 8, .inl cB))]) ([.ref h0, .int day] : List Value).toArray s 0 0 A) (F0 m 4 ls []) := by
    intro f
    induction f with
    | zero =>
      intro row k ls hk hf hc hl
      refine lv_iload_n hx hb d_Cur_rowAt_4 rfl (lv_at hl 0 rfl) ?_
      refine lv_aload_n hx hb d_Cur_rowAt_5 rfl (lv_at hl 2 rfl) ?_
      refine va_get (D := D) (ci := 0) (v := .int cn) (C := "PriceLines$Currencies") (T := F_Cur) (N := 4) hx hb hw in_Cur hown hK hP 0 rfl rfl 3 (by decide) (hw _ W1_115) (fun _ h9 => h9) rfl d_Cur_rowAt_6 ?_
      refine lv_icmp_ge (tgt := 36) hx hb d_Cur_rowAt_9 (by decide) (fun c_1 => ?_) (fun c_1 => ?_)
      · refine lv_iload_n hx hb d_Cur_rowAt_36 rfl (lv_at hl 1 rfl) ?_
        exact fin_i hx hb hr hlocks hK hP hD hS d_Cur_rowAt_37 hc rfl
      · refine lv_iload_n hx hb d_Cur_rowAt_12 rfl (lv_at hl 0 rfl) ?_
        refine lv_bipush (v := 8) hx hb d_Cur_rowAt_13 (by decide) ?_
        refine lv_icmp_ge (tgt := 36) hx hb d_Cur_rowAt_15 (by decide) (fun c_2 => ?_) (fun c_2 => ?_)
        · refine lv_iload_n hx hb d_Cur_rowAt_36 rfl (lv_at hl 1 rfl) ?_
          exact fin_i hx hb hr hlocks hK hP hD hS d_Cur_rowAt_37 hc rfl
        · exact absurd (by subst hk; decide) c_2
    | succ f ih =>
      intro row k ls hk hf hc hl
      refine lv_iload_n hx hb d_Cur_rowAt_4 rfl (lv_at hl 0 rfl) ?_
      refine lv_aload_n hx hb d_Cur_rowAt_5 rfl (lv_at hl 2 rfl) ?_
      refine va_get (D := D) (ci := 0) (v := .int cn) (C := "PriceLines$Currencies") (T := F_Cur) (N := 4) hx hb hw in_Cur hown hK hP 0 rfl rfl 3 (by decide) (hw _ W1_115) (fun _ h9 => h9) rfl d_Cur_rowAt_6 ?_
      refine lv_icmp_ge (tgt := 36) hx hb d_Cur_rowAt_9 (by decide) (fun c_3 => ?_) (fun c_3 => ?_)
      · refine lv_iload_n hx hb d_Cur_rowAt_36 rfl (lv_at hl 1 rfl) ?_
        exact fin_i hx hb hr hlocks hK hP hD hS d_Cur_rowAt_37 (by subst hk; rw [← hc]; simp only [cuR, c_3, if_true]) rfl
      · refine lv_iload_n hx hb d_Cur_rowAt_12 rfl (lv_at hl 0 rfl) ?_
        refine lv_bipush (v := 8) hx hb d_Cur_rowAt_13 (by decide) ?_
        refine lv_icmp_ge (tgt := 36) hx hb d_Cur_rowAt_15 (by decide) (fun c_4 => ?_) (fun c_4 => ?_)
        · exact absurd (show nI 8 ≤ nI (8 - (f + 1)) from hk ▸ c_4) (nI_ge (by omega) (by omega))
        · refine lv_aload_n hx hb d_Cur_rowAt_18 rfl (lv_at hl 2 rfl) ?_
          refine va_get (D := D) (ci := 0) (v := .ref h1) (C := "PriceLines$Currencies") (T := F_Cur) (N := 4) hx hb hw in_Cur hown hK hP 0 rfl rfl 0 (by decide) (hw _ W1_112) (fun _ h9 => h9) rfl d_Cur_rowAt_19 ?_
          refine lv_iload_n hx hb d_Cur_rowAt_22 rfl (lv_at hl 0 rfl) ?_
          have h_5 : vp_in k 8 := (by subst hk; exact vp_in_nI (by omega) (by decide))
          refine va_iald hx hb hK hP 1 0 rfl rfl h_5 d_Cur_rowAt_23 ?_
          refine lv_iload_n hx hb d_Cur_rowAt_24 rfl (lv_at hl 3 rfl) ?_
          refine lv_icmp_gt (tgt := 30) hx hb d_Cur_rowAt_25 (by decide) (fun c_6 => ?_) (fun c_6 => ?_)
          · refine lv_iinc (v := (k + 1)) (lv' := [(3, .int (k + 1)), (2, .int row), (0, .ref h0), (1, .int day)]) hx hb d_Cur_rowAt_30 hl (k := 0) rfl rfl (by decide) rfl (fun ls hl => ?_)
            refine lv_goto (tgt := 4) hx hb d_Cur_rowAt_33 (by decide) ?_
            exact ih _ _ ls (by subst hk; rw [nI_1]; congr 1; omega) (by omega) (by subst hk; rw [← hc]; simp only [cuR, c_3, c_4, c_6, if_true, if_false]) (lv_sub hl [0, 1, 2, 3] rfl)
          · refine lv_iload_n hx hb d_Cur_rowAt_28 rfl (lv_at hl 0 rfl) ?_
            refine lv_istore_n (lv' := [(2, .int k), (3, .int k), (0, .ref h0), (1, .int day)]) hx hb d_Cur_rowAt_29 rfl hl (by decide) rfl (fun ls hl => ?_)
            refine lv_iinc (v := (k + 1)) (lv' := [(3, .int (k + 1)), (2, .int k), (0, .ref h0), (1, .int day)]) hx hb d_Cur_rowAt_30 hl (k := 1) rfl rfl (by decide) rfl (fun ls hl => ?_)
            refine lv_goto (tgt := 4) hx hb d_Cur_rowAt_33 (by decide) ?_
            exact ih _ _ ls (by subst hk; rw [nI_1]; congr 1; omega) (by omega) (by subst hk; rw [← hc]; simp only [cuR, c_3, c_4, c_6, if_true, if_false]) (lv_sub hl [0, 1, 2, 3] rfl)
  refine lv_iconst (v := (-1)) hx hb d_Cur_rowAt_0 (by decide) ?_
  refine lv_istore_n (lv' := [(2, .int (-1)), (0, .ref h0), (1, .int day)]) hx hb d_Cur_rowAt_1 rfl hl (by decide) rfl (fun ls hl => ?_)
  refine lv_iconst (v := 0) hx hb d_Cur_rowAt_2 (by decide) ?_
  refine lv_istore_n (lv' := [(3, .int 0), (2, .int (-1)), (0, .ref h0), (1, .int day)]) hx hb d_Cur_rowAt_3 rfl hl (by decide) rfl (fun ls hl => ?_)
  exact LOOP 8 (-1) 0 ls (by decide) (Nat.le_refl _) rfl (lv_sub hl [0, 1, 2, 3] rfl)
theorem ne0_i1 {y : Int32} (h : 1 ≤ y) : ¬ y.toInt64 = 0 := fun q => by
  have h2 : (1 : Int32).toInt ≤ y.toInt := Int32.le_iff_toInt_le.mp h
  have h3 : y.toInt64.toInt = 0 := by rw [q]; rfl
  rw [Int32.toInt_toInt64] at h3
  rw [show (1 : Int32).toInt = 1 from rfl] at h2
  omega
def cuC (cD cA cB : Nat → Int32) (n : Int32) (x : Int64) (day : Int32) : Int64 := if isIx (cuR cD n day 8 (-1)) 8 = true then (if 1 ≤ cB (cuR cD n day 8 (-1)).toNatClampNeg then flD (x * (cA (cuR cD n day 8 (-1)).toNatClampNeg).toInt64) (cB (cuR cD n day 8 (-1)).toNatClampNeg).toInt64 else x) else x
theorem hd_Cur_convert : y_Cur_convert.cls = "PriceLines$Currencies" ∧ y_Cur_convert.cls ≠ "java/lang/invoke/MethodHandle" ∧ y_Cur_convert.cls ≠ "java/lang/invoke/VarHandle" ∧ (parseMethodDescriptor y_Cur_convert.desc).map (fun d => d.parameters.length) = some 2 := by decide +kernel
set_option maxHeartbeats 1000000 in
set_option maxRecDepth 100000 in
theorem c_Cur_convert (l : Launch) (D : va_G) (ta : Nat → ClassId) (h0 h1 h2 h3 : Nat) (cD : Nat → Int32) (cA : Nat → Int32) (cB : Nat → Int32) (cn : Int32) (x : Int64) (day : Int32) : ∀ sz, Met l y_Cur_convert w_Cur_convert { frames := 1, cells := 0, slots := 0, locals := 25 } (va_Pc [.ref h0, .long x, .int day] (pW D ta [(h0, .inr (0, [.ref h1, .ref h2, .ref h3, .int cn])), (h1, .inl (ta 0, 8, .inl cD)), (h2, .inl (ta 0, 8, .inl cA)), (h3, .inl (ta 0, 8, .inl cB))] sz)) (eL D ta (va_A [(h0, .inr (0, [.ref h1, .ref h2, .ref h3, .int cn])), (h1, .inl (ta 0, 8, .inl cD)), (h2, .inl (ta 0, 8, .inl cA)), (h3, .inl (ta 0, 8, .inl cB))] sz) (cuC cD cA cB cn x day) [(h0, .inr (0, [.ref h1, .ref h2, .ref h3, .int cn])), (h1, .inl (ta 0, 8, .inl cD)), (h2, .inl (ta 0, 8, .inl cA)), (h3, .inl (ta 0, 8, .inl cB))]) 0 0 (va_A [(h0, .inr (0, [.ref h1, .ref h2, .ref h3, .int cn])), (h1, .inl (ta 0, 8, .inl cD)), (h2, .inl (ta 0, 8, .inl cA)), (h3, .inl (ta 0, 8, .inl cB))] sz) := by
  refine opn_L (bytes := b_Cur_convert) (maxL := 5) (by decide +kernel) rfl (Nat.le_of_ble_eq_true rfl) ?_
  intro p e s m below meth c A ls hx hb hr hml hown hlocks hnm hw hK hN hP hD hA hS hl
  have hl : lv_has ls 5 [(0, .ref h0), (1, .long x), (3, .int day)] := hl
  refine lv_aload_n hx hb d_Cur_convert_0 rfl (lv_at hl 0 rfl) ?_
  refine lv_iload_n hx hb d_Cur_convert_1 rfl (lv_at hl 2 rfl) ?_
  refine kV_i (rest := []) (As := [.int day]) (w2 := [(h0, .inr (0, [.ref h1, .ref h2, .ref h3, .int cn])), (h1, .inl (ta 0, 8, .inl cD)), (h2, .inl (ta 0, 8, .inl cA)), (h3, .inl (ta 0, 8, .inl cB))]) (q0 := 0) (ci := 0) ⟨hx, hb, hml, hown, hw⟩ (c_Cur_rowAt l D ta h0 h1 h2 h3 cD cA cB cn day) W3_126 W3_128 WP_13 W1_6 W3_129 rfl rfl rfl hd_Cur_rowAt ⟨Nat.le_of_ble_eq_true rfl, Nat.le_of_ble_eq_true rfl⟩ hK hN hP hD hS hA (Spl.lit [0, 1, 2, 3] [] [0, 1, 2, 3] rfl (by decide) rfl (by decide) (by decide) rfl (by decide)) rfl rfl rfl rfl hl.1 rfl (Nat.le_of_ble_eq_true rfl) ⟨Nat.zero_le _, Nat.zero_le _⟩ d_Cur_convert_2 (fun H locs hP hD hS => ?_)
  refine lv_istore (lv' := [(4, .int (cuR cD cn day 8 (-1))), (0, .ref h0), (1, .long x), (3, .int day)]) hx hb d_Cur_convert_5 hl (by decide) rfl (fun ls hl => ?_)
  refine lv_iload hx hb d_Cur_convert_7 (lv_at hl 0 rfl) ?_
  refine lv_bipush (v := 8) hx hb d_Cur_convert_9 (by decide) ?_
  refine kT_i (rest := []) (As := [.int (cuR cD cn day 8 (-1)), .int 8]) (w2 := [(h0, .inr (0, [.ref h1, .ref h2, .ref h3, .int cn])), (h1, .inl (ta 0, 8, .inl cD)), (h2, .inl (ta 0, 8, .inl cA)), (h3, .inl (ta 0, 8, .inl cB))]) ⟨hx, hb, hml, hown, hw⟩ (c_Pri_isIndex l D ta (cuR cD cn day 8 (-1)) 8) (hN.get 23 rfl) W1_230 W1_1 W1_231 rfl rfl rfl hd_Pri_isIndex ⟨Nat.le_of_ble_eq_true rfl, Nat.le_of_ble_eq_true rfl⟩ hK hN hP hD hS hA Spl.none rfl hl.1 rfl (Nat.le_of_ble_eq_true rfl) ⟨Nat.zero_le _, Nat.zero_le _⟩ d_Cur_convert_11 (fun H locs hP hD hS => ?_)
  refine lb_eq (tgt := 28) hx hb d_Cur_convert_14 (by decide) (fun c_1 => ?_) (fun c_1 => ?_)
  · refine lv_lload_n hx hb d_Cur_convert_28 rfl (lv_at hl 2 rfl) ?_
    exact fin_l hx hb hr hlocks hK hP hD hS d_Cur_convert_29 (by simp only [cuC, c_1, decide_true, decide_false, Bool.not_true, Bool.not_false, Bool.and_true, Bool.true_and, Bool.and_false, Bool.false_and, Bool.or_true, Bool.true_or, Bool.or_false, Bool.false_or, if_true, if_false, reduceIte, Bool.false_eq_true, b2i]) rfl
  · refine lv_aload_n hx hb d_Cur_convert_17 rfl (lv_at hl 1 rfl) ?_
    refine va_get (D := D) (ci := 0) (v := .ref h3) (C := "PriceLines$Currencies") (T := F_Cur) (N := 4) hx hb hw in_Cur hown hK hP 0 rfl rfl 2 (by decide) (hw _ W1_114) (fun _ h9 => h9) rfl d_Cur_convert_18 ?_
    refine lv_iload hx hb d_Cur_convert_21 (lv_at hl 0 rfl) ?_
    have h_2 : vp_in (cuR cD cn day 8 (-1)) 8 := (ix_in (n := 8) (by assumption) (by decide))
    refine va_iald hx hb hK hP 3 0 rfl rfl h_2 d_Cur_convert_23 ?_
    refine lv_iconst (v := 1) hx hb d_Cur_convert_24 (by decide) ?_
    refine lv_icmp_ge (tgt := 30) hx hb d_Cur_convert_25 (by decide) (fun c_3 => ?_) (fun c_3 => ?_)
    · refine lv_lload_n hx hb d_Cur_convert_30 rfl (lv_at hl 2 rfl) ?_
      refine lv_aload_n hx hb d_Cur_convert_31 rfl (lv_at hl 1 rfl) ?_
      refine va_get (D := D) (ci := 0) (v := .ref h2) (C := "PriceLines$Currencies") (T := F_Cur) (N := 4) hx hb hw in_Cur hown hK hP 0 rfl rfl 1 (by decide) (hw _ W1_113) (fun _ h9 => h9) rfl d_Cur_convert_32 ?_
      refine lv_iload hx hb d_Cur_convert_35 (lv_at hl 0 rfl) ?_
      have h_4 : vp_in (cuR cD cn day 8 (-1)) 8 := (ix_in (n := 8) (by assumption) (by decide))
      refine va_iald hx hb hK hP 2 0 rfl rfl h_4 d_Cur_convert_37 ?_
      refine lv_i2l (v := (cA (cuR cD cn day 8 (-1)).toNatClampNeg).toInt64) hx hb d_Cur_convert_38 rfl ?_
      refine lv_lmul hx hb d_Cur_convert_39 ?_
      refine lv_aload_n hx hb d_Cur_convert_40 rfl (lv_at hl 1 rfl) ?_
      refine va_get (D := D) (ci := 0) (v := .ref h3) (C := "PriceLines$Currencies") (T := F_Cur) (N := 4) hx hb hw in_Cur hown hK hP 0 rfl rfl 2 (by decide) (hw _ W1_114) (fun _ h9 => h9) rfl d_Cur_convert_41 ?_
      refine lv_iload hx hb d_Cur_convert_44 (lv_at hl 0 rfl) ?_
      have h_5 : vp_in (cuR cD cn day 8 (-1)) 8 := (ix_in (n := 8) (by assumption) (by decide))
      refine va_iald hx hb hK hP 3 0 rfl rfl h_5 d_Cur_convert_46 ?_
      refine lv_i2l (v := (cB (cuR cD cn day 8 (-1)).toNatClampNeg).toInt64) hx hb d_Cur_convert_47 rfl ?_
      refine kS_l (rest := []) (As := [.long (x * (cA (cuR cD cn day 8 (-1)).toNatClampNeg).toInt64), .long (cB (cuR cD cn day 8 (-1)).toNatClampNeg).toInt64]) (w2 := [(h0, .inr (0, [.ref h1, .ref h2, .ref h3, .int cn])), (h1, .inl (ta 0, 8, .inl cD)), (h2, .inl (ta 0, 8, .inl cA)), (h3, .inl (ta 0, 8, .inl cB))]) ⟨hx, hb, hml, hown, hw⟩ (c_Mat_floorDiv l D ta (x * (cA (cuR cD cn day 8 (-1)).toNatClampNeg).toInt64) ((cB (cuR cD cn day 8 (-1)).toNatClampNeg).toInt64) (ne0_i1 (by assumption))) W3_130 W2_130 W1_17 W2_131 rfl rfl rfl hd_Mat_floorDiv ⟨Nat.le_of_ble_eq_true rfl, Nat.le_of_ble_eq_true rfl⟩ hK hN hP hD hS hA Spl.none rfl hl.1 rfl (Nat.le_of_ble_eq_true rfl) ⟨Nat.zero_le _, Nat.zero_le _⟩ d_Cur_convert_48 (fun H locs hP hD hS => ?_)
      exact fin_l hx hb hr hlocks hK hP hD hS d_Cur_convert_51 (by simp only [cuC, c_1, c_3, decide_true, decide_false, Bool.not_true, Bool.not_false, Bool.and_true, Bool.true_and, Bool.and_false, Bool.false_and, Bool.or_true, Bool.true_or, Bool.or_false, Bool.false_or, if_true, if_false, reduceIte, Bool.false_eq_true, b2i]) rfl
    · refine lv_lload_n hx hb d_Cur_convert_28 rfl (lv_at hl 2 rfl) ?_
      exact fin_l hx hb hr hlocks hK hP hD hS d_Cur_convert_29 (by simp only [cuC, c_1, c_3, decide_true, decide_false, Bool.not_true, Bool.not_false, Bool.and_true, Bool.true_and, Bool.and_false, Bool.false_and, Bool.or_true, Bool.true_or, Bool.or_false, Bool.false_or, if_true, if_false, reduceIte, Bool.false_eq_true, b2i]) rfl
