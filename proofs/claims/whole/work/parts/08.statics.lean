/-! what the small statics answer -/
def isFL (c : Int32) : Bool := !decide (c < 97) && (!decide (122 < c) && !decide (c = 114))
def isRt (n : Int32) : Bool := !decide (n < 1) && !decide (1000 < n)
def rsU (z : Bool) : Int32 := if z then 0 else 3
def ixU (f : Nat → Int32) (n k x : Int32) : Nat → Int32 := if isIx k n = true then upd f k.toNatClampNeg x else f
def ixG (f : Nat → Int32) (n k : Int32) : Int32 := if isIx k n = true then f k.toNatClampNeg else 0
def ixUL (f : Nat → Int64) (n k : Int32) (x : Int64) : Nat → Int64 := if isIx k n = true then vp_updL f k.toNatClampNeg x else f
def ixGL (f : Nat → Int64) (n k : Int32) : Int64 := if isIx k n = true then f k.toNatClampNeg else 0
def ixN (n k x y : Int32) : Int32 := if isIx k n = true then x else y
theorem hd_Pri_isIndex : y_Pri_isIndex.cls = "PriceLines" ∧ y_Pri_isIndex.cls ≠ "java/lang/invoke/MethodHandle" ∧ y_Pri_isIndex.cls ≠ "java/lang/invoke/VarHandle" ∧ (parseMethodDescriptor y_Pri_isIndex.desc).map (fun d => d.parameters.length) = some 2 := by decide +kernel
set_option maxHeartbeats 1000000 in
set_option maxRecDepth 100000 in
theorem c_Pri_isIndex (l : Launch) (D : va_G) (ta : Nat → ClassId) (k : Int32) (n : Int32) : ∀ sz, Met l y_Pri_isIndex w_Pri_isIndex { frames := 0, cells := 0, slots := 0, locals := 0 } (va_Pc [.int k, .int n] (pW D ta [] sz)) (eI D ta (va_A [] sz) (b2i (isIx k n)) []) 0 0 (va_A [] sz) := by
  refine opn_Z (bytes := b_Pri_isIndex) (maxL := 2) (by decide +kernel) rfl (Nat.le_of_ble_eq_true rfl) ?_
  intro p e s m below meth c A ls hx hb hr hml hown hlocks hnm hw hK hN hP hD hA hS hl
  have hl : lv_has ls 2 [(0, .int k), (1, .int n)] := hl
  refine lv_iload_n hx hb d_Pri_isIndex_0 rfl (lv_at hl 0 rfl) ?_
  refine lv_if_lt (tgt := 13) hx hb d_Pri_isIndex_1 (by decide) (fun c_1 => ?_) (fun c_1 => ?_)
  · refine lv_iconst (v := 0) hx hb d_Pri_isIndex_13 (by decide) ?_
    exact fin_z hx hb hr hlocks hK hP hD hS d_Pri_isIndex_14 rfl (by simp only [isIx, c_1, decide_true, decide_false, Bool.not_true, Bool.not_false, Bool.and_true, Bool.true_and, Bool.and_false, Bool.false_and, Bool.or_true, Bool.true_or, Bool.or_false, Bool.false_or, if_true, if_false, reduceIte, Bool.false_eq_true, b2i]) rfl
  · refine lv_iload_n hx hb d_Pri_isIndex_4 rfl (lv_at hl 0 rfl) ?_
    refine lv_iload_n hx hb d_Pri_isIndex_5 rfl (lv_at hl 1 rfl) ?_
    refine lv_icmp_ge (tgt := 13) hx hb d_Pri_isIndex_6 (by decide) (fun c_2 => ?_) (fun c_2 => ?_)
    · refine lv_iconst (v := 0) hx hb d_Pri_isIndex_13 (by decide) ?_
      exact fin_z hx hb hr hlocks hK hP hD hS d_Pri_isIndex_14 rfl (by simp only [isIx, c_1, c_2, decide_true, decide_false, Bool.not_true, Bool.not_false, Bool.and_true, Bool.true_and, Bool.and_false, Bool.false_and, Bool.or_true, Bool.true_or, Bool.or_false, Bool.false_or, if_true, if_false, reduceIte, Bool.false_eq_true, b2i]) rfl
    · refine lv_iconst (v := 1) hx hb d_Pri_isIndex_9 (by decide) ?_
      refine lv_goto (tgt := 14) hx hb d_Pri_isIndex_10 (by decide) ?_
      exact fin_z hx hb hr hlocks hK hP hD hS d_Pri_isIndex_14 rfl (by simp only [isIx, c_1, c_2, decide_true, decide_false, Bool.not_true, Bool.not_false, Bool.and_true, Bool.true_and, Bool.and_false, Bool.false_and, Bool.or_true, Bool.true_or, Bool.or_false, Bool.false_or, if_true, if_false, reduceIte, Bool.false_eq_true, b2i]) rfl
theorem hd_Pri_isFactLetter : y_Pri_isFactLetter.cls = "PriceLines" ∧ y_Pri_isFactLetter.cls ≠ "java/lang/invoke/MethodHandle" ∧ y_Pri_isFactLetter.cls ≠ "java/lang/invoke/VarHandle" ∧ (parseMethodDescriptor y_Pri_isFactLetter.desc).map (fun d => d.parameters.length) = some 1 := by decide +kernel
set_option maxHeartbeats 1000000 in
set_option maxRecDepth 100000 in
theorem c_Pri_isFactLetter (l : Launch) (D : va_G) (ta : Nat → ClassId) (k : Int32) : ∀ sz, Met l y_Pri_isFactLetter w_Pri_isFactLetter { frames := 0, cells := 0, slots := 0, locals := 0 } (va_Pc [.int k] (pW D ta [] sz)) (eI D ta (va_A [] sz) (b2i (isFL k)) []) 0 0 (va_A [] sz) := by
  refine opn_Z (bytes := b_Pri_isFactLetter) (maxL := 1) (by decide +kernel) rfl (Nat.le_of_ble_eq_true rfl) ?_
  intro p e s m below meth c A ls hx hb hr hml hown hlocks hnm hw hK hN hP hD hA hS hl
  have hl : lv_has ls 1 [(0, .int k)] := hl
  refine lv_iload_n hx hb d_Pri_isFactLetter_0 rfl (lv_at hl 0 rfl) ?_
  refine lv_bipush (v := 97) hx hb d_Pri_isFactLetter_1 (by decide) ?_
  refine lv_icmp_lt (tgt := 22) hx hb d_Pri_isFactLetter_3 (by decide) (fun c_1 => ?_) (fun c_1 => ?_)
  · refine lv_iconst (v := 0) hx hb d_Pri_isFactLetter_22 (by decide) ?_
    exact fin_z hx hb hr hlocks hK hP hD hS d_Pri_isFactLetter_23 rfl (by simp only [isFL, c_1, decide_true, decide_false, Bool.not_true, Bool.not_false, Bool.and_true, Bool.true_and, Bool.and_false, Bool.false_and, Bool.or_true, Bool.true_or, Bool.or_false, Bool.false_or, if_true, if_false, reduceIte, Bool.false_eq_true, b2i]) rfl
  · refine lv_iload_n hx hb d_Pri_isFactLetter_6 rfl (lv_at hl 0 rfl) ?_
    refine lv_bipush (v := 122) hx hb d_Pri_isFactLetter_7 (by decide) ?_
    refine lv_icmp_gt (tgt := 22) hx hb d_Pri_isFactLetter_9 (by decide) (fun c_2 => ?_) (fun c_2 => ?_)
    · refine lv_iconst (v := 0) hx hb d_Pri_isFactLetter_22 (by decide) ?_
      exact fin_z hx hb hr hlocks hK hP hD hS d_Pri_isFactLetter_23 rfl (by simp only [isFL, c_1, c_2, decide_true, decide_false, Bool.not_true, Bool.not_false, Bool.and_true, Bool.true_and, Bool.and_false, Bool.false_and, Bool.or_true, Bool.true_or, Bool.or_false, Bool.false_or, if_true, if_false, reduceIte, Bool.false_eq_true, b2i]) rfl
    · refine lv_iload_n hx hb d_Pri_isFactLetter_12 rfl (lv_at hl 0 rfl) ?_
      refine lv_bipush (v := 114) hx hb d_Pri_isFactLetter_13 (by decide) ?_
      refine lv_icmp_eq (tgt := 22) hx hb d_Pri_isFactLetter_15 (by decide) (fun c_3 => ?_) (fun c_3 => ?_)
      · refine lv_iconst (v := 0) hx hb d_Pri_isFactLetter_22 (by decide) ?_
        exact fin_z hx hb hr hlocks hK hP hD hS d_Pri_isFactLetter_23 rfl (by simp only [isFL, c_1, c_2, eq_true c_3, decide_true, decide_false, Bool.not_true, Bool.not_false, Bool.and_true, Bool.true_and, Bool.and_false, Bool.false_and, Bool.or_true, Bool.true_or, Bool.or_false, Bool.false_or, if_true, if_false, reduceIte, Bool.false_eq_true, b2i]) rfl
      · refine lv_iconst (v := 1) hx hb d_Pri_isFactLetter_18 (by decide) ?_
        refine lv_goto (tgt := 23) hx hb d_Pri_isFactLetter_19 (by decide) ?_
        exact fin_z hx hb hr hlocks hK hP hD hS d_Pri_isFactLetter_23 rfl (by simp only [isFL, c_1, c_2, c_3, decide_true, decide_false, Bool.not_true, Bool.not_false, Bool.and_true, Bool.true_and, Bool.and_false, Bool.false_and, Bool.or_true, Bool.true_or, Bool.or_false, Bool.false_or, if_true, if_false, reduceIte, Bool.false_eq_true, b2i]) rfl
theorem hd_Pri_isRate : y_Pri_isRate.cls = "PriceLines" ∧ y_Pri_isRate.cls ≠ "java/lang/invoke/MethodHandle" ∧ y_Pri_isRate.cls ≠ "java/lang/invoke/VarHandle" ∧ (parseMethodDescriptor y_Pri_isRate.desc).map (fun d => d.parameters.length) = some 1 := by decide +kernel
set_option maxHeartbeats 1000000 in
set_option maxRecDepth 100000 in
theorem c_Pri_isRate (l : Launch) (D : va_G) (ta : Nat → ClassId) (k : Int32) : ∀ sz, Met l y_Pri_isRate w_Pri_isRate { frames := 0, cells := 0, slots := 0, locals := 0 } (va_Pc [.int k] (pW D ta [] sz)) (eI D ta (va_A [] sz) (b2i (isRt k)) []) 0 0 (va_A [] sz) := by
  refine opn_Z (bytes := b_Pri_isRate) (maxL := 1) (by decide +kernel) rfl (Nat.le_of_ble_eq_true rfl) ?_
  intro p e s m below meth c A ls hx hb hr hml hown hlocks hnm hw hK hN hP hD hA hS hl
  have hl : lv_has ls 1 [(0, .int k)] := hl
  refine lv_iload_n hx hb d_Pri_isRate_0 rfl (lv_at hl 0 rfl) ?_
  refine lv_iconst (v := 1) hx hb d_Pri_isRate_1 (by decide) ?_
  refine lv_icmp_lt (tgt := 16) hx hb d_Pri_isRate_2 (by decide) (fun c_1 => ?_) (fun c_1 => ?_)
  · refine lv_iconst (v := 0) hx hb d_Pri_isRate_16 (by decide) ?_
    exact fin_z hx hb hr hlocks hK hP hD hS d_Pri_isRate_17 rfl (by simp only [isRt, c_1, decide_true, decide_false, Bool.not_true, Bool.not_false, Bool.and_true, Bool.true_and, Bool.and_false, Bool.false_and, Bool.or_true, Bool.true_or, Bool.or_false, Bool.false_or, if_true, if_false, reduceIte, Bool.false_eq_true, b2i]) rfl
  · refine lv_iload_n hx hb d_Pri_isRate_5 rfl (lv_at hl 0 rfl) ?_
    refine lv_sipush (v := 1000) hx hb d_Pri_isRate_6 (by decide) ?_
    refine lv_icmp_gt (tgt := 16) hx hb d_Pri_isRate_9 (by decide) (fun c_2 => ?_) (fun c_2 => ?_)
    · refine lv_iconst (v := 0) hx hb d_Pri_isRate_16 (by decide) ?_
      exact fin_z hx hb hr hlocks hK hP hD hS d_Pri_isRate_17 rfl (by simp only [isRt, c_1, c_2, decide_true, decide_false, Bool.not_true, Bool.not_false, Bool.and_true, Bool.true_and, Bool.and_false, Bool.false_and, Bool.or_true, Bool.true_or, Bool.or_false, Bool.false_or, if_true, if_false, reduceIte, Bool.false_eq_true, b2i]) rfl
    · refine lv_iconst (v := 1) hx hb d_Pri_isRate_12 (by decide) ?_
      refine lv_goto (tgt := 17) hx hb d_Pri_isRate_13 (by decide) ?_
      exact fin_z hx hb hr hlocks hK hP hD hS d_Pri_isRate_17 rfl (by simp only [isRt, c_1, c_2, decide_true, decide_false, Bool.not_true, Bool.not_false, Bool.and_true, Bool.true_and, Bool.and_false, Bool.false_and, Bool.or_true, Bool.true_or, Bool.or_false, Bool.false_or, if_true, if_false, reduceIte, Bool.false_eq_true, b2i]) rfl
theorem hd_Rec_reasonUnless : y_Rec_reasonUnless.cls = "PriceLines$Reckoning" ∧ y_Rec_reasonUnless.cls ≠ "java/lang/invoke/MethodHandle" ∧ y_Rec_reasonUnless.cls ≠ "java/lang/invoke/VarHandle" ∧ (parseMethodDescriptor y_Rec_reasonUnless.desc).map (fun d => d.parameters.length) = some 1 := by decide +kernel
set_option maxHeartbeats 1000000 in
set_option maxRecDepth 100000 in
theorem c_Rec_reasonUnless (l : Launch) (D : va_G) (ta : Nat → ClassId) (z : Bool) : ∀ sz, Met l y_Rec_reasonUnless w_Rec_reasonUnless { frames := 0, cells := 0, slots := 0, locals := 0 } (va_Pc [.int (b2i z)] (pW D ta [] sz)) (eI D ta (va_A [] sz) (rsU z) []) 0 0 (va_A [] sz) := by
  refine opn_I (bytes := b_Rec_reasonUnless) (maxL := 1) (by decide +kernel) rfl (Nat.le_of_ble_eq_true rfl) ?_
  intro p e s m below meth c A ls hx hb hr hml hown hlocks hnm hw hK hN hP hD hA hS hl
  have hl : lv_has ls 1 [(0, .int (b2i z))] := hl
  refine lv_iload_n hx hb d_Rec_reasonUnless_0 rfl (lv_at hl 0 rfl) ?_
  refine lb_eq (tgt := 8) hx hb d_Rec_reasonUnless_1 (by decide) (fun c_1 => ?_) (fun c_1 => ?_)
  · refine lv_iconst (v := 3) hx hb d_Rec_reasonUnless_8 (by decide) ?_
    exact fin_i hx hb hr hlocks hK hP hD hS d_Rec_reasonUnless_9 (by simp only [rsU, c_1, decide_true, decide_false, Bool.not_true, Bool.not_false, Bool.and_true, Bool.true_and, Bool.and_false, Bool.false_and, Bool.or_true, Bool.true_or, Bool.or_false, Bool.false_or, if_true, if_false, reduceIte, Bool.false_eq_true, b2i]) rfl
  · refine lv_iconst (v := 0) hx hb d_Rec_reasonUnless_4 (by decide) ?_
    refine lv_goto (tgt := 9) hx hb d_Rec_reasonUnless_5 (by decide) ?_
    exact fin_i hx hb hr hlocks hK hP hD hS d_Rec_reasonUnless_9 (by simp only [rsU, c_1, decide_true, decide_false, Bool.not_true, Bool.not_false, Bool.and_true, Bool.true_and, Bool.and_false, Bool.false_and, Bool.or_true, Bool.true_or, Bool.or_false, Bool.false_or, if_true, if_false, reduceIte, Bool.false_eq_true, b2i]) rfl
