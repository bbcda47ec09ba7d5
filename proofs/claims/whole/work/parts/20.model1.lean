/-! the model: its small functions -/
def isIn9 (v a b : Int64) : Bool := !decide (v < a) && !decide (b < v)
def isDg (c : Int32) : Bool := !decide (c < 48) && !decide (57 < c)
def isTw (c : Int32) : Bool := decide (c = 43) || (decide (c = 45) || (decide (c = 42) || (decide (c = 47) || (decide (c = 60) || decide (c = 62)))))
def isEd (c : Int32) : Bool := decide (c = 59) || (decide (c = 37) || decide (c = 61))
def szA (v : Int64) : Int64 := if 0 ≤ v then v else -v
def flM (a b : Int64) : Int64 := if 0 ≤ a - a / b * b then a / b else a / b - 1
def noF (c : Int32) : Bool := decide (c < 97) || (decide (122 < c) || decide (c = 114))
theorem hd_Mod_isIn : y_Mod_isIn.cls = "PriceLinesModel" ∧ y_Mod_isIn.cls ≠ "java/lang/invoke/MethodHandle" ∧ y_Mod_isIn.cls ≠ "java/lang/invoke/VarHandle" ∧ (parseMethodDescriptor y_Mod_isIn.desc).map (fun d => d.parameters.length) = some 3 := by decide +kernel
set_option maxHeartbeats 1000000 in
set_option maxRecDepth 100000 in
theorem c_Mod_isIn (l : Launch) (D : va_G) (ta : Nat → ClassId)  (v : Int64) (a : Int64) (b : Int64) : ∀ sz, Met l y_Mod_isIn w_Mod_isIn { frames := 0, cells := 0, slots := 0, locals := 0 } (va_Pc [.long v, .long a, .long b] (pW D ta [] sz)) (eI D ta (va_A [] sz) (b2i (isIn9 v a b)) []) 0 0 (va_A [] sz) := by
  refine opn_Z (bytes := b_Mod_isIn) (maxL := 6) (by decide +kernel) rfl (Nat.le_of_ble_eq_true rfl) ?_
  intro p e s m below meth c A ls hx hb hr hml hown hlocks hnm hw hK hN hP hD hA hS hl
  have hl : lv_has ls 6 [(0, .long v), (2, .long a), (4, .long b)] := hl
  refine lv_lload_n hx hb d_Mod_isIn_0 rfl (lv_at hl 0 rfl) ?_
  refine lv_lload_n hx hb d_Mod_isIn_1 rfl (lv_at hl 1 rfl) ?_
  refine lc_lt (tgt := 17) hx hb d_Mod_isIn_2 d_Mod_isIn_3 (by decide) (fun c_1 => ?_) (fun c_1 => ?_)
  · refine lv_iconst (v := 0) hx hb d_Mod_isIn_17 (by decide) ?_
    exact fin_z hx hb hr hlocks hK hP hD hS d_Mod_isIn_18 rfl (by simp only [isIn9, c_1, decide_true, decide_false, Bool.not_true, Bool.not_false, Bool.and_true, Bool.true_and, Bool.and_false, Bool.false_and, Bool.or_true, Bool.true_or, Bool.or_false, Bool.false_or, if_true, if_false, reduceIte, Bool.false_eq_true, b2i]) rfl
  · refine lv_lload_n hx hb d_Mod_isIn_6 rfl (lv_at hl 0 rfl) ?_
    refine lv_lload hx hb d_Mod_isIn_7 (lv_at hl 2 rfl) ?_
    refine lc_gt (tgt := 17) hx hb d_Mod_isIn_9 d_Mod_isIn_10 (by decide) (fun c_2 => ?_) (fun c_2 => ?_)
    · refine lv_iconst (v := 0) hx hb d_Mod_isIn_17 (by decide) ?_
      exact fin_z hx hb hr hlocks hK hP hD hS d_Mod_isIn_18 rfl (by simp only [isIn9, c_1, c_2, decide_true, decide_false, Bool.not_true, Bool.not_false, Bool.and_true, Bool.true_and, Bool.and_false, Bool.false_and, Bool.or_true, Bool.true_or, Bool.or_false, Bool.false_or, if_true, if_false, reduceIte, Bool.false_eq_true, b2i]) rfl
    · refine lv_iconst (v := 1) hx hb d_Mod_isIn_13 (by decide) ?_
      refine lv_goto (tgt := 18) hx hb d_Mod_isIn_14 (by decide) ?_
      exact fin_z hx hb hr hlocks hK hP hD hS d_Mod_isIn_18 rfl (by simp only [isIn9, c_1, c_2, decide_true, decide_false, Bool.not_true, Bool.not_false, Bool.and_true, Bool.true_and, Bool.and_false, Bool.false_and, Bool.or_true, Bool.true_or, Bool.or_false, Bool.false_or, if_true, if_false, reduceIte, Bool.false_eq_true, b2i]) rfl
theorem hd_Mod_isDigit : y_Mod_isDigit.cls = "PriceLinesModel" ∧ y_Mod_isDigit.cls ≠ "java/lang/invoke/MethodHandle" ∧ y_Mod_isDigit.cls ≠ "java/lang/invoke/VarHandle" ∧ (parseMethodDescriptor y_Mod_isDigit.desc).map (fun d => d.parameters.length) = some 1 := by decide +kernel
set_option maxHeartbeats 1000000 in
set_option maxRecDepth 100000 in
theorem c_Mod_isDigit (l : Launch) (D : va_G) (ta : Nat → ClassId)  (ch : Int32) : ∀ sz, Met l y_Mod_isDigit w_Mod_isDigit { frames := 0, cells := 0, slots := 0, locals := 0 } (va_Pc [.int ch] (pW D ta [] sz)) (eI D ta (va_A [] sz) (b2i (isDg ch)) []) 0 0 (va_A [] sz) := by
  refine opn_Z (bytes := b_Mod_isDigit) (maxL := 1) (by decide +kernel) rfl (Nat.le_of_ble_eq_true rfl) ?_
  intro p e s m below meth c A ls hx hb hr hml hown hlocks hnm hw hK hN hP hD hA hS hl
  have hl : lv_has ls 1 [(0, .int ch)] := hl
  refine lv_iload_n hx hb d_Mod_isDigit_0 rfl (lv_at hl 0 rfl) ?_
  refine lv_bipush (v := 48) hx hb d_Mod_isDigit_1 (by decide) ?_
  refine lv_icmp_lt (tgt := 16) hx hb d_Mod_isDigit_3 (by decide) (fun c_1 => ?_) (fun c_1 => ?_)
  · refine lv_iconst (v := 0) hx hb d_Mod_isDigit_16 (by decide) ?_
    exact fin_z hx hb hr hlocks hK hP hD hS d_Mod_isDigit_17 rfl (by simp only [isDg, c_1, decide_true, decide_false, Bool.not_true, Bool.not_false, Bool.and_true, Bool.true_and, Bool.and_false, Bool.false_and, Bool.or_true, Bool.true_or, Bool.or_false, Bool.false_or, if_true, if_false, reduceIte, Bool.false_eq_true, b2i]) rfl
  · refine lv_iload_n hx hb d_Mod_isDigit_6 rfl (lv_at hl 0 rfl) ?_
    refine lv_bipush (v := 57) hx hb d_Mod_isDigit_7 (by decide) ?_
    refine lv_icmp_gt (tgt := 16) hx hb d_Mod_isDigit_9 (by decide) (fun c_2 => ?_) (fun c_2 => ?_)
    · refine lv_iconst (v := 0) hx hb d_Mod_isDigit_16 (by decide) ?_
      exact fin_z hx hb hr hlocks hK hP hD hS d_Mod_isDigit_17 rfl (by simp only [isDg, c_1, c_2, decide_true, decide_false, Bool.not_true, Bool.not_false, Bool.and_true, Bool.true_and, Bool.and_false, Bool.false_and, Bool.or_true, Bool.true_or, Bool.or_false, Bool.false_or, if_true, if_false, reduceIte, Bool.false_eq_true, b2i]) rfl
    · refine lv_iconst (v := 1) hx hb d_Mod_isDigit_12 (by decide) ?_
      refine lv_goto (tgt := 17) hx hb d_Mod_isDigit_13 (by decide) ?_
      exact fin_z hx hb hr hlocks hK hP hD hS d_Mod_isDigit_17 rfl (by simp only [isDg, c_1, c_2, decide_true, decide_false, Bool.not_true, Bool.not_false, Bool.and_true, Bool.true_and, Bool.and_false, Bool.false_and, Bool.or_true, Bool.true_or, Bool.or_false, Bool.false_or, if_true, if_false, reduceIte, Bool.false_eq_true, b2i]) rfl
theorem hd_Mod_isTwo : y_Mod_isTwo.cls = "PriceLinesModel" ∧ y_Mod_isTwo.cls ≠ "java/lang/invoke/MethodHandle" ∧ y_Mod_isTwo.cls ≠ "java/lang/invoke/VarHandle" ∧ (parseMethodDescriptor y_Mod_isTwo.desc).map (fun d => d.parameters.length) = some 1 := by decide +kernel
set_option maxHeartbeats 1000000 in
set_option maxRecDepth 100000 in
theorem c_Mod_isTwo (l : Launch) (D : va_G) (ta : Nat → ClassId)  (ch : Int32) : ∀ sz, Met l y_Mod_isTwo w_Mod_isTwo { frames := 0, cells := 0, slots := 0, locals := 0 } (va_Pc [.int ch] (pW D ta [] sz)) (eI D ta (va_A [] sz) (b2i (isTw ch)) []) 0 0 (va_A [] sz) := by
  refine opn_Z (bytes := b_Mod_isTwo) (maxL := 1) (by decide +kernel) rfl (Nat.le_of_ble_eq_true rfl) ?_
  intro p e s m below meth c A ls hx hb hr hml hown hlocks hnm hw hK hN hP hD hA hS hl
  have hl : lv_has ls 1 [(0, .int ch)] := hl
  refine lv_iload_n hx hb d_Mod_isTwo_0 rfl (lv_at hl 0 rfl) ?_
  refine lv_bipush (v := 43) hx hb d_Mod_isTwo_1 (by decide) ?_
  refine lv_icmp_eq (tgt := 36) hx hb d_Mod_isTwo_3 (by decide) (fun c_1 => ?_) (fun c_1 => ?_)
  · refine lv_iconst (v := 1) hx hb d_Mod_isTwo_36 (by decide) ?_
    refine lv_goto (tgt := 41) hx hb d_Mod_isTwo_37 (by decide) ?_
    exact fin_z hx hb hr hlocks hK hP hD hS d_Mod_isTwo_41 rfl (by simp only [isTw, eq_true c_1, decide_true, decide_false, Bool.not_true, Bool.not_false, Bool.and_true, Bool.true_and, Bool.and_false, Bool.false_and, Bool.or_true, Bool.true_or, Bool.or_false, Bool.false_or, if_true, if_false, reduceIte, Bool.false_eq_true, b2i]) rfl
  · refine lv_iload_n hx hb d_Mod_isTwo_6 rfl (lv_at hl 0 rfl) ?_
    refine lv_bipush (v := 45) hx hb d_Mod_isTwo_7 (by decide) ?_
    refine lv_icmp_eq (tgt := 36) hx hb d_Mod_isTwo_9 (by decide) (fun c_2 => ?_) (fun c_2 => ?_)
    · refine lv_iconst (v := 1) hx hb d_Mod_isTwo_36 (by decide) ?_
      refine lv_goto (tgt := 41) hx hb d_Mod_isTwo_37 (by decide) ?_
      exact fin_z hx hb hr hlocks hK hP hD hS d_Mod_isTwo_41 rfl (by simp only [isTw, c_1, eq_true c_2, decide_true, decide_false, Bool.not_true, Bool.not_false, Bool.and_true, Bool.true_and, Bool.and_false, Bool.false_and, Bool.or_true, Bool.true_or, Bool.or_false, Bool.false_or, if_true, if_false, reduceIte, Bool.false_eq_true, b2i]) rfl
    · refine lv_iload_n hx hb d_Mod_isTwo_12 rfl (lv_at hl 0 rfl) ?_
      refine lv_bipush (v := 42) hx hb d_Mod_isTwo_13 (by decide) ?_
      refine lv_icmp_eq (tgt := 36) hx hb d_Mod_isTwo_15 (by decide) (fun c_3 => ?_) (fun c_3 => ?_)
      · refine lv_iconst (v := 1) hx hb d_Mod_isTwo_36 (by decide) ?_
        refine lv_goto (tgt := 41) hx hb d_Mod_isTwo_37 (by decide) ?_
        exact fin_z hx hb hr hlocks hK hP hD hS d_Mod_isTwo_41 rfl (by simp only [isTw, c_1, c_2, eq_true c_3, decide_true, decide_false, Bool.not_true, Bool.not_false, Bool.and_true, Bool.true_and, Bool.and_false, Bool.false_and, Bool.or_true, Bool.true_or, Bool.or_false, Bool.false_or, if_true, if_false, reduceIte, Bool.false_eq_true, b2i]) rfl
      · refine lv_iload_n hx hb d_Mod_isTwo_18 rfl (lv_at hl 0 rfl) ?_
        refine lv_bipush (v := 47) hx hb d_Mod_isTwo_19 (by decide) ?_
        refine lv_icmp_eq (tgt := 36) hx hb d_Mod_isTwo_21 (by decide) (fun c_4 => ?_) (fun c_4 => ?_)
        · refine lv_iconst (v := 1) hx hb d_Mod_isTwo_36 (by decide) ?_
          refine lv_goto (tgt := 41) hx hb d_Mod_isTwo_37 (by decide) ?_
          exact fin_z hx hb hr hlocks hK hP hD hS d_Mod_isTwo_41 rfl (by simp only [isTw, c_1, c_2, c_3, eq_true c_4, decide_true, decide_false, Bool.not_true, Bool.not_false, Bool.and_true, Bool.true_and, Bool.and_false, Bool.false_and, Bool.or_true, Bool.true_or, Bool.or_false, Bool.false_or, if_true, if_false, reduceIte, Bool.false_eq_true, b2i]) rfl
        · refine lv_iload_n hx hb d_Mod_isTwo_24 rfl (lv_at hl 0 rfl) ?_
          refine lv_bipush (v := 60) hx hb d_Mod_isTwo_25 (by decide) ?_
          refine lv_icmp_eq (tgt := 36) hx hb d_Mod_isTwo_27 (by decide) (fun c_5 => ?_) (fun c_5 => ?_)
          · refine lv_iconst (v := 1) hx hb d_Mod_isTwo_36 (by decide) ?_
            refine lv_goto (tgt := 41) hx hb d_Mod_isTwo_37 (by decide) ?_
            exact fin_z hx hb hr hlocks hK hP hD hS d_Mod_isTwo_41 rfl (by simp only [isTw, c_1, c_2, c_3, c_4, eq_true c_5, decide_true, decide_false, Bool.not_true, Bool.not_false, Bool.and_true, Bool.true_and, Bool.and_false, Bool.false_and, Bool.or_true, Bool.true_or, Bool.or_false, Bool.false_or, if_true, if_false, reduceIte, Bool.false_eq_true, b2i]) rfl
          · refine lv_iload_n hx hb d_Mod_isTwo_30 rfl (lv_at hl 0 rfl) ?_
            refine lv_bipush (v := 62) hx hb d_Mod_isTwo_31 (by decide) ?_
            refine lv_icmp_ne (tgt := 40) hx hb d_Mod_isTwo_33 (by decide) (fun c_6 => ?_) (fun c_6 => ?_)
            · refine lv_iconst (v := 0) hx hb d_Mod_isTwo_40 (by decide) ?_
              exact fin_z hx hb hr hlocks hK hP hD hS d_Mod_isTwo_41 rfl (by simp only [isTw, c_1, c_2, c_3, c_4, c_5, c_6, decide_true, decide_false, Bool.not_true, Bool.not_false, Bool.and_true, Bool.true_and, Bool.and_false, Bool.false_and, Bool.or_true, Bool.true_or, Bool.or_false, Bool.false_or, if_true, if_false, reduceIte, Bool.false_eq_true, b2i]) rfl
            · refine lv_iconst (v := 1) hx hb d_Mod_isTwo_36 (by decide) ?_
              refine lv_goto (tgt := 41) hx hb d_Mod_isTwo_37 (by decide) ?_
              exact fin_z hx hb hr hlocks hK hP hD hS d_Mod_isTwo_41 rfl (by simp only [isTw, c_1, c_2, c_3, c_4, c_5, eq_true c_6, decide_true, decide_false, Bool.not_true, Bool.not_false, Bool.and_true, Bool.true_and, Bool.and_false, Bool.false_and, Bool.or_true, Bool.true_or, Bool.or_false, Bool.false_or, if_true, if_false, reduceIte, Bool.false_eq_true, b2i]) rfl
theorem hd_Mod_isEnd : y_Mod_isEnd.cls = "PriceLinesModel" ∧ y_Mod_isEnd.cls ≠ "java/lang/invoke/MethodHandle" ∧ y_Mod_isEnd.cls ≠ "java/lang/invoke/VarHandle" ∧ (parseMethodDescriptor y_Mod_isEnd.desc).map (fun d => d.parameters.length) = some 1 := by decide +kernel
set_option maxHeartbeats 1000000 in
set_option maxRecDepth 100000 in
theorem c_Mod_isEnd (l : Launch) (D : va_G) (ta : Nat → ClassId)  (ch : Int32) : ∀ sz, Met l y_Mod_isEnd w_Mod_isEnd { frames := 0, cells := 0, slots := 0, locals := 0 } (va_Pc [.int ch] (pW D ta [] sz)) (eI D ta (va_A [] sz) (b2i (isEd ch)) []) 0 0 (va_A [] sz) := by
  refine opn_Z (bytes := b_Mod_isEnd) (maxL := 1) (by decide +kernel) rfl (Nat.le_of_ble_eq_true rfl) ?_
  intro p e s m below meth c A ls hx hb hr hml hown hlocks hnm hw hK hN hP hD hA hS hl
  have hl : lv_has ls 1 [(0, .int ch)] := hl
  refine lv_iload_n hx hb d_Mod_isEnd_0 rfl (lv_at hl 0 rfl) ?_
  refine lv_bipush (v := 59) hx hb d_Mod_isEnd_1 (by decide) ?_
  refine lv_icmp_eq (tgt := 18) hx hb d_Mod_isEnd_3 (by decide) (fun c_1 => ?_) (fun c_1 => ?_)
  · refine lv_iconst (v := 1) hx hb d_Mod_isEnd_18 (by decide) ?_
    refine lv_goto (tgt := 23) hx hb d_Mod_isEnd_19 (by decide) ?_
    exact fin_z hx hb hr hlocks hK hP hD hS d_Mod_isEnd_23 rfl (by simp only [isEd, eq_true c_1, decide_true, decide_false, Bool.not_true, Bool.not_false, Bool.and_true, Bool.true_and, Bool.and_false, Bool.false_and, Bool.or_true, Bool.true_or, Bool.or_false, Bool.false_or, if_true, if_false, reduceIte, Bool.false_eq_true, b2i]) rfl
  · refine lv_iload_n hx hb d_Mod_isEnd_6 rfl (lv_at hl 0 rfl) ?_
    refine lv_bipush (v := 37) hx hb d_Mod_isEnd_7 (by decide) ?_
    refine lv_icmp_eq (tgt := 18) hx hb d_Mod_isEnd_9 (by decide) (fun c_2 => ?_) (fun c_2 => ?_)
    · refine lv_iconst (v := 1) hx hb d_Mod_isEnd_18 (by decide) ?_
      refine lv_goto (tgt := 23) hx hb d_Mod_isEnd_19 (by decide) ?_
      exact fin_z hx hb hr hlocks hK hP hD hS d_Mod_isEnd_23 rfl (by simp only [isEd, c_1, eq_true c_2, decide_true, decide_false, Bool.not_true, Bool.not_false, Bool.and_true, Bool.true_and, Bool.and_false, Bool.false_and, Bool.or_true, Bool.true_or, Bool.or_false, Bool.false_or, if_true, if_false, reduceIte, Bool.false_eq_true, b2i]) rfl
    · refine lv_iload_n hx hb d_Mod_isEnd_12 rfl (lv_at hl 0 rfl) ?_
      refine lv_bipush (v := 61) hx hb d_Mod_isEnd_13 (by decide) ?_
      refine lv_icmp_ne (tgt := 22) hx hb d_Mod_isEnd_15 (by decide) (fun c_3 => ?_) (fun c_3 => ?_)
      · refine lv_iconst (v := 0) hx hb d_Mod_isEnd_22 (by decide) ?_
        exact fin_z hx hb hr hlocks hK hP hD hS d_Mod_isEnd_23 rfl (by simp only [isEd, c_1, c_2, c_3, decide_true, decide_false, Bool.not_true, Bool.not_false, Bool.and_true, Bool.true_and, Bool.and_false, Bool.false_and, Bool.or_true, Bool.true_or, Bool.or_false, Bool.false_or, if_true, if_false, reduceIte, Bool.false_eq_true, b2i]) rfl
      · refine lv_iconst (v := 1) hx hb d_Mod_isEnd_18 (by decide) ?_
        refine lv_goto (tgt := 23) hx hb d_Mod_isEnd_19 (by decide) ?_
        exact fin_z hx hb hr hlocks hK hP hD hS d_Mod_isEnd_23 rfl (by simp only [isEd, c_1, c_2, eq_true c_3, decide_true, decide_false, Bool.not_true, Bool.not_false, Bool.and_true, Bool.true_and, Bool.and_false, Bool.false_and, Bool.or_true, Bool.true_or, Bool.or_false, Bool.false_or, if_true, if_false, reduceIte, Bool.false_eq_true, b2i]) rfl
theorem hd_Mod_size : y_Mod_size.cls = "PriceLinesModel" ∧ y_Mod_size.cls ≠ "java/lang/invoke/MethodHandle" ∧ y_Mod_size.cls ≠ "java/lang/invoke/VarHandle" ∧ (parseMethodDescriptor y_Mod_size.desc).map (fun d => d.parameters.length) = some 1 := by decide +kernel
set_option maxHeartbeats 1000000 in
set_option maxRecDepth 100000 in
theorem c_Mod_size (l : Launch) (D : va_G) (ta : Nat → ClassId)  (v : Int64) : ∀ sz, Met l y_Mod_size w_Mod_size { frames := 0, cells := 0, slots := 0, locals := 0 } (va_Pc [.long v] (pW D ta [] sz)) (eL D ta (va_A [] sz) (szA v) []) 0 0 (va_A [] sz) := by
  refine opn_L (bytes := b_Mod_size) (maxL := 2) (by decide +kernel) rfl (Nat.le_of_ble_eq_true rfl) ?_
  intro p e s m below meth c A ls hx hb hr hml hown hlocks hnm hw hK hN hP hD hA hS hl
  have hl : lv_has ls 2 [(0, .long v)] := hl
  refine lv_lload_n hx hb d_Mod_size_0 rfl (lv_at hl 0 rfl) ?_
  refine lv_lconst (v := 0) hx hb d_Mod_size_1 (by decide) ?_
  refine lc_ge (tgt := 11) hx hb d_Mod_size_2 d_Mod_size_3 (by decide) (fun c_1 => ?_) (fun c_1 => ?_)
  · refine lv_lload_n hx hb d_Mod_size_11 rfl (lv_at hl 0 rfl) ?_
    exact fin_l hx hb hr hlocks hK hP hD hS d_Mod_size_12 (by simp only [szA, c_1, decide_true, decide_false, Bool.not_true, Bool.not_false, Bool.and_true, Bool.true_and, Bool.and_false, Bool.false_and, Bool.or_true, Bool.true_or, Bool.or_false, Bool.false_or, if_true, if_false, reduceIte, Bool.false_eq_true, b2i]) rfl
  · refine lv_lload_n hx hb d_Mod_size_6 rfl (lv_at hl 0 rfl) ?_
    refine lv_lneg hx hb d_Mod_size_7 ?_
    refine lv_goto (tgt := 12) hx hb d_Mod_size_8 (by decide) ?_
    exact fin_l hx hb hr hlocks hK hP hD hS d_Mod_size_12 (by simp only [szA, c_1, decide_true, decide_false, Bool.not_true, Bool.not_false, Bool.and_true, Bool.true_and, Bool.and_false, Bool.false_and, Bool.or_true, Bool.true_or, Bool.or_false, Bool.false_or, if_true, if_false, reduceIte, Bool.false_eq_true, b2i]) rfl
theorem hd_Mod_noFact : y_Mod_noFact.cls = "PriceLinesModel" ∧ y_Mod_noFact.cls ≠ "java/lang/invoke/MethodHandle" ∧ y_Mod_noFact.cls ≠ "java/lang/invoke/VarHandle" ∧ (parseMethodDescriptor y_Mod_noFact.desc).map (fun d => d.parameters.length) = some 1 := by decide +kernel
set_option maxHeartbeats 1000000 in
set_option maxRecDepth 100000 in
theorem c_Mod_noFact (l : Launch) (D : va_G) (ta : Nat → ClassId)  (ch : Int32) : ∀ sz, Met l y_Mod_noFact w_Mod_noFact { frames := 0, cells := 0, slots := 0, locals := 0 } (va_Pc [.int ch] (pW D ta [] sz)) (eI D ta (va_A [] sz) (b2i (noF ch)) []) 0 0 (va_A [] sz) := by
  refine opn_Z (bytes := b_Mod_noFact) (maxL := 1) (by decide +kernel) rfl (Nat.le_of_ble_eq_true rfl) ?_
  intro p e s m below meth c A ls hx hb hr hml hown hlocks hnm hw hK hN hP hD hA hS hl
  have hl : lv_has ls 1 [(0, .int ch)] := hl
  refine lv_iload_n hx hb d_Mod_noFact_0 rfl (lv_at hl 0 rfl) ?_
  refine lv_bipush (v := 97) hx hb d_Mod_noFact_1 (by decide) ?_
  refine lv_icmp_lt (tgt := 18) hx hb d_Mod_noFact_3 (by decide) (fun c_1 => ?_) (fun c_1 => ?_)
  · refine lv_iconst (v := 1) hx hb d_Mod_noFact_18 (by decide) ?_
    refine lv_goto (tgt := 23) hx hb d_Mod_noFact_19 (by decide) ?_
    exact fin_z hx hb hr hlocks hK hP hD hS d_Mod_noFact_23 rfl (by simp only [noF, c_1, decide_true, decide_false, Bool.not_true, Bool.not_false, Bool.and_true, Bool.true_and, Bool.and_false, Bool.false_and, Bool.or_true, Bool.true_or, Bool.or_false, Bool.false_or, if_true, if_false, reduceIte, Bool.false_eq_true, b2i]) rfl
  · refine lv_iload_n hx hb d_Mod_noFact_6 rfl (lv_at hl 0 rfl) ?_
    refine lv_bipush (v := 122) hx hb d_Mod_noFact_7 (by decide) ?_
    refine lv_icmp_gt (tgt := 18) hx hb d_Mod_noFact_9 (by decide) (fun c_2 => ?_) (fun c_2 => ?_)
    · refine lv_iconst (v := 1) hx hb d_Mod_noFact_18 (by decide) ?_
      refine lv_goto (tgt := 23) hx hb d_Mod_noFact_19 (by decide) ?_
      exact fin_z hx hb hr hlocks hK hP hD hS d_Mod_noFact_23 rfl (by simp only [noF, c_1, c_2, decide_true, decide_false, Bool.not_true, Bool.not_false, Bool.and_true, Bool.true_and, Bool.and_false, Bool.false_and, Bool.or_true, Bool.true_or, Bool.or_false, Bool.false_or, if_true, if_false, reduceIte, Bool.false_eq_true, b2i]) rfl
    · refine lv_iload_n hx hb d_Mod_noFact_12 rfl (lv_at hl 0 rfl) ?_
      refine lv_bipush (v := 114) hx hb d_Mod_noFact_13 (by decide) ?_
      refine lv_icmp_ne (tgt := 22) hx hb d_Mod_noFact_15 (by decide) (fun c_3 => ?_) (fun c_3 => ?_)
      · refine lv_iconst (v := 0) hx hb d_Mod_noFact_22 (by decide) ?_
        exact fin_z hx hb hr hlocks hK hP hD hS d_Mod_noFact_23 rfl (by simp only [noF, c_1, c_2, c_3, decide_true, decide_false, Bool.not_true, Bool.not_false, Bool.and_true, Bool.true_and, Bool.and_false, Bool.false_and, Bool.or_true, Bool.true_or, Bool.or_false, Bool.false_or, if_true, if_false, reduceIte, Bool.false_eq_true, b2i]) rfl
      · refine lv_iconst (v := 1) hx hb d_Mod_noFact_18 (by decide) ?_
        refine lv_goto (tgt := 23) hx hb d_Mod_noFact_19 (by decide) ?_
        exact fin_z hx hb hr hlocks hK hP hD hS d_Mod_noFact_23 rfl (by simp only [noF, c_1, c_2, eq_true c_3, decide_true, decide_false, Bool.not_true, Bool.not_false, Bool.and_true, Bool.true_and, Bool.and_false, Bool.false_and, Bool.or_true, Bool.true_or, Bool.or_false, Bool.false_or, if_true, if_false, reduceIte, Bool.false_eq_true, b2i]) rfl
theorem hd_Mod_floor : y_Mod_floor.cls = "PriceLinesModel" ∧ y_Mod_floor.cls ≠ "java/lang/invoke/MethodHandle" ∧ y_Mod_floor.cls ≠ "java/lang/invoke/VarHandle" ∧ (parseMethodDescriptor y_Mod_floor.desc).map (fun d => d.parameters.length) = some 2 := by decide +kernel
set_option maxHeartbeats 1000000 in
set_option maxRecDepth 100000 in
theorem c_Mod_floor (l : Launch) (D : va_G) (ta : Nat → ClassId)  (a : Int64) (b : Int64) (hb0 : ¬ b = 0) : ∀ sz, Met l y_Mod_floor w_Mod_floor { frames := 0, cells := 0, slots := 0, locals := 0 } (va_Pc [.long a, .long b] (pW D ta [] sz)) (eL D ta (va_A [] sz) (flM a b) []) 0 0 (va_A [] sz) := by
  refine opn_L (bytes := b_Mod_floor) (maxL := 6) (by decide +kernel) rfl (Nat.le_of_ble_eq_true rfl) ?_
  intro p e s m below meth c A ls hx hb hr hml hown hlocks hnm hw hK hN hP hD hA hS hl
  have hl : lv_has ls 6 [(0, .long a), (2, .long b)] := hl
  refine lv_lload_n hx hb d_Mod_floor_0 rfl (lv_at hl 0 rfl) ?_
  refine lv_lload_n hx hb d_Mod_floor_1 rfl (lv_at hl 1 rfl) ?_
  have h_1 : ¬ b = 0 := (by assumption)
  refine lv_ldiv hx hb d_Mod_floor_2 h_1 ?_
  refine lv_lstore (lv' := [(4, .long (a / b)), (0, .long a), (2, .long b)]) hx hb d_Mod_floor_3 hl (by decide) rfl (fun ls hl => ?_)
  refine lv_lload_n hx hb d_Mod_floor_5 rfl (lv_at hl 1 rfl) ?_
  refine lv_lload_n hx hb d_Mod_floor_6 rfl (lv_at hl 2 rfl) ?_
  have h_2 : ¬ b = 0 := (by assumption)
  refine lv_lrem hx hb d_Mod_floor_7 h_2 ?_
  refine lv_lconst (v := 0) hx hb d_Mod_floor_8 (by decide) ?_
  refine lc_ge (tgt := 20) hx hb d_Mod_floor_9 d_Mod_floor_10 (by decide) (fun c_3 => ?_) (fun c_3 => ?_)
  · refine lv_lload hx hb d_Mod_floor_20 (lv_at hl 0 rfl) ?_
    exact fin_l hx hb hr hlocks hK hP hD hS d_Mod_floor_22 (by simp only [flM, c_3, decide_true, decide_false, Bool.not_true, Bool.not_false, Bool.and_true, Bool.true_and, Bool.and_false, Bool.false_and, Bool.or_true, Bool.true_or, Bool.or_false, Bool.false_or, if_true, if_false, reduceIte, Bool.false_eq_true, b2i]) rfl
  · refine lv_lload hx hb d_Mod_floor_13 (lv_at hl 0 rfl) ?_
    refine lv_lconst (v := 1) hx hb d_Mod_floor_15 (by decide) ?_
    refine lv_lsub hx hb d_Mod_floor_16 ?_
    refine lv_goto (tgt := 22) hx hb d_Mod_floor_17 (by decide) ?_
    exact fin_l hx hb hr hlocks hK hP hD hS d_Mod_floor_22 (by simp only [flM, c_3, decide_true, decide_false, Bool.not_true, Bool.not_false, Bool.and_true, Bool.true_and, Bool.and_false, Bool.false_and, Bool.or_true, Bool.true_or, Bool.or_false, Bool.false_or, if_true, if_false, reduceIte, Bool.false_eq_true, b2i]) rfl
def ffM (ch x y : Int32) : Int32 := if noF ch = true then 1 else if isIn9 y.toInt64 1 10000 = true then (if isIn9 x.toInt64 (-1000000) 1000000 = true then 0 else 2) else 2
def noO (k n : Int32) : Bool := decide (k < 0) || !decide (k < n)
theorem hd_Mod_factFault : y_Mod_factFault.cls = "PriceLinesModel" ∧ y_Mod_factFault.cls ≠ "java/lang/invoke/MethodHandle" ∧ y_Mod_factFault.cls ≠ "java/lang/invoke/VarHandle" ∧ (parseMethodDescriptor y_Mod_factFault.desc).map (fun d => d.parameters.length) = some 3 := by decide +kernel
set_option maxHeartbeats 1000000 in
set_option maxRecDepth 100000 in
theorem c_Mod_factFault (l : Launch) (D : va_G) (ta : Nat → ClassId) (m0 p_text p_signs p_begins p_draft p_draftBegins p_above p_below p_told p_tops p_bottoms p_addedTop p_addedBottom p_reasons p_places p_days p_rowAbove p_rowBelow p_offerCents p_untils p_lefts p_many p_sums : Nat) (x_thrown : Int32) (x_size : Int32) (x_lines : Int32) (x_high : Int32) (x_totalTop : Int64) (x_totalBottom : Int64) (x_reason : Int32) (x_top : Int64) (x_bottom : Int64) (x_rows : Int32) (x_offers : Int32) (x_invoices : Int32) (x_draftLines : Int32) (ch : Int32) (x : Int32) (y : Int32) : ∀ sz, Met l y_Mod_factFault w_Mod_factFault { frames := 1, cells := 0, slots := 0, locals := 25 } (va_Pc [.ref m0, .int ch, .int x, .int y] (pW D ta [(m0, .inr (10, [.int x_thrown, .ref p_text, .int x_size, .ref p_signs, .ref p_begins, .int x_lines, .ref p_draft, .ref p_draftBegins, .ref p_above, .ref p_below, .ref p_told, .ref p_tops, .ref p_bottoms, .int x_high, .long x_totalTop, .long x_totalBottom, .int x_reason, .ref p_addedTop, .ref p_addedBottom, .ref p_reasons, .ref p_places, .long x_top, .long x_bottom, .int x_rows, .ref p_days, .ref p_rowAbove, .ref p_rowBelow, .int x_offers, .ref p_offerCents, .ref p_untils, .int x_invoices, .ref p_lefts, .ref p_many, .ref p_sums, .int x_draftLines]))] sz)) (eI D ta (va_A [(m0, .inr (10, [.int x_thrown, .ref p_text, .int x_size, .ref p_signs, .ref p_begins, .int x_lines, .ref p_draft, .ref p_draftBegins, .ref p_above, .ref p_below, .ref p_told, .ref p_tops, .ref p_bottoms, .int x_high, .long x_totalTop, .long x_totalBottom, .int x_reason, .ref p_addedTop, .ref p_addedBottom, .ref p_reasons, .ref p_places, .long x_top, .long x_bottom, .int x_rows, .ref p_days, .ref p_rowAbove, .ref p_rowBelow, .int x_offers, .ref p_offerCents, .ref p_untils, .int x_invoices, .ref p_lefts, .ref p_many, .ref p_sums, .int x_draftLines]))] sz) (ffM ch x y) [(m0, .inr (10, [.int x_thrown, .ref p_text, .int x_size, .ref p_signs, .ref p_begins, .int x_lines, .ref p_draft, .ref p_draftBegins, .ref p_above, .ref p_below, .ref p_told, .ref p_tops, .ref p_bottoms, .int x_high, .long x_totalTop, .long x_totalBottom, .int x_reason, .ref p_addedTop, .ref p_addedBottom, .ref p_reasons, .ref p_places, .long x_top, .long x_bottom, .int x_rows, .ref p_days, .ref p_rowAbove, .ref p_rowBelow, .int x_offers, .ref p_offerCents, .ref p_untils, .int x_invoices, .ref p_lefts, .ref p_many, .ref p_sums, .int x_draftLines]))]) 0 0 (va_A [(m0, .inr (10, [.int x_thrown, .ref p_text, .int x_size, .ref p_signs, .ref p_begins, .int x_lines, .ref p_draft, .ref p_draftBegins, .ref p_above, .ref p_below, .ref p_told, .ref p_tops, .ref p_bottoms, .int x_high, .long x_totalTop, .long x_totalBottom, .int x_reason, .ref p_addedTop, .ref p_addedBottom, .ref p_reasons, .ref p_places, .long x_top, .long x_bottom, .int x_rows, .ref p_days, .ref p_rowAbove, .ref p_rowBelow, .int x_offers, .ref p_offerCents, .ref p_untils, .int x_invoices, .ref p_lefts, .ref p_many, .ref p_sums, .int x_draftLines]))] sz) := by
  refine opn_I (bytes := b_Mod_factFault) (maxL := 4) (by decide +kernel) rfl (Nat.le_of_ble_eq_true rfl) ?_
  intro p e s m below meth c A ls hx hb hr hml hown hlocks hnm hw hK hN hP hD hA hS hl
  have hl : lv_has ls 4 [(0, .ref m0), (1, .int ch), (2, .int x), (3, .int y)] := hl
  refine lv_iload_n hx hb d_Mod_factFault_0 rfl (lv_at hl 1 rfl) ?_
  refine kS_i (rest := []) (As := [.int ch]) (w2 := [(m0, .inr (10, [.int x_thrown, .ref p_text, .int x_size, .ref p_signs, .ref p_begins, .int x_lines, .ref p_draft, .ref p_draftBegins, .ref p_above, .ref p_below, .ref p_told, .ref p_tops, .ref p_bottoms, .int x_high, .long x_totalTop, .long x_totalBottom, .int x_reason, .ref p_addedTop, .ref p_addedBottom, .ref p_reasons, .ref p_places, .long x_top, .long x_bottom, .int x_rows, .ref p_days, .ref p_rowAbove, .ref p_rowBelow, .int x_offers, .ref p_offerCents, .ref p_untils, .int x_invoices, .ref p_lefts, .ref p_many, .ref p_sums, .int x_draftLines]))]) ⟨hx, hb, hml, hown, hw⟩ (c_Mod_noFact l D ta ch) W4_149 W4_150 W1_11 W4_151 rfl rfl rfl hd_Mod_noFact ⟨Nat.le_of_ble_eq_true rfl, Nat.le_of_ble_eq_true rfl⟩ hK hN hP hD hS hA Spl.none rfl hl.1 rfl (Nat.le_of_ble_eq_true rfl) ⟨Nat.zero_le _, Nat.zero_le _⟩ d_Mod_factFault_1 (fun H locs hP hD hS => ?_)
  refine lb_eq (tgt := 11) hx hb d_Mod_factFault_4 (by decide) (fun c_1 => ?_) (fun c_1 => ?_)
  · refine lv_iload_n hx hb d_Mod_factFault_11 rfl (lv_at hl 3 rfl) ?_
    refine lv_i2l (v := y.toInt64) hx hb d_Mod_factFault_12 rfl ?_
    refine lv_lconst (v := 1) hx hb d_Mod_factFault_13 (by decide) ?_
    refine lv_ldc2 (v := 10000) hx hb hown (hw _ W4_152) d_Mod_factFault_14 ?_
    refine kS_i (rest := []) (As := [.long y.toInt64, .long 1, .long 10000]) (w2 := [(m0, .inr (10, [.int x_thrown, .ref p_text, .int x_size, .ref p_signs, .ref p_begins, .int x_lines, .ref p_draft, .ref p_draftBegins, .ref p_above, .ref p_below, .ref p_told, .ref p_tops, .ref p_bottoms, .int x_high, .long x_totalTop, .long x_totalBottom, .int x_reason, .ref p_addedTop, .ref p_addedBottom, .ref p_reasons, .ref p_places, .long x_top, .long x_bottom, .int x_rows, .ref p_days, .ref p_rowAbove, .ref p_rowBelow, .int x_offers, .ref p_offerCents, .ref p_untils, .int x_invoices, .ref p_lefts, .ref p_many, .ref p_sums, .int x_draftLines]))]) ⟨hx, hb, hml, hown, hw⟩ (c_Mod_isIn l D ta y.toInt64 1 10000) W4_120 W4_121 W1_11 W4_122 rfl rfl rfl hd_Mod_isIn ⟨Nat.le_of_ble_eq_true rfl, Nat.le_of_ble_eq_true rfl⟩ hK hN hP hD hS hA Spl.none rfl hl.1 rfl (Nat.le_of_ble_eq_true rfl) ⟨Nat.zero_le _, Nat.zero_le _⟩ d_Mod_factFault_17 (fun H locs hP hD hS => ?_)
    refine lb_eq (tgt := 41) hx hb d_Mod_factFault_20 (by decide) (fun c_2 => ?_) (fun c_2 => ?_)
    · refine lv_iconst (v := 2) hx hb d_Mod_factFault_41 (by decide) ?_
      exact fin_i hx hb hr hlocks hK hP hD hS d_Mod_factFault_42 (by simp only [ffM, c_1, c_2, decide_true, decide_false, Bool.not_true, Bool.not_false, Bool.and_true, Bool.true_and, Bool.and_false, Bool.false_and, Bool.or_true, Bool.true_or, Bool.or_false, Bool.false_or, if_true, if_false, reduceIte, Bool.false_eq_true, b2i]) rfl
    · refine lv_iload_n hx hb d_Mod_factFault_23 rfl (lv_at hl 2 rfl) ?_
      refine lv_i2l (v := x.toInt64) hx hb d_Mod_factFault_24 rfl ?_
      refine lv_ldc2 (v := (-1000000)) hx hb hown (hw _ W4_153) d_Mod_factFault_25 ?_
      refine lv_ldc2 (v := 1000000) hx hb hown (hw _ W4_154) d_Mod_factFault_28 ?_
      refine kS_i (rest := []) (As := [.long x.toInt64, .long (-1000000), .long 1000000]) (w2 := [(m0, .inr (10, [.int x_thrown, .ref p_text, .int x_size, .ref p_signs, .ref p_begins, .int x_lines, .ref p_draft, .ref p_draftBegins, .ref p_above, .ref p_below, .ref p_told, .ref p_tops, .ref p_bottoms, .int x_high, .long x_totalTop, .long x_totalBottom, .int x_reason, .ref p_addedTop, .ref p_addedBottom, .ref p_reasons, .ref p_places, .long x_top, .long x_bottom, .int x_rows, .ref p_days, .ref p_rowAbove, .ref p_rowBelow, .int x_offers, .ref p_offerCents, .ref p_untils, .int x_invoices, .ref p_lefts, .ref p_many, .ref p_sums, .int x_draftLines]))]) ⟨hx, hb, hml, hown, hw⟩ (c_Mod_isIn l D ta x.toInt64 (-1000000) 1000000) W4_120 W4_121 W1_11 W4_122 rfl rfl rfl hd_Mod_isIn ⟨Nat.le_of_ble_eq_true rfl, Nat.le_of_ble_eq_true rfl⟩ hK hN hP hD hS hA Spl.none rfl hl.1 rfl (Nat.le_of_ble_eq_true rfl) ⟨Nat.zero_le _, Nat.zero_le _⟩ d_Mod_factFault_31 (fun H locs hP hD hS => ?_)
      refine lb_eq (tgt := 41) hx hb d_Mod_factFault_34 (by decide) (fun c_3 => ?_) (fun c_3 => ?_)
      · refine lv_iconst (v := 2) hx hb d_Mod_factFault_41 (by decide) ?_
        exact fin_i hx hb hr hlocks hK hP hD hS d_Mod_factFault_42 (by simp only [ffM, c_1, c_2, c_3, decide_true, decide_false, Bool.not_true, Bool.not_false, Bool.and_true, Bool.true_and, Bool.and_false, Bool.false_and, Bool.or_true, Bool.true_or, Bool.or_false, Bool.false_or, if_true, if_false, reduceIte, Bool.false_eq_true, b2i]) rfl
      · refine lv_iconst (v := 0) hx hb d_Mod_factFault_37 (by decide) ?_
        refine lv_goto (tgt := 42) hx hb d_Mod_factFault_38 (by decide) ?_
        exact fin_i hx hb hr hlocks hK hP hD hS d_Mod_factFault_42 (by simp only [ffM, c_1, c_2, c_3, decide_true, decide_false, Bool.not_true, Bool.not_false, Bool.and_true, Bool.true_and, Bool.and_false, Bool.false_and, Bool.or_true, Bool.true_or, Bool.or_false, Bool.false_or, if_true, if_false, reduceIte, Bool.false_eq_true, b2i]) rfl
  · refine lv_iconst (v := 1) hx hb d_Mod_factFault_7 (by decide) ?_
    refine lv_goto (tgt := 42) hx hb d_Mod_factFault_8 (by decide) ?_
    exact fin_i hx hb hr hlocks hK hP hD hS d_Mod_factFault_42 (by simp only [ffM, c_1, decide_true, decide_false, Bool.not_true, Bool.not_false, Bool.and_true, Bool.true_and, Bool.and_false, Bool.false_and, Bool.or_true, Bool.true_or, Bool.or_false, Bool.false_or, if_true, if_false, reduceIte, Bool.false_eq_true, b2i]) rfl
theorem hd_Mod_noOffer : y_Mod_noOffer.cls = "PriceLinesModel" ∧ y_Mod_noOffer.cls ≠ "java/lang/invoke/MethodHandle" ∧ y_Mod_noOffer.cls ≠ "java/lang/invoke/VarHandle" ∧ (parseMethodDescriptor y_Mod_noOffer.desc).map (fun d => d.parameters.length) = some 1 := by decide +kernel
set_option maxHeartbeats 1000000 in
set_option maxRecDepth 100000 in
theorem c_Mod_noOffer (l : Launch) (D : va_G) (ta : Nat → ClassId) (m0 p_text p_signs p_begins p_draft p_draftBegins p_above p_below p_told p_tops p_bottoms p_addedTop p_addedBottom p_reasons p_places p_days p_rowAbove p_rowBelow p_offerCents p_untils p_lefts p_many p_sums : Nat) (x_thrown : Int32) (x_size : Int32) (x_lines : Int32) (x_high : Int32) (x_totalTop : Int64) (x_totalBottom : Int64) (x_reason : Int32) (x_top : Int64) (x_bottom : Int64) (x_rows : Int32) (x_offers : Int32) (x_invoices : Int32) (x_draftLines : Int32) (k : Int32) : ∀ sz, Met l y_Mod_noOffer w_Mod_noOffer { frames := 0, cells := 0, slots := 0, locals := 0 } (va_Pc [.ref m0, .int k] (pW D ta [(m0, .inr (10, [.int x_thrown, .ref p_text, .int x_size, .ref p_signs, .ref p_begins, .int x_lines, .ref p_draft, .ref p_draftBegins, .ref p_above, .ref p_below, .ref p_told, .ref p_tops, .ref p_bottoms, .int x_high, .long x_totalTop, .long x_totalBottom, .int x_reason, .ref p_addedTop, .ref p_addedBottom, .ref p_reasons, .ref p_places, .long x_top, .long x_bottom, .int x_rows, .ref p_days, .ref p_rowAbove, .ref p_rowBelow, .int x_offers, .ref p_offerCents, .ref p_untils, .int x_invoices, .ref p_lefts, .ref p_many, .ref p_sums, .int x_draftLines]))] sz)) (eI D ta (va_A [(m0, .inr (10, [.int x_thrown, .ref p_text, .int x_size, .ref p_signs, .ref p_begins, .int x_lines, .ref p_draft, .ref p_draftBegins, .ref p_above, .ref p_below, .ref p_told, .ref p_tops, .ref p_bottoms, .int x_high, .long x_totalTop, .long x_totalBottom, .int x_reason, .ref p_addedTop, .ref p_addedBottom, .ref p_reasons, .ref p_places, .long x_top, .long x_bottom, .int x_rows, .ref p_days, .ref p_rowAbove, .ref p_rowBelow, .int x_offers, .ref p_offerCents, .ref p_untils, .int x_invoices, .ref p_lefts, .ref p_many, .ref p_sums, .int x_draftLines]))] sz) (b2i (noO k x_offers)) [(m0, .inr (10, [.int x_thrown, .ref p_text, .int x_size, .ref p_signs, .ref p_begins, .int x_lines, .ref p_draft, .ref p_draftBegins, .ref p_above, .ref p_below, .ref p_told, .ref p_tops, .ref p_bottoms, .int x_high, .long x_totalTop, .long x_totalBottom, .int x_reason, .ref p_addedTop, .ref p_addedBottom, .ref p_reasons, .ref p_places, .long x_top, .long x_bottom, .int x_rows, .ref p_days, .ref p_rowAbove, .ref p_rowBelow, .int x_offers, .ref p_offerCents, .ref p_untils, .int x_invoices, .ref p_lefts, .ref p_many, .ref p_sums, .int x_draftLines]))]) 0 0 (va_A [(m0, .inr (10, [.int x_thrown, .ref p_text, .int x_size, .ref p_signs, .ref p_begins, .int x_lines, .ref p_draft, .ref p_draftBegins, .ref p_above, .ref p_below, .ref p_told, .ref p_tops, .ref p_bottoms, .int x_high, .long x_totalTop, .long x_totalBottom, .int x_reason, .ref p_addedTop, .ref p_addedBottom, .ref p_reasons, .ref p_places, .long x_top, .long x_bottom, .int x_rows, .ref p_days, .ref p_rowAbove, .ref p_rowBelow, .int x_offers, .ref p_offerCents, .ref p_untils, .int x_invoices, .ref p_lefts, .ref p_many, .ref p_sums, .int x_draftLines]))] sz) := by
  refine opn_Z (bytes := b_Mod_noOffer) (maxL := 2) (by decide +kernel) rfl (Nat.le_of_ble_eq_true rfl) ?_
  intro p e s m below meth c A ls hx hb hr hml hown hlocks hnm hw hK hN hP hD hA hS hl
  have hl : lv_has ls 2 [(0, .ref m0), (1, .int k)] := hl
  refine lv_iload_n hx hb d_Mod_noOffer_0 rfl (lv_at hl 1 rfl) ?_
  refine lv_if_lt (tgt := 12) hx hb d_Mod_noOffer_1 (by decide) (fun c_1 => ?_) (fun c_1 => ?_)
  · refine lv_iconst (v := 1) hx hb d_Mod_noOffer_12 (by decide) ?_
    refine lv_goto (tgt := 17) hx hb d_Mod_noOffer_13 (by decide) ?_
    exact fin_z hx hb hr hlocks hK hP hD hS d_Mod_noOffer_17 rfl (by simp only [noO, c_1, decide_true, decide_false, Bool.not_true, Bool.not_false, Bool.and_true, Bool.true_and, Bool.and_false, Bool.false_and, Bool.or_true, Bool.true_or, Bool.or_false, Bool.false_or, if_true, if_false, reduceIte, Bool.false_eq_true, b2i]) rfl
  · refine lv_iload_n hx hb d_Mod_noOffer_4 rfl (lv_at hl 1 rfl) ?_
    refine lv_aload_n hx hb d_Mod_noOffer_5 rfl (lv_at hl 0 rfl) ?_
    refine va_get (D := D) (ci := 10) (v := .int x_offers) (C := "PriceLinesModel") (T := F_Mod) (N := 35) hx hb hw in_Mod hown hK hP 0 rfl rfl 27 (by decide) (hw _ W4_30) (fun _ h9 => h9) rfl d_Mod_noOffer_6 ?_
    refine lv_icmp_lt (tgt := 16) hx hb d_Mod_noOffer_9 (by decide) (fun c_2 => ?_) (fun c_2 => ?_)
    · refine lv_iconst (v := 0) hx hb d_Mod_noOffer_16 (by decide) ?_
      exact fin_z hx hb hr hlocks hK hP hD hS d_Mod_noOffer_17 rfl (by simp only [noO, c_1, c_2, decide_true, decide_false, Bool.not_true, Bool.not_false, Bool.and_true, Bool.true_and, Bool.and_false, Bool.false_and, Bool.or_true, Bool.true_or, Bool.or_false, Bool.false_or, if_true, if_false, reduceIte, Bool.false_eq_true, b2i]) rfl
    · refine lv_iconst (v := 1) hx hb d_Mod_noOffer_12 (by decide) ?_
      refine lv_goto (tgt := 17) hx hb d_Mod_noOffer_13 (by decide) ?_
      exact fin_z hx hb hr hlocks hK hP hD hS d_Mod_noOffer_17 rfl (by simp only [noO, c_1, c_2, decide_true, decide_false, Bool.not_true, Bool.not_false, Bool.and_true, Bool.true_and, Bool.and_false, Bool.false_and, Bool.or_true, Bool.true_or, Bool.or_false, Bool.false_or, if_true, if_false, reduceIte, Bool.false_eq_true, b2i]) rfl
theorem hd_Mod_noInvoice : y_Mod_noInvoice.cls = "PriceLinesModel" ∧ y_Mod_noInvoice.cls ≠ "java/lang/invoke/MethodHandle" ∧ y_Mod_noInvoice.cls ≠ "java/lang/invoke/VarHandle" ∧ (parseMethodDescriptor y_Mod_noInvoice.desc).map (fun d => d.parameters.length) = some 1 := by decide +kernel
set_option maxHeartbeats 1000000 in
set_option maxRecDepth 100000 in
theorem c_Mod_noInvoice (l : Launch) (D : va_G) (ta : Nat → ClassId) (m0 p_text p_signs p_begins p_draft p_draftBegins p_above p_below p_told p_tops p_bottoms p_addedTop p_addedBottom p_reasons p_places p_days p_rowAbove p_rowBelow p_offerCents p_untils p_lefts p_many p_sums : Nat) (x_thrown : Int32) (x_size : Int32) (x_lines : Int32) (x_high : Int32) (x_totalTop : Int64) (x_totalBottom : Int64) (x_reason : Int32) (x_top : Int64) (x_bottom : Int64) (x_rows : Int32) (x_offers : Int32) (x_invoices : Int32) (x_draftLines : Int32) (k : Int32) : ∀ sz, Met l y_Mod_noInvoice w_Mod_noInvoice { frames := 0, cells := 0, slots := 0, locals := 0 } (va_Pc [.ref m0, .int k] (pW D ta [(m0, .inr (10, [.int x_thrown, .ref p_text, .int x_size, .ref p_signs, .ref p_begins, .int x_lines, .ref p_draft, .ref p_draftBegins, .ref p_above, .ref p_below, .ref p_told, .ref p_tops, .ref p_bottoms, .int x_high, .long x_totalTop, .long x_totalBottom, .int x_reason, .ref p_addedTop, .ref p_addedBottom, .ref p_reasons, .ref p_places, .long x_top, .long x_bottom, .int x_rows, .ref p_days, .ref p_rowAbove, .ref p_rowBelow, .int x_offers, .ref p_offerCents, .ref p_untils, .int x_invoices, .ref p_lefts, .ref p_many, .ref p_sums, .int x_draftLines]))] sz)) (eI D ta (va_A [(m0, .inr (10, [.int x_thrown, .ref p_text, .int x_size, .ref p_signs, .ref p_begins, .int x_lines, .ref p_draft, .ref p_draftBegins, .ref p_above, .ref p_below, .ref p_told, .ref p_tops, .ref p_bottoms, .int x_high, .long x_totalTop, .long x_totalBottom, .int x_reason, .ref p_addedTop, .ref p_addedBottom, .ref p_reasons, .ref p_places, .long x_top, .long x_bottom, .int x_rows, .ref p_days, .ref p_rowAbove, .ref p_rowBelow, .int x_offers, .ref p_offerCents, .ref p_untils, .int x_invoices, .ref p_lefts, .ref p_many, .ref p_sums, .int x_draftLines]))] sz) (b2i (noO k x_invoices)) [(m0, .inr (10, [.int x_thrown, .ref p_text, .int x_size, .ref p_signs, .ref p_begins, .int x_lines, .ref p_draft, .ref p_draftBegins, .ref p_above, .ref p_below, .ref p_told, .ref p_tops, .ref p_bottoms, .int x_high, .long x_totalTop, .long x_totalBottom, .int x_reason, .ref p_addedTop, .ref p_addedBottom, .ref p_reasons, .ref p_places, .long x_top, .long x_bottom, .int x_rows, .ref p_days, .ref p_rowAbove, .ref p_rowBelow, .int x_offers, .ref p_offerCents, .ref p_untils, .int x_invoices, .ref p_lefts, .ref p_many, .ref p_sums, .int x_draftLines]))]) 0 0 (va_A [(m0, .inr (10, [.int x_thrown, .ref p_text, .int x_size, .ref p_signs, .ref p_begins, .int x_lines, .ref p_draft, .ref p_draftBegins, .ref p_above, .ref p_below, .ref p_told, .ref p_tops, .ref p_bottoms, .int x_high, .long x_totalTop, .long x_totalBottom, .int x_reason, .ref p_addedTop, .ref p_addedBottom, .ref p_reasons, .ref p_places, .long x_top, .long x_bottom, .int x_rows, .ref p_days, .ref p_rowAbove, .ref p_rowBelow, .int x_offers, .ref p_offerCents, .ref p_untils, .int x_invoices, .ref p_lefts, .ref p_many, .ref p_sums, .int x_draftLines]))] sz) := by
  refine opn_Z (bytes := b_Mod_noInvoice) (maxL := 2) (by decide +kernel) rfl (Nat.le_of_ble_eq_true rfl) ?_
  intro p e s m below meth c A ls hx hb hr hml hown hlocks hnm hw hK hN hP hD hA hS hl
  have hl : lv_has ls 2 [(0, .ref m0), (1, .int k)] := hl
  refine lv_iload_n hx hb d_Mod_noInvoice_0 rfl (lv_at hl 1 rfl) ?_
  refine lv_if_lt (tgt := 12) hx hb d_Mod_noInvoice_1 (by decide) (fun c_1 => ?_) (fun c_1 => ?_)
  · refine lv_iconst (v := 1) hx hb d_Mod_noInvoice_12 (by decide) ?_
    refine lv_goto (tgt := 17) hx hb d_Mod_noInvoice_13 (by decide) ?_
    exact fin_z hx hb hr hlocks hK hP hD hS d_Mod_noInvoice_17 rfl (by simp only [noO, c_1, decide_true, decide_false, Bool.not_true, Bool.not_false, Bool.and_true, Bool.true_and, Bool.and_false, Bool.false_and, Bool.or_true, Bool.true_or, Bool.or_false, Bool.false_or, if_true, if_false, reduceIte, Bool.false_eq_true, b2i]) rfl
  · refine lv_iload_n hx hb d_Mod_noInvoice_4 rfl (lv_at hl 1 rfl) ?_
    refine lv_aload_n hx hb d_Mod_noInvoice_5 rfl (lv_at hl 0 rfl) ?_
    refine va_get (D := D) (ci := 10) (v := .int x_invoices) (C := "PriceLinesModel") (T := F_Mod) (N := 35) hx hb hw in_Mod hown hK hP 0 rfl rfl 30 (by decide) (hw _ W4_33) (fun _ h9 => h9) rfl d_Mod_noInvoice_6 ?_
    refine lv_icmp_lt (tgt := 16) hx hb d_Mod_noInvoice_9 (by decide) (fun c_2 => ?_) (fun c_2 => ?_)
    · refine lv_iconst (v := 0) hx hb d_Mod_noInvoice_16 (by decide) ?_
      exact fin_z hx hb hr hlocks hK hP hD hS d_Mod_noInvoice_17 rfl (by simp only [noO, c_1, c_2, decide_true, decide_false, Bool.not_true, Bool.not_false, Bool.and_true, Bool.true_and, Bool.and_false, Bool.false_and, Bool.or_true, Bool.true_or, Bool.or_false, Bool.false_or, if_true, if_false, reduceIte, Bool.false_eq_true, b2i]) rfl
    · refine lv_iconst (v := 1) hx hb d_Mod_noInvoice_12 (by decide) ?_
      refine lv_goto (tgt := 17) hx hb d_Mod_noInvoice_13 (by decide) ?_
      exact fin_z hx hb hr hlocks hK hP hD hS d_Mod_noInvoice_17 rfl (by simp only [noO, c_1, c_2, decide_true, decide_false, Bool.not_true, Bool.not_false, Bool.and_true, Bool.true_and, Bool.and_false, Bool.false_and, Bool.or_true, Bool.true_or, Bool.or_false, Bool.false_or, if_true, if_false, reduceIte, Bool.false_eq_true, b2i]) rfl
theorem hd_Mod_thrown : y_Mod_thrown.cls = "PriceLinesModel" ∧ y_Mod_thrown.cls ≠ "java/lang/invoke/MethodHandle" ∧ y_Mod_thrown.cls ≠ "java/lang/invoke/VarHandle" ∧ (parseMethodDescriptor y_Mod_thrown.desc).map (fun d => d.parameters.length) = some 0 := by decide +kernel
set_option maxHeartbeats 1000000 in
set_option maxRecDepth 100000 in
theorem c_Mod_thrown (l : Launch) (D : va_G) (ta : Nat → ClassId) (m0 p_text p_signs p_begins p_draft p_draftBegins p_above p_below p_told p_tops p_bottoms p_addedTop p_addedBottom p_reasons p_places p_days p_rowAbove p_rowBelow p_offerCents p_untils p_lefts p_many p_sums : Nat) (x_thrown : Int32) (x_size : Int32) (x_lines : Int32) (x_high : Int32) (x_totalTop : Int64) (x_totalBottom : Int64) (x_reason : Int32) (x_top : Int64) (x_bottom : Int64) (x_rows : Int32) (x_offers : Int32) (x_invoices : Int32) (x_draftLines : Int32) : ∀ sz, Met l y_Mod_thrown w_Mod_thrown { frames := 0, cells := 0, slots := 0, locals := 0 } (va_Pc [.ref m0] (pW D ta [(m0, .inr (10, [.int x_thrown, .ref p_text, .int x_size, .ref p_signs, .ref p_begins, .int x_lines, .ref p_draft, .ref p_draftBegins, .ref p_above, .ref p_below, .ref p_told, .ref p_tops, .ref p_bottoms, .int x_high, .long x_totalTop, .long x_totalBottom, .int x_reason, .ref p_addedTop, .ref p_addedBottom, .ref p_reasons, .ref p_places, .long x_top, .long x_bottom, .int x_rows, .ref p_days, .ref p_rowAbove, .ref p_rowBelow, .int x_offers, .ref p_offerCents, .ref p_untils, .int x_invoices, .ref p_lefts, .ref p_many, .ref p_sums, .int x_draftLines]))] sz)) (eI D ta (va_A [(m0, .inr (10, [.int x_thrown, .ref p_text, .int x_size, .ref p_signs, .ref p_begins, .int x_lines, .ref p_draft, .ref p_draftBegins, .ref p_above, .ref p_below, .ref p_told, .ref p_tops, .ref p_bottoms, .int x_high, .long x_totalTop, .long x_totalBottom, .int x_reason, .ref p_addedTop, .ref p_addedBottom, .ref p_reasons, .ref p_places, .long x_top, .long x_bottom, .int x_rows, .ref p_days, .ref p_rowAbove, .ref p_rowBelow, .int x_offers, .ref p_offerCents, .ref p_untils, .int x_invoices, .ref p_lefts, .ref p_many, .ref p_sums, .int x_draftLines]))] sz) x_thrown [(m0, .inr (10, [.int x_thrown, .ref p_text, .int x_size, .ref p_signs, .ref p_begins, .int x_lines, .ref p_draft, .ref p_draftBegins, .ref p_above, .ref p_below, .ref p_told, .ref p_tops, .ref p_bottoms, .int x_high, .long x_totalTop, .long x_totalBottom, .int x_reason, .ref p_addedTop, .ref p_addedBottom, .ref p_reasons, .ref p_places, .long x_top, .long x_bottom, .int x_rows, .ref p_days, .ref p_rowAbove, .ref p_rowBelow, .int x_offers, .ref p_offerCents, .ref p_untils, .int x_invoices, .ref p_lefts, .ref p_many, .ref p_sums, .int x_draftLines]))]) 0 0 (va_A [(m0, .inr (10, [.int x_thrown, .ref p_text, .int x_size, .ref p_signs, .ref p_begins, .int x_lines, .ref p_draft, .ref p_draftBegins, .ref p_above, .ref p_below, .ref p_told, .ref p_tops, .ref p_bottoms, .int x_high, .long x_totalTop, .long x_totalBottom, .int x_reason, .ref p_addedTop, .ref p_addedBottom, .ref p_reasons, .ref p_places, .long x_top, .long x_bottom, .int x_rows, .ref p_days, .ref p_rowAbove, .ref p_rowBelow, .int x_offers, .ref p_offerCents, .ref p_untils, .int x_invoices, .ref p_lefts, .ref p_many, .ref p_sums, .int x_draftLines]))] sz) := by
  refine opn_I (bytes := b_Mod_thrown) (maxL := 1) (by decide +kernel) rfl (Nat.le_of_ble_eq_true rfl) ?_
  intro p e s m below meth c A ls hx hb hr hml hown hlocks hnm hw hK hN hP hD hA hS hl
  have hl : lv_has ls 1 [(0, .ref m0)] := hl
  refine lv_aload_n hx hb d_Mod_thrown_0 rfl (lv_at hl 0 rfl) ?_
  refine va_get (D := D) (ci := 10) (v := .int x_thrown) (C := "PriceLinesModel") (T := F_Mod) (N := 35) hx hb hw in_Mod hown hK hP 0 rfl rfl 0 (by decide) (hw _ W4_4) (fun _ h9 => h9) rfl d_Mod_thrown_1 ?_
  exact fin_i hx hb hr hlocks hK hP hD hS d_Mod_thrown_4 rfl rfl
theorem in8 {x : Int32} (h0 : 0 ≤ x.toInt) (h8 : x.toInt < 8) : vp_in x 8 := vp_in_iff.mpr ⟨h0, h8⟩
theorem hd_Mod_lay : y_Mod_lay.cls = "PriceLinesModel" ∧ y_Mod_lay.cls ≠ "java/lang/invoke/MethodHandle" ∧ y_Mod_lay.cls ≠ "java/lang/invoke/VarHandle" ∧ (parseMethodDescriptor y_Mod_lay.desc).map (fun d => d.parameters.length) = some 0 := by decide +kernel
set_option maxHeartbeats 1000000 in
set_option maxRecDepth 100000 in
theorem c_Mod_lay (l : Launch) (D : va_G) (ta : Nat → ClassId) (m0 p_text p_signs p_begins p_draft p_draftBegins p_above p_below p_told p_tops p_bottoms p_addedTop p_addedBottom p_reasons p_places p_days p_rowAbove p_rowBelow p_offerCents p_untils p_lefts p_many p_sums : Nat) (x_thrown : Int32) (x_size : Int32) (x_lines : Int32) (x_tops : Nat → Int64) (x_bottoms : Nat → Int64) (x_high : Int32) (x_totalTop : Int64) (x_totalBottom : Int64) (x_reason : Int32) (x_top : Int64) (x_bottom : Int64) (x_rows : Int32) (x_offers : Int32) (x_invoices : Int32) (x_draftLines : Int32) (hh0 : 0 ≤ x_high.toInt) (hh8 : x_high.toInt < 8) : ∀ sz, Met l y_Mod_lay w_Mod_lay { frames := 0, cells := 0, slots := 0, locals := 0 } (va_Pc [.ref m0] (pW D ta [(m0, .inr (10, [.int x_thrown, .ref p_text, .int x_size, .ref p_signs, .ref p_begins, .int x_lines, .ref p_draft, .ref p_draftBegins, .ref p_above, .ref p_below, .ref p_told, .ref p_tops, .ref p_bottoms, .int x_high, .long x_totalTop, .long x_totalBottom, .int x_reason, .ref p_addedTop, .ref p_addedBottom, .ref p_reasons, .ref p_places, .long x_top, .long x_bottom, .int x_rows, .ref p_days, .ref p_rowAbove, .ref p_rowBelow, .int x_offers, .ref p_offerCents, .ref p_untils, .int x_invoices, .ref p_lefts, .ref p_many, .ref p_sums, .int x_draftLines])), (p_tops, .inl (ta 2, 8, .inr (.inl x_tops))), (p_bottoms, .inl (ta 2, 8, .inr (.inl x_bottoms)))] sz)) (eV D ta (va_A [(m0, .inr (10, [.int x_thrown, .ref p_text, .int x_size, .ref p_signs, .ref p_begins, .int x_lines, .ref p_draft, .ref p_draftBegins, .ref p_above, .ref p_below, .ref p_told, .ref p_tops, .ref p_bottoms, .int x_high, .long x_totalTop, .long x_totalBottom, .int x_reason, .ref p_addedTop, .ref p_addedBottom, .ref p_reasons, .ref p_places, .long x_top, .long x_bottom, .int x_rows, .ref p_days, .ref p_rowAbove, .ref p_rowBelow, .int x_offers, .ref p_offerCents, .ref p_untils, .int x_invoices, .ref p_lefts, .ref p_many, .ref p_sums, .int x_draftLines])), (p_tops, .inl (ta 2, 8, .inr (.inl x_tops))), (p_bottoms, .inl (ta 2, 8, .inr (.inl x_bottoms)))] sz) [(m0, .inr (10, [.int x_thrown, .ref p_text, .int x_size, .ref p_signs, .ref p_begins, .int x_lines, .ref p_draft, .ref p_draftBegins, .ref p_above, .ref p_below, .ref p_told, .ref p_tops, .ref p_bottoms, .int (x_high + 1), .long x_totalTop, .long x_totalBottom, .int x_reason, .ref p_addedTop, .ref p_addedBottom, .ref p_reasons, .ref p_places, .long x_top, .long x_bottom, .int x_rows, .ref p_days, .ref p_rowAbove, .ref p_rowBelow, .int x_offers, .ref p_offerCents, .ref p_untils, .int x_invoices, .ref p_lefts, .ref p_many, .ref p_sums, .int x_draftLines])), (p_tops, .inl (ta 2, 8, .inr (.inl (vp_updL x_tops x_high.toNatClampNeg x_top)))), (p_bottoms, .inl (ta 2, 8, .inr (.inl (vp_updL x_bottoms x_high.toNatClampNeg x_bottom))))]) 0 0 (va_A [(m0, .inr (10, [.int x_thrown, .ref p_text, .int x_size, .ref p_signs, .ref p_begins, .int x_lines, .ref p_draft, .ref p_draftBegins, .ref p_above, .ref p_below, .ref p_told, .ref p_tops, .ref p_bottoms, .int x_high, .long x_totalTop, .long x_totalBottom, .int x_reason, .ref p_addedTop, .ref p_addedBottom, .ref p_reasons, .ref p_places, .long x_top, .long x_bottom, .int x_rows, .ref p_days, .ref p_rowAbove, .ref p_rowBelow, .int x_offers, .ref p_offerCents, .ref p_untils, .int x_invoices, .ref p_lefts, .ref p_many, .ref p_sums, .int x_draftLines])), (p_tops, .inl (ta 2, 8, .inr (.inl x_tops))), (p_bottoms, .inl (ta 2, 8, .inr (.inl x_bottoms)))] sz) := by
  refine opn_V (bytes := b_Mod_lay) (maxL := 1) (by decide +kernel) rfl (Nat.le_of_ble_eq_true rfl) ?_
  intro p e s m below meth c A ls hx hb hr hml hown hlocks hnm hw hK hN hP hD hA hS hl
  have hl : lv_has ls 1 [(0, .ref m0)] := hl
  refine lv_aload_n hx hb d_Mod_lay_0 rfl (lv_at hl 0 rfl) ?_
  refine va_get (D := D) (ci := 10) (v := .ref p_tops) (C := "PriceLinesModel") (T := F_Mod) (N := 35) hx hb hw in_Mod hown hK hP 0 rfl rfl 11 (by decide) (hw _ W4_15) (fun _ h9 => h9) rfl d_Mod_lay_1 ?_
  refine lv_aload_n hx hb d_Mod_lay_4 rfl (lv_at hl 0 rfl) ?_
  refine va_get (D := D) (ci := 10) (v := .int x_high) (C := "PriceLinesModel") (T := F_Mod) (N := 35) hx hb hw in_Mod hown hK hP 0 rfl rfl 13 (by decide) (hw _ W4_17) (fun _ h9 => h9) rfl d_Mod_lay_5 ?_
  refine lv_aload_n hx hb d_Mod_lay_8 rfl (lv_at hl 0 rfl) ?_
  refine va_get (D := D) (ci := 10) (v := .long x_top) (C := "PriceLinesModel") (T := F_Mod) (N := 35) hx hb hw in_Mod hown hK hP 0 rfl rfl 21 (by decide) (hw _ W4_24) (fun _ h9 => h9) rfl d_Mod_lay_9 ?_
  have h_1 : vp_in x_high 8 := (in8 hh0 hh8)
  refine va_last hx hb hK hP hD hS 1 2 rfl rfl h_1 d_Mod_lay_12 (fun H locs hP hD hS => ?_)
  have hP : va_P D vwCl [(m0, .inr (10, [.int x_thrown, .ref p_text, .int x_size, .ref p_signs, .ref p_begins, .int x_lines, .ref p_draft, .ref p_draftBegins, .ref p_above, .ref p_below, .ref p_told, .ref p_tops, .ref p_bottoms, .int x_high, .long x_totalTop, .long x_totalBottom, .int x_reason, .ref p_addedTop, .ref p_addedBottom, .ref p_reasons, .ref p_places, .long x_top, .long x_bottom, .int x_rows, .ref p_days, .ref p_rowAbove, .ref p_rowBelow, .int x_offers, .ref p_offerCents, .ref p_untils, .int x_invoices, .ref p_lefts, .ref p_many, .ref p_sums, .int x_draftLines])), (p_tops, .inl (ta 2, 8, .inr (.inl (vp_updL x_tops x_high.toNatClampNeg x_top)))), (p_bottoms, .inl (ta 2, 8, .inr (.inl x_bottoms)))] H := hP
  have hD : va_D A [(m0, .inr (10, [.int x_thrown, .ref p_text, .int x_size, .ref p_signs, .ref p_begins, .int x_lines, .ref p_draft, .ref p_draftBegins, .ref p_above, .ref p_below, .ref p_told, .ref p_tops, .ref p_bottoms, .int x_high, .long x_totalTop, .long x_totalBottom, .int x_reason, .ref p_addedTop, .ref p_addedBottom, .ref p_reasons, .ref p_places, .long x_top, .long x_bottom, .int x_rows, .ref p_days, .ref p_rowAbove, .ref p_rowBelow, .int x_offers, .ref p_offerCents, .ref p_untils, .int x_invoices, .ref p_lefts, .ref p_many, .ref p_sums, .int x_draftLines])), (p_tops, .inl (ta 2, 8, .inr (.inl (vp_updL x_tops x_high.toNatClampNeg x_top)))), (p_bottoms, .inl (ta 2, 8, .inr (.inl x_bottoms)))] := hD
  refine lv_aload_n hx hb d_Mod_lay_13 rfl (lv_at hl 0 rfl) ?_
  refine va_get (D := D) (ci := 10) (v := .ref p_bottoms) (C := "PriceLinesModel") (T := F_Mod) (N := 35) hx hb hw in_Mod hown hK hP 0 rfl rfl 12 (by decide) (hw _ W4_16) (fun _ h9 => h9) rfl d_Mod_lay_14 ?_
  refine lv_aload_n hx hb d_Mod_lay_17 rfl (lv_at hl 0 rfl) ?_
  refine va_get (D := D) (ci := 10) (v := .int x_high) (C := "PriceLinesModel") (T := F_Mod) (N := 35) hx hb hw in_Mod hown hK hP 0 rfl rfl 13 (by decide) (hw _ W4_17) (fun _ h9 => h9) rfl d_Mod_lay_18 ?_
  refine lv_aload_n hx hb d_Mod_lay_21 rfl (lv_at hl 0 rfl) ?_
  refine va_get (D := D) (ci := 10) (v := .long x_bottom) (C := "PriceLinesModel") (T := F_Mod) (N := 35) hx hb hw in_Mod hown hK hP 0 rfl rfl 22 (by decide) (hw _ W4_25) (fun _ h9 => h9) rfl d_Mod_lay_22 ?_
  have h_2 : vp_in x_high 8 := (in8 hh0 hh8)
  refine va_last hx hb hK hP hD hS 2 2 rfl rfl h_2 d_Mod_lay_25 (fun H locs hP hD hS => ?_)
  have hP : va_P D vwCl [(m0, .inr (10, [.int x_thrown, .ref p_text, .int x_size, .ref p_signs, .ref p_begins, .int x_lines, .ref p_draft, .ref p_draftBegins, .ref p_above, .ref p_below, .ref p_told, .ref p_tops, .ref p_bottoms, .int x_high, .long x_totalTop, .long x_totalBottom, .int x_reason, .ref p_addedTop, .ref p_addedBottom, .ref p_reasons, .ref p_places, .long x_top, .long x_bottom, .int x_rows, .ref p_days, .ref p_rowAbove, .ref p_rowBelow, .int x_offers, .ref p_offerCents, .ref p_untils, .int x_invoices, .ref p_lefts, .ref p_many, .ref p_sums, .int x_draftLines])), (p_tops, .inl (ta 2, 8, .inr (.inl (vp_updL x_tops x_high.toNatClampNeg x_top)))), (p_bottoms, .inl (ta 2, 8, .inr (.inl (vp_updL x_bottoms x_high.toNatClampNeg x_bottom))))] H := hP
  have hD : va_D A [(m0, .inr (10, [.int x_thrown, .ref p_text, .int x_size, .ref p_signs, .ref p_begins, .int x_lines, .ref p_draft, .ref p_draftBegins, .ref p_above, .ref p_below, .ref p_told, .ref p_tops, .ref p_bottoms, .int x_high, .long x_totalTop, .long x_totalBottom, .int x_reason, .ref p_addedTop, .ref p_addedBottom, .ref p_reasons, .ref p_places, .long x_top, .long x_bottom, .int x_rows, .ref p_days, .ref p_rowAbove, .ref p_rowBelow, .int x_offers, .ref p_offerCents, .ref p_untils, .int x_invoices, .ref p_lefts, .ref p_many, .ref p_sums, .int x_draftLines])), (p_tops, .inl (ta 2, 8, .inr (.inl (vp_updL x_tops x_high.toNatClampNeg x_top)))), (p_bottoms, .inl (ta 2, 8, .inr (.inl (vp_updL x_bottoms x_high.toNatClampNeg x_bottom))))] := hD
  refine lv_aload_n hx hb d_Mod_lay_26 rfl (lv_at hl 0 rfl) ?_
  refine lv_dup hx hb d_Mod_lay_27 rfl ?_
  refine va_get (D := D) (ci := 10) (v := .int x_high) (C := "PriceLinesModel") (T := F_Mod) (N := 35) hx hb hw in_Mod hown hK hP 0 rfl rfl 13 (by decide) (hw _ W4_17) (fun _ h9 => h9) rfl d_Mod_lay_28 ?_
  refine lv_iconst (v := 1) hx hb d_Mod_lay_31 (by decide) ?_
  refine lv_iadd hx hb d_Mod_lay_32 ?_
  refine va_put (D := D) (ci := 10) (v := .int (x_high + 1)) (ty := .int) (C := "PriceLinesModel") (T := F_Mod) (N := 35) hx hb hw in_Mod t_Mod tk_Mod n_Mod hown hK hP hD hS 0 rfl rfl 13 (by decide) (hw _ W4_17) (fun _ h9 => h9) rfl (tk_Mod 13 (by decide)) rfl rfl (Nat.le_of_ble_eq_true rfl) d_Mod_lay_33 (fun H locs hP hD hS => ?_)
  have hP : va_P D vwCl [(m0, .inr (10, [.int x_thrown, .ref p_text, .int x_size, .ref p_signs, .ref p_begins, .int x_lines, .ref p_draft, .ref p_draftBegins, .ref p_above, .ref p_below, .ref p_told, .ref p_tops, .ref p_bottoms, .int (x_high + 1), .long x_totalTop, .long x_totalBottom, .int x_reason, .ref p_addedTop, .ref p_addedBottom, .ref p_reasons, .ref p_places, .long x_top, .long x_bottom, .int x_rows, .ref p_days, .ref p_rowAbove, .ref p_rowBelow, .int x_offers, .ref p_offerCents, .ref p_untils, .int x_invoices, .ref p_lefts, .ref p_many, .ref p_sums, .int x_draftLines])), (p_tops, .inl (ta 2, 8, .inr (.inl (vp_updL x_tops x_high.toNatClampNeg x_top)))), (p_bottoms, .inl (ta 2, 8, .inr (.inl (vp_updL x_bottoms x_high.toNatClampNeg x_bottom))))] H := hP
  have hD : va_D A [(m0, .inr (10, [.int x_thrown, .ref p_text, .int x_size, .ref p_signs, .ref p_begins, .int x_lines, .ref p_draft, .ref p_draftBegins, .ref p_above, .ref p_below, .ref p_told, .ref p_tops, .ref p_bottoms, .int (x_high + 1), .long x_totalTop, .long x_totalBottom, .int x_reason, .ref p_addedTop, .ref p_addedBottom, .ref p_reasons, .ref p_places, .long x_top, .long x_bottom, .int x_rows, .ref p_days, .ref p_rowAbove, .ref p_rowBelow, .int x_offers, .ref p_offerCents, .ref p_untils, .int x_invoices, .ref p_lefts, .ref p_many, .ref p_sums, .int x_draftLines])), (p_tops, .inl (ta 2, 8, .inr (.inl (vp_updL x_tops x_high.toNatClampNeg x_top)))), (p_bottoms, .inl (ta 2, 8, .inr (.inl (vp_updL x_bottoms x_high.toNatClampNeg x_bottom))))] := hD
  exact fin_v hx hb hr hlocks hK hP hD hS d_Mod_lay_36 rfl
