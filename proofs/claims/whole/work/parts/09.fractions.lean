/-! Math.floorDiv, and numbers -/
def flD (x y : Int64) : Int64 := if 0 ≤ (x ^^^ y) then x / y else if (x / y) * y = x then x / y else (x / y) - 1
theorem hd_Mat_floorDiv : y_Mat_floorDiv.cls = "java/lang/Math" ∧ y_Mat_floorDiv.cls ≠ "java/lang/invoke/MethodHandle" ∧ y_Mat_floorDiv.cls ≠ "java/lang/invoke/VarHandle" ∧ (parseMethodDescriptor y_Mat_floorDiv.desc).map (fun d => d.parameters.length) = some 2 := by decide +kernel
set_option maxHeartbeats 1000000 in
set_option maxRecDepth 100000 in
theorem c_Mat_floorDiv (l : Launch) (D : va_G) (ta : Nat → ClassId) (x y : Int64) (hy : ¬ y = 0) : ∀ sz, Met l y_Mat_floorDiv w_Mat_floorDiv { frames := 0, cells := 0, slots := 0, locals := 0 } (va_Pc [.long x, .long y] (pW D ta [] sz)) (eL D ta (va_A [] sz) (flD x y) []) 0 0 (va_A [] sz) := by
  refine opn_L (bytes := b_Mat_floorDiv) (maxL := 6) (by decide +kernel) rfl (Nat.le_of_ble_eq_true rfl) ?_
  intro p e s m below meth c A ls hx hb hr hml hown hlocks hnm hw hK hN hP hD hA hS hl
  have hl : lv_has ls 6 [(0, .long x), (2, .long y)] := hl
  refine lv_lload_n hx hb d_Mat_floorDiv_0 rfl (lv_at hl 0 rfl) ?_
  refine lv_lload_n hx hb d_Mat_floorDiv_1 rfl (lv_at hl 1 rfl) ?_
  have h_1 : ¬ y = 0 := (by assumption)
  refine lv_ldiv hx hb d_Mat_floorDiv_2 h_1 ?_
  refine lv_lstore (lv' := [(4, .long (x / y)), (0, .long x), (2, .long y)]) hx hb d_Mat_floorDiv_3 hl (by decide) rfl (fun ls hl => ?_)
  refine lv_lload_n hx hb d_Mat_floorDiv_5 rfl (lv_at hl 1 rfl) ?_
  refine lv_lload_n hx hb d_Mat_floorDiv_6 rfl (lv_at hl 2 rfl) ?_
  refine lv_lxor hx hb d_Mat_floorDiv_7 ?_
  refine lv_lconst (v := 0) hx hb d_Mat_floorDiv_8 (by decide) ?_
  refine lc_ge (tgt := 27) hx hb d_Mat_floorDiv_9 d_Mat_floorDiv_10 (by decide) (fun c_2 => ?_) (fun c_2 => ?_)
  · refine lv_lload hx hb d_Mat_floorDiv_27 (lv_at hl 0 rfl) ?_
    exact fin_l hx hb hr hlocks hK hP hD hS d_Mat_floorDiv_29 (by simp only [flD, c_2, decide_true, decide_false, Bool.not_true, Bool.not_false, Bool.and_true, Bool.true_and, Bool.and_false, Bool.false_and, Bool.or_true, Bool.true_or, Bool.or_false, Bool.false_or, if_true, if_false, reduceIte, Bool.false_eq_true, b2i, not_true_eq_false, not_false_eq_true]) rfl
  · refine lv_lload hx hb d_Mat_floorDiv_13 (lv_at hl 0 rfl) ?_
    refine lv_lload_n hx hb d_Mat_floorDiv_15 rfl (lv_at hl 2 rfl) ?_
    refine lv_lmul hx hb d_Mat_floorDiv_16 ?_
    refine lv_lload_n hx hb d_Mat_floorDiv_17 rfl (lv_at hl 1 rfl) ?_
    refine lc_eq (tgt := 27) hx hb d_Mat_floorDiv_18 d_Mat_floorDiv_19 (by decide) (fun c_3 => ?_) (fun c_3 => ?_)
    · refine lv_lload hx hb d_Mat_floorDiv_27 (lv_at hl 0 rfl) ?_
      exact fin_l hx hb hr hlocks hK hP hD hS d_Mat_floorDiv_29 (by simp only [flD, c_2, eq_true c_3, decide_true, decide_false, Bool.not_true, Bool.not_false, Bool.and_true, Bool.true_and, Bool.and_false, Bool.false_and, Bool.or_true, Bool.true_or, Bool.or_false, Bool.false_or, if_true, if_false, reduceIte, Bool.false_eq_true, b2i, not_true_eq_false, not_false_eq_true]) rfl
    · refine lv_lload hx hb d_Mat_floorDiv_22 (lv_at hl 0 rfl) ?_
      refine lv_lconst (v := 1) hx hb d_Mat_floorDiv_24 (by decide) ?_
      refine lv_lsub hx hb d_Mat_floorDiv_25 ?_
      exact fin_l hx hb hr hlocks hK hP hD hS d_Mat_floorDiv_26 (by simp only [flD, c_2, c_3, decide_true, decide_false, Bool.not_true, Bool.not_false, Bool.and_true, Bool.true_and, Bool.and_false, Bool.false_and, Bool.or_true, Bool.true_or, Bool.or_false, Bool.false_or, if_true, if_false, reduceIte, Bool.false_eq_true, b2i, not_true_eq_false, not_false_eq_true]) rfl
/-- Euclid's steps, n at most -/
def cd : Nat → Int64 → Int64 → Int64
  | 0, g, _ => g
  | n + 1, g, l => if l = 0 then g else cd n l (g - g / l * l)
theorem hd_Fra_commonDivisor : y_Fra_commonDivisor.cls = "PriceLines$Fraction" ∧ y_Fra_commonDivisor.cls ≠ "java/lang/invoke/MethodHandle" ∧ y_Fra_commonDivisor.cls ≠ "java/lang/invoke/VarHandle" ∧ (parseMethodDescriptor y_Fra_commonDivisor.desc).map (fun d => d.parameters.length) = some 2 := by decide +kernel
set_option maxHeartbeats 1000000 in
set_option maxRecDepth 100000 in
theorem c_Fra_commonDivisor (l : Launch) (D : va_G) (ta : Nat → ClassId) (one oth : Int64) : ∀ sz, Met l y_Fra_commonDivisor w_Fra_commonDivisor { frames := 0, cells := 0, slots := 0, locals := 0 } (va_Pc [.long one, .long oth] (pW D ta [] sz)) (eL D ta (va_A [] sz) (cd 128 one oth) []) 0 0 (va_A [] sz) := by
  refine opn_L (bytes := b_Fra_commonDivisor) (maxL := 11) (by decide +kernel) rfl (Nat.le_of_ble_eq_true rfl) ?_
  intro p e s m below meth c A ls hx hb hr hml hown hlocks hnm hw hK hN hP hD hA hS hl
  have hl : lv_has ls 11 [(0, .long one), (2, .long oth)] := hl
  have LOOP : ∀ (n : Nat) (g h : Int64) (j : Int32) (ls : Array Slot), j = nI (128 - n) → n ≤ 128 → cd n g h = cd 128 one oth → lv_has ls 11 [(8, .int j), (6, .long h), (4, .long g)] → W p l e { frames := 0, cells := 0, slots := 0, locals := 0 } s m #[.long one, .long oth] below meth c s.heap [] 0 0 (MQ below (eL D ta A (cd 128 one oth) []) #[.long one, .long oth] s 0 0 A) (F0 m 9 ls []) := by
    intro n
    induction n with
    | zero =>
      intro g h j ls hj hn hc hl
      refine lv_iload hx hb d_Fra_commonDivisor_9 (lv_at hl 0 rfl) ?_
      refine lv_sipush (v := 128) hx hb d_Fra_commonDivisor_11 (by decide) ?_
      refine lv_icmp_ge (tgt := 45) hx hb d_Fra_commonDivisor_14 (by decide) (fun c_1 => ?_) (fun c_1 => ?_)
      · refine lv_lload hx hb d_Fra_commonDivisor_45 (lv_at hl 2 rfl) ?_
        exact fin_l hx hb hr hlocks hK hP hD hS d_Fra_commonDivisor_47 hc rfl
      · exact absurd (by subst hj; decide) c_1
    | succ n ih =>
      intro g h j ls hj hn hc hl
      refine lv_iload hx hb d_Fra_commonDivisor_9 (lv_at hl 0 rfl) ?_
      refine lv_sipush (v := 128) hx hb d_Fra_commonDivisor_11 (by decide) ?_
      refine lv_icmp_ge (tgt := 45) hx hb d_Fra_commonDivisor_14 (by decide) (fun c_2 => ?_) (fun c_2 => ?_)
      · exact absurd (show nI 128 ≤ nI (128 - (n + 1)) from hj ▸ c_2) (nI_ge (by omega) (by omega))
      · refine lv_lload hx hb d_Fra_commonDivisor_17 (lv_at hl 1 rfl) ?_
        refine lv_lconst (v := 0) hx hb d_Fra_commonDivisor_19 (by decide) ?_
        refine lc_eq (tgt := 45) hx hb d_Fra_commonDivisor_20 d_Fra_commonDivisor_21 (by decide) (fun c_3 => ?_) (fun c_3 => ?_)
        · refine lv_lload hx hb d_Fra_commonDivisor_45 (lv_at hl 2 rfl) ?_
          exact fin_l hx hb hr hlocks hK hP hD hS d_Fra_commonDivisor_47 (by rw [← hc]; simp only [cd, c_2, eq_true c_3, if_true]) rfl
        · refine lv_lload hx hb d_Fra_commonDivisor_24 (lv_at hl 2 rfl) ?_
          refine lv_lload hx hb d_Fra_commonDivisor_26 (lv_at hl 1 rfl) ?_
          have h_4 : ¬ h = 0 := (by assumption)
          refine lv_lrem hx hb d_Fra_commonDivisor_28 h_4 ?_
          refine lv_lstore (lv' := [(9, .long (g - g / h * h)), (8, .int j), (6, .long h), (4, .long g)]) hx hb d_Fra_commonDivisor_29 hl (by decide) rfl (fun ls hl => ?_)
          refine lv_lload hx hb d_Fra_commonDivisor_31 (lv_at hl 2 rfl) ?_
          refine lv_lstore (lv' := [(4, .long h), (9, .long (g - g / h * h)), (8, .int j), (6, .long h)]) hx hb d_Fra_commonDivisor_33 hl (by decide) rfl (fun ls hl => ?_)
          refine lv_lload hx hb d_Fra_commonDivisor_35 (lv_at hl 1 rfl) ?_
          refine lv_lstore (lv' := [(6, .long (g - g / h * h)), (4, .long h), (9, .long (g - g / h * h)), (8, .int j)]) hx hb d_Fra_commonDivisor_37 hl (by decide) rfl (fun ls hl => ?_)
          refine lv_iinc (v := (j + 1)) (lv' := [(8, .int (j + 1)), (6, .long (g - g / h * h)), (4, .long h), (9, .long (g - g / h * h))]) hx hb d_Fra_commonDivisor_39 hl (k := 3) rfl rfl (by decide) rfl (fun ls hl => ?_)
          refine lv_goto (tgt := 9) hx hb d_Fra_commonDivisor_42 (by decide) ?_
          exact ih _ _ _ ls (by subst hj; rw [nI_1]; congr 1; omega) (by omega) (by rw [← hc]; simp only [cd, c_3, if_false]) (lv_sub hl [0, 1, 2] rfl)
  refine lv_lload_n hx hb d_Fra_commonDivisor_0 rfl (lv_at hl 0 rfl) ?_
  refine lv_lstore (lv' := [(4, .long one), (0, .long one), (2, .long oth)]) hx hb d_Fra_commonDivisor_1 hl (by decide) rfl (fun ls hl => ?_)
  refine lv_lload_n hx hb d_Fra_commonDivisor_3 rfl (lv_at hl 2 rfl) ?_
  refine lv_lstore (lv' := [(6, .long oth), (4, .long one), (0, .long one), (2, .long oth)]) hx hb d_Fra_commonDivisor_4 hl (by decide) rfl (fun ls hl => ?_)
  refine lv_iconst (v := 0) hx hb d_Fra_commonDivisor_6 (by decide) ?_
  refine lv_istore (lv' := [(8, .int 0), (6, .long oth), (4, .long one), (0, .long one), (2, .long oth)]) hx hb d_Fra_commonDivisor_7 hl (by decide) rfl (fun ls hl => ?_)
  exact LOOP 128 one oth 0 ls (by decide) (Nat.le_refl _) rfl (lv_sub hl [0, 1, 2] rfl)
def fr_g (a b : Int64) : Int64 := cd 128 (jabs a) (jabs b)
def fr_a (a b : Int64) : Int64 := a / fr_g a b
def fr_b (a b : Int64) : Int64 := b / fr_g a b
def fr_ok (a b : Int64) : Bool := !decide (fr_g a b = 0) && (!decide (b = 0) && (!decide (1000000000 < jabs (fr_a a b)) && decide (jabs (fr_b a b) ≤ 1000000000)))
def fr_n (fn : Nat → Int64) (i : Nat) (a b : Int64) : Nat → Int64 := if fr_ok a b = true then vp_updL fn i (if 0 ≤ fr_b a b then fr_a a b else -fr_a a b) else fn
def fr_d (fd : Nat → Int64) (i : Nat) (a b : Int64) : Nat → Int64 := if fr_ok a b = true then vp_updL fd i (jabs (fr_b a b)) else fd
theorem hd_Fra_set : y_Fra_set.cls = "PriceLines$Fraction" ∧ y_Fra_set.cls ≠ "java/lang/invoke/MethodHandle" ∧ y_Fra_set.cls ≠ "java/lang/invoke/VarHandle" ∧ (parseMethodDescriptor y_Fra_set.desc).map (fun d => d.parameters.length) = some 2 := by decide +kernel
set_option maxHeartbeats 1000000 in
set_option maxRecDepth 100000 in
theorem c_Fra_set (l : Launch) (D : va_G) (ta : Nat → ClassId) (fa : Nat → Nat) (fn fd : Nat → Int64) (n : Nat) (i : Nat) (hi : i < n) (a b : Int64) : ∀ sz, Met l y_Fra_set w_Fra_set { frames := 1, cells := 0, slots := 0, locals := 30 } (va_Pc [.ref (fa i), .long a, .long b] (pW D ta (fpool fa fn fd n) sz)) (eI D ta (va_A (fpool fa fn fd n) sz) (b2i (fr_ok a b)) (fpool fa (fr_n fn i a b) (fr_d fd i a b) n)) 0 0 (va_A (fpool fa fn fd n) sz) := by
  refine opn_Z (bytes := b_Fra_set) (maxL := 11) (by decide +kernel) rfl (Nat.le_of_ble_eq_true rfl) ?_
  intro p e s m below meth c A ls hx hb hr hml hown hlocks hnm hw hK hN hP hD hA hS hl
  have hl : lv_has ls 11 [(0, .ref (fa i)), (1, .long a), (3, .long b)] := hl
  refine lv_lload_n hx hb d_Fra_set_0 rfl (lv_at hl 1 rfl) ?_
  refine va_mabs_long (own := "PriceLines$Fraction") (x := a) hx hb (hml.trans hl.1.symm) hown (hw _ W2_64) (hw _ W2_65) (hw _ W1_17) (hw _ W2_66) (Nat.le_of_ble_eq_true rfl) (Nat.le_of_ble_eq_true rfl) (Nat.zero_le _) (Nat.zero_le _) d_Fra_set_1 ?_
  refine lv_retop (w := .long (jabs a)) rfl ?_
  refine lv_lload_n hx hb d_Fra_set_4 rfl (lv_at hl 2 rfl) ?_
  refine va_mabs_long (own := "PriceLines$Fraction") (x := b) hx hb (hml.trans hl.1.symm) hown (hw _ W2_64) (hw _ W2_65) (hw _ W1_17) (hw _ W2_66) (Nat.le_of_ble_eq_true rfl) (Nat.le_of_ble_eq_true rfl) (Nat.zero_le _) (Nat.zero_le _) d_Fra_set_5 ?_
  refine lv_retop (w := .long (jabs b)) rfl ?_
  refine kS_l (rest := []) (As := [.long (jabs a), .long (jabs b)]) (w2 := (fpool fa fn fd n)) ⟨hx, hb, hml, hown, hw⟩ (c_Fra_commonDivisor l D ta (jabs a) (jabs b)) W2_67 W2_68 W1_5 W2_69 rfl rfl rfl hd_Fra_commonDivisor ⟨Nat.le_of_ble_eq_true rfl, Nat.le_of_ble_eq_true rfl⟩ hK hN hP hD hS hA Spl.none rfl hl.1 rfl (Nat.le_of_ble_eq_true rfl) ⟨Nat.zero_le _, Nat.zero_le _⟩ d_Fra_set_8 (fun H locs hP hD hS => ?_)
  refine lv_lstore (lv' := [(5, .long (cd 128 (jabs a) (jabs b))), (0, .ref (fa i)), (1, .long a), (3, .long b)]) hx hb d_Fra_set_11 hl (by decide) rfl (fun ls hl => ?_)
  refine lv_lload hx hb d_Fra_set_13 (lv_at hl 0 rfl) ?_
  refine lv_lconst (v := 0) hx hb d_Fra_set_15 (by decide) ?_
  refine lc_eq (tgt := 26) hx hb d_Fra_set_16 d_Fra_set_17 (by decide) (fun c_1 => ?_) (fun c_1 => ?_)
  · refine lv_iconst (v := 0) hx hb d_Fra_set_26 (by decide) ?_
    exact fin_z hx hb hr hlocks hK hP hD hS d_Fra_set_27 rfl (by simp only [fr_n, fr_d, fr_ok, fr_a, fr_b, fr_g, eq_true c_1, decide_true, decide_false, Bool.not_true, Bool.not_false, Bool.and_true, Bool.true_and, Bool.and_false, Bool.false_and, Bool.or_true, Bool.true_or, Bool.or_false, Bool.false_or, if_true, if_false, reduceIte, Bool.false_eq_true, b2i]) (by simp only [fr_n, fr_d, fr_ok, fr_a, fr_b, fr_g, eq_true c_1, decide_true, decide_false, Bool.not_true, Bool.not_false, Bool.and_true, Bool.true_and, Bool.and_false, Bool.false_and, Bool.or_true, Bool.true_or, Bool.or_false, Bool.false_or, if_true, if_false, reduceIte, Bool.false_eq_true, b2i])
  · refine lv_lload_n hx hb d_Fra_set_20 rfl (lv_at hl 3 rfl) ?_
    refine lv_lconst (v := 0) hx hb d_Fra_set_21 (by decide) ?_
    refine lc_ne (tgt := 28) hx hb d_Fra_set_22 d_Fra_set_23 (by decide) (fun c_2 => ?_) (fun c_2 => ?_)
    · refine lv_lload_n hx hb d_Fra_set_28 rfl (lv_at hl 2 rfl) ?_
      refine lv_lload hx hb d_Fra_set_29 (lv_at hl 0 rfl) ?_
      have h_3 : ¬ (cd 128 (jabs a) (jabs b)) = 0 := c_1
      refine lv_ldiv hx hb d_Fra_set_31 h_3 ?_
      refine lv_lstore (lv' := [(7, .long (a / (cd 128 (jabs a) (jabs b)))), (5, .long (cd 128 (jabs a) (jabs b))), (0, .ref (fa i)), (1, .long a), (3, .long b)]) hx hb d_Fra_set_32 hl (by decide) rfl (fun ls hl => ?_)
      refine lv_lload_n hx hb d_Fra_set_34 rfl (lv_at hl 4 rfl) ?_
      refine lv_lload hx hb d_Fra_set_35 (lv_at hl 1 rfl) ?_
      have h_4 : ¬ (cd 128 (jabs a) (jabs b)) = 0 := c_1
      refine lv_ldiv hx hb d_Fra_set_37 h_4 ?_
      refine lv_lstore (lv' := [(9, .long (b / (cd 128 (jabs a) (jabs b)))), (7, .long (a / (cd 128 (jabs a) (jabs b)))), (5, .long (cd 128 (jabs a) (jabs b))), (0, .ref (fa i)), (1, .long a), (3, .long b)]) hx hb d_Fra_set_38 hl (by decide) rfl (fun ls hl => ?_)
      refine lv_lload hx hb d_Fra_set_40 (lv_at hl 1 rfl) ?_
      refine va_mabs_long (own := "PriceLines$Fraction") (x := (a / (cd 128 (jabs a) (jabs b)))) hx hb (hml.trans hl.1.symm) hown (hw _ W2_64) (hw _ W2_65) (hw _ W1_17) (hw _ W2_66) (Nat.le_of_ble_eq_true rfl) (Nat.le_of_ble_eq_true rfl) (Nat.zero_le _) (Nat.zero_le _) d_Fra_set_42 ?_
      refine lv_retop (w := .long (jabs (a / (cd 128 (jabs a) (jabs b))))) rfl ?_
      refine lv_ldc2 (v := 1000000000) hx hb hown (hw _ W2_70) d_Fra_set_45 ?_
      refine lc_gt (tgt := 64) hx hb d_Fra_set_48 d_Fra_set_49 (by decide) (fun c_5 => ?_) (fun c_5 => ?_)
      · refine lv_iconst (v := 0) hx hb d_Fra_set_64 (by decide) ?_
        exact fin_z hx hb hr hlocks hK hP hD hS d_Fra_set_65 rfl (by simp only [fr_n, fr_d, fr_ok, fr_a, fr_b, fr_g, c_1, c_2, c_5, decide_true, decide_false, Bool.not_true, Bool.not_false, Bool.and_true, Bool.true_and, Bool.and_false, Bool.false_and, Bool.or_true, Bool.true_or, Bool.or_false, Bool.false_or, if_true, if_false, reduceIte, Bool.false_eq_true, b2i]) (by simp only [fr_n, fr_d, fr_ok, fr_a, fr_b, fr_g, c_1, c_2, c_5, decide_true, decide_false, Bool.not_true, Bool.not_false, Bool.and_true, Bool.true_and, Bool.and_false, Bool.false_and, Bool.or_true, Bool.true_or, Bool.or_false, Bool.false_or, if_true, if_false, reduceIte, Bool.false_eq_true, b2i])
      · refine lv_lload hx hb d_Fra_set_52 (lv_at hl 0 rfl) ?_
        refine va_mabs_long (own := "PriceLines$Fraction") (x := (b / (cd 128 (jabs a) (jabs b)))) hx hb (hml.trans hl.1.symm) hown (hw _ W2_64) (hw _ W2_65) (hw _ W1_17) (hw _ W2_66) (Nat.le_of_ble_eq_true rfl) (Nat.le_of_ble_eq_true rfl) (Nat.zero_le _) (Nat.zero_le _) d_Fra_set_54 ?_
        refine lv_retop (w := .long (jabs (b / (cd 128 (jabs a) (jabs b))))) rfl ?_
        refine lv_ldc2 (v := 1000000000) hx hb hown (hw _ W2_70) d_Fra_set_57 ?_
        refine lc_le (tgt := 66) hx hb d_Fra_set_60 d_Fra_set_61 (by decide) (fun c_6 => ?_) (fun c_6 => ?_)
        · refine lv_aload_n hx hb d_Fra_set_66 rfl (lv_at hl 3 rfl) ?_
          refine lv_lload hx hb d_Fra_set_67 (lv_at hl 0 rfl) ?_
          refine lv_lconst (v := 0) hx hb d_Fra_set_69 (by decide) ?_
          refine lc_ge (tgt := 80) hx hb d_Fra_set_70 d_Fra_set_71 (by decide) (fun c_7 => ?_) (fun c_7 => ?_)
          · refine lv_lload hx hb d_Fra_set_80 (lv_at hl 1 rfl) ?_
            refine va_put (D := D) (ci := 2) (v := .long (a / (cd 128 (jabs a) (jabs b)))) (ty := .long) (C := "PriceLines$Fraction") (T := F_Fra) (N := 2) hx hb hw in_Fra t_Fra tk_Fra n_Fra hown hK hP hD hS i (fp_get hi) rfl 0 (by decide) (hw _ W1_73) (fun _ h9 => h9) rfl (tk_Fra 0 (by decide)) rfl rfl (Nat.le_of_ble_eq_true rfl) d_Fra_set_82 (fun H locs hP hD hS => ?_)
            have hP := (fp_set0 (fa := fa) (fn := fn) (fd := fd) (x := (a / (cd 128 (jabs a) (jabs b)))) hi) ▸ hP
            have hD := (fp_set0 (fa := fa) (fn := fn) (fd := fd) (x := (a / (cd 128 (jabs a) (jabs b)))) hi) ▸ hD
            have hP : va_P D vwCl (fpool fa (vp_updL fn i (a / (cd 128 (jabs a) (jabs b)))) fd n) H := hP
            have hD : va_D A (fpool fa (vp_updL fn i (a / (cd 128 (jabs a) (jabs b)))) fd n) := hD
            refine lv_aload_n hx hb d_Fra_set_85 rfl (lv_at hl 3 rfl) ?_
            refine lv_lload hx hb d_Fra_set_86 (lv_at hl 0 rfl) ?_
            refine va_mabs_long (own := "PriceLines$Fraction") (x := (b / (cd 128 (jabs a) (jabs b)))) hx hb (hml.trans hl.1.symm) hown (hw _ W2_64) (hw _ W2_65) (hw _ W1_17) (hw _ W2_66) (Nat.le_of_ble_eq_true rfl) (Nat.le_of_ble_eq_true rfl) (Nat.zero_le _) (Nat.zero_le _) d_Fra_set_88 ?_
            refine lv_retop (w := .long (jabs (b / (cd 128 (jabs a) (jabs b))))) rfl ?_
            refine va_put (D := D) (ci := 2) (v := .long (jabs (b / (cd 128 (jabs a) (jabs b))))) (ty := .long) (C := "PriceLines$Fraction") (T := F_Fra) (N := 2) hx hb hw in_Fra t_Fra tk_Fra n_Fra hown hK hP hD hS i (fp_get hi) rfl 1 (by decide) (hw _ W1_75) (fun _ h9 => h9) rfl (tk_Fra 1 (by decide)) rfl rfl (Nat.le_of_ble_eq_true rfl) d_Fra_set_91 (fun H locs hP hD hS => ?_)
            have hP := (fp_set1 (fa := fa) (fn := (vp_updL fn i (a / (cd 128 (jabs a) (jabs b))))) (fd := fd) (x := (jabs (b / (cd 128 (jabs a) (jabs b))))) hi) ▸ hP
            have hD := (fp_set1 (fa := fa) (fn := (vp_updL fn i (a / (cd 128 (jabs a) (jabs b))))) (fd := fd) (x := (jabs (b / (cd 128 (jabs a) (jabs b))))) hi) ▸ hD
            have hP : va_P D vwCl (fpool fa (vp_updL fn i (a / (cd 128 (jabs a) (jabs b)))) (vp_updL fd i (jabs (b / (cd 128 (jabs a) (jabs b))))) n) H := hP
            have hD : va_D A (fpool fa (vp_updL fn i (a / (cd 128 (jabs a) (jabs b)))) (vp_updL fd i (jabs (b / (cd 128 (jabs a) (jabs b))))) n) := hD
            refine lv_iconst (v := 1) hx hb d_Fra_set_94 (by decide) ?_
            exact fin_z hx hb hr hlocks hK hP hD hS d_Fra_set_95 rfl (by simp only [fr_n, fr_d, fr_ok, fr_a, fr_b, fr_g, c_1, c_2, c_5, c_6, c_7, decide_true, decide_false, Bool.not_true, Bool.not_false, Bool.and_true, Bool.true_and, Bool.and_false, Bool.false_and, Bool.or_true, Bool.true_or, Bool.or_false, Bool.false_or, if_true, if_false, reduceIte, Bool.false_eq_true, b2i]) (by simp only [fr_n, fr_d, fr_ok, fr_a, fr_b, fr_g, c_1, c_2, c_5, c_6, c_7, decide_true, decide_false, Bool.not_true, Bool.not_false, Bool.and_true, Bool.true_and, Bool.and_false, Bool.false_and, Bool.or_true, Bool.true_or, Bool.or_false, Bool.false_or, if_true, if_false, reduceIte, Bool.false_eq_true, b2i])
          · refine lv_lload hx hb d_Fra_set_74 (lv_at hl 1 rfl) ?_
            refine lv_lneg hx hb d_Fra_set_76 ?_
            refine lv_goto (tgt := 82) hx hb d_Fra_set_77 (by decide) ?_
            refine va_put (D := D) (ci := 2) (v := .long (-(a / (cd 128 (jabs a) (jabs b))))) (ty := .long) (C := "PriceLines$Fraction") (T := F_Fra) (N := 2) hx hb hw in_Fra t_Fra tk_Fra n_Fra hown hK hP hD hS i (fp_get hi) rfl 0 (by decide) (hw _ W1_73) (fun _ h9 => h9) rfl (tk_Fra 0 (by decide)) rfl rfl (Nat.le_of_ble_eq_true rfl) d_Fra_set_82 (fun H locs hP hD hS => ?_)
            have hP := (fp_set0 (fa := fa) (fn := fn) (fd := fd) (x := (-(a / (cd 128 (jabs a) (jabs b))))) hi) ▸ hP
            have hD := (fp_set0 (fa := fa) (fn := fn) (fd := fd) (x := (-(a / (cd 128 (jabs a) (jabs b))))) hi) ▸ hD
            have hP : va_P D vwCl (fpool fa (vp_updL fn i (-(a / (cd 128 (jabs a) (jabs b))))) fd n) H := hP
            have hD : va_D A (fpool fa (vp_updL fn i (-(a / (cd 128 (jabs a) (jabs b))))) fd n) := hD
            refine lv_aload_n hx hb d_Fra_set_85 rfl (lv_at hl 3 rfl) ?_
            refine lv_lload hx hb d_Fra_set_86 (lv_at hl 0 rfl) ?_
            refine va_mabs_long (own := "PriceLines$Fraction") (x := (b / (cd 128 (jabs a) (jabs b)))) hx hb (hml.trans hl.1.symm) hown (hw _ W2_64) (hw _ W2_65) (hw _ W1_17) (hw _ W2_66) (Nat.le_of_ble_eq_true rfl) (Nat.le_of_ble_eq_true rfl) (Nat.zero_le _) (Nat.zero_le _) d_Fra_set_88 ?_
            refine lv_retop (w := .long (jabs (b / (cd 128 (jabs a) (jabs b))))) rfl ?_
            refine va_put (D := D) (ci := 2) (v := .long (jabs (b / (cd 128 (jabs a) (jabs b))))) (ty := .long) (C := "PriceLines$Fraction") (T := F_Fra) (N := 2) hx hb hw in_Fra t_Fra tk_Fra n_Fra hown hK hP hD hS i (fp_get hi) rfl 1 (by decide) (hw _ W1_75) (fun _ h9 => h9) rfl (tk_Fra 1 (by decide)) rfl rfl (Nat.le_of_ble_eq_true rfl) d_Fra_set_91 (fun H locs hP hD hS => ?_)
            have hP := (fp_set1 (fa := fa) (fn := (vp_updL fn i (-(a / (cd 128 (jabs a) (jabs b)))))) (fd := fd) (x := (jabs (b / (cd 128 (jabs a) (jabs b))))) hi) ▸ hP
            have hD := (fp_set1 (fa := fa) (fn := (vp_updL fn i (-(a / (cd 128 (jabs a) (jabs b)))))) (fd := fd) (x := (jabs (b / (cd 128 (jabs a) (jabs b))))) hi) ▸ hD
            have hP : va_P D vwCl (fpool fa (vp_updL fn i (-(a / (cd 128 (jabs a) (jabs b))))) (vp_updL fd i (jabs (b / (cd 128 (jabs a) (jabs b))))) n) H := hP
            have hD : va_D A (fpool fa (vp_updL fn i (-(a / (cd 128 (jabs a) (jabs b))))) (vp_updL fd i (jabs (b / (cd 128 (jabs a) (jabs b))))) n) := hD
            refine lv_iconst (v := 1) hx hb d_Fra_set_94 (by decide) ?_
            exact fin_z hx hb hr hlocks hK hP hD hS d_Fra_set_95 rfl (by simp only [fr_n, fr_d, fr_ok, fr_a, fr_b, fr_g, c_1, c_2, c_5, c_6, c_7, decide_true, decide_false, Bool.not_true, Bool.not_false, Bool.and_true, Bool.true_and, Bool.and_false, Bool.false_and, Bool.or_true, Bool.true_or, Bool.or_false, Bool.false_or, if_true, if_false, reduceIte, Bool.false_eq_true, b2i]) (by simp only [fr_n, fr_d, fr_ok, fr_a, fr_b, fr_g, c_1, c_2, c_5, c_6, c_7, decide_true, decide_false, Bool.not_true, Bool.not_false, Bool.and_true, Bool.true_and, Bool.and_false, Bool.false_and, Bool.or_true, Bool.true_or, Bool.or_false, Bool.false_or, if_true, if_false, reduceIte, Bool.false_eq_true, b2i])
        · refine lv_iconst (v := 0) hx hb d_Fra_set_64 (by decide) ?_
          exact fin_z hx hb hr hlocks hK hP hD hS d_Fra_set_65 rfl (by simp only [fr_n, fr_d, fr_ok, fr_a, fr_b, fr_g, c_1, c_2, c_5, c_6, decide_true, decide_false, Bool.not_true, Bool.not_false, Bool.and_true, Bool.true_and, Bool.and_false, Bool.false_and, Bool.or_true, Bool.true_or, Bool.or_false, Bool.false_or, if_true, if_false, reduceIte, Bool.false_eq_true, b2i]) (by simp only [fr_n, fr_d, fr_ok, fr_a, fr_b, fr_g, c_1, c_2, c_5, c_6, decide_true, decide_false, Bool.not_true, Bool.not_false, Bool.and_true, Bool.true_and, Bool.and_false, Bool.false_and, Bool.or_true, Bool.true_or, Bool.or_false, Bool.false_or, if_true, if_false, reduceIte, Bool.false_eq_true, b2i])
    · refine lv_iconst (v := 0) hx hb d_Fra_set_26 (by decide) ?_
      exact fin_z hx hb hr hlocks hK hP hD hS d_Fra_set_27 rfl (by simp only [fr_n, fr_d, fr_ok, fr_a, fr_b, fr_g, c_1, eq_true c_2, decide_true, decide_false, Bool.not_true, Bool.not_false, Bool.and_true, Bool.true_and, Bool.and_false, Bool.false_and, Bool.or_true, Bool.true_or, Bool.or_false, Bool.false_or, if_true, if_false, reduceIte, Bool.false_eq_true, b2i]) (by simp only [fr_n, fr_d, fr_ok, fr_a, fr_b, fr_g, c_1, eq_true c_2, decide_true, decide_false, Bool.not_true, Bool.not_false, Bool.and_true, Bool.true_and, Bool.and_false, Bool.false_and, Bool.or_true, Bool.true_or, Bool.or_false, Bool.false_or, if_true, if_false, reduceIte, Bool.false_eq_true, b2i])
