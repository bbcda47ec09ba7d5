theorem ne0_1 {y : Int64} (h : 1 ≤ y) : ¬ y = 0 := fun q => by subst q; exact absurd h (by decide)
def hun (a b : Int64) : Int64 := if 1 ≤ b * 2 then flD (a * 200 + b) (b * 2) else 0
theorem hd_Fra_copy : y_Fra_copy.cls = "PriceLines$Fraction" ∧ y_Fra_copy.cls ≠ "java/lang/invoke/MethodHandle" ∧ y_Fra_copy.cls ≠ "java/lang/invoke/VarHandle" ∧ (parseMethodDescriptor y_Fra_copy.desc).map (fun d => d.parameters.length) = some 1 := by decide +kernel
set_option maxHeartbeats 1000000 in
set_option maxRecDepth 100000 in
theorem c_Fra_copy (l : Launch) (D : va_G) (ta : Nat → ClassId) (fa : Nat → Nat) (fn fd : Nat → Int64) (n : Nat) (i : Nat) (hi : i < n) (j : Nat) (hj : j < n) : ∀ sz, Met l y_Fra_copy w_Fra_copy { frames := 0, cells := 0, slots := 0, locals := 0 } (va_Pc [.ref (fa i), .ref (fa j)] (pW D ta (fpool fa fn fd n) sz)) (eV D ta (va_A (fpool fa fn fd n) sz) (fpool fa (vp_updL fn i (fn j)) (vp_updL fd i (fd j)) n)) 0 0 (va_A (fpool fa fn fd n) sz) := by
  refine opn_V (bytes := b_Fra_copy) (maxL := 2) (by decide +kernel) rfl (Nat.le_of_ble_eq_true rfl) ?_
  intro p e s m below meth c A ls hx hb hr hml hown hlocks hnm hw hK hN hP hD hA hS hl
  have hl : lv_has ls 2 [(0, .ref (fa i)), (1, .ref (fa j))] := hl
  refine lv_aload_n hx hb d_Fra_copy_0 rfl (lv_at hl 0 rfl) ?_
  refine lv_aload_n hx hb d_Fra_copy_1 rfl (lv_at hl 1 rfl) ?_
  refine va_get (D := D) (ci := 2) (v := .long (fn j)) (C := "PriceLines$Fraction") (T := F_Fra) (N := 2) hx hb hw in_Fra hown hK hP j (fp_get hj) rfl 0 (by decide) (hw _ W1_73) (fun _ h9 => h9) rfl d_Fra_copy_2 ?_
  refine va_put (D := D) (ci := 2) (v := .long (fn j)) (ty := .long) (C := "PriceLines$Fraction") (T := F_Fra) (N := 2) hx hb hw in_Fra t_Fra tk_Fra n_Fra hown hK hP hD hS i (fp_get hi) rfl 0 (by decide) (hw _ W1_73) (fun _ h9 => h9) rfl (tk_Fra 0 (by decide)) rfl rfl (Nat.le_of_ble_eq_true rfl) d_Fra_copy_5 (fun H locs hP hD hS => ?_)
  have hP := (fp_set0 (fa := fa) (fn := fn) (fd := fd) (x := (fn j)) hi) ▸ hP
  have hD := (fp_set0 (fa := fa) (fn := fn) (fd := fd) (x := (fn j)) hi) ▸ hD
  have hP : va_P D vwCl (fpool fa (vp_updL fn i (fn j)) fd n) H := hP
  have hD : va_D A (fpool fa (vp_updL fn i (fn j)) fd n) := hD
  refine lv_aload_n hx hb d_Fra_copy_8 rfl (lv_at hl 0 rfl) ?_
  refine lv_aload_n hx hb d_Fra_copy_9 rfl (lv_at hl 1 rfl) ?_
  refine va_get (D := D) (ci := 2) (v := .long (fd j)) (C := "PriceLines$Fraction") (T := F_Fra) (N := 2) hx hb hw in_Fra hown hK hP j (fp_get hj) rfl 1 (by decide) (hw _ W1_75) (fun _ h9 => h9) rfl d_Fra_copy_10 ?_
  refine va_put (D := D) (ci := 2) (v := .long (fd j)) (ty := .long) (C := "PriceLines$Fraction") (T := F_Fra) (N := 2) hx hb hw in_Fra t_Fra tk_Fra n_Fra hown hK hP hD hS i (fp_get hi) rfl 1 (by decide) (hw _ W1_75) (fun _ h9 => h9) rfl (tk_Fra 1 (by decide)) rfl rfl (Nat.le_of_ble_eq_true rfl) d_Fra_copy_13 (fun H locs hP hD hS => ?_)
  have hP := (fp_set1 (fa := fa) (fn := (vp_updL fn i (fn j))) (fd := fd) (x := (fd j)) hi) ▸ hP
  have hD := (fp_set1 (fa := fa) (fn := (vp_updL fn i (fn j))) (fd := fd) (x := (fd j)) hi) ▸ hD
  have hP : va_P D vwCl (fpool fa (vp_updL fn i (fn j)) (vp_updL fd i (fd j)) n) H := hP
  have hD : va_D A (fpool fa (vp_updL fn i (fn j)) (vp_updL fd i (fd j)) n) := hD
  exact fin_v hx hb hr hlocks hK hP hD hS d_Fra_copy_16 rfl
theorem hd_Fra_add : y_Fra_add.cls = "PriceLines$Fraction" ∧ y_Fra_add.cls ≠ "java/lang/invoke/MethodHandle" ∧ y_Fra_add.cls ≠ "java/lang/invoke/VarHandle" ∧ (parseMethodDescriptor y_Fra_add.desc).map (fun d => d.parameters.length) = some 1 := by decide +kernel
set_option maxHeartbeats 1000000 in
set_option maxRecDepth 100000 in
theorem c_Fra_add (l : Launch) (D : va_G) (ta : Nat → ClassId) (fa : Nat → Nat) (fn fd : Nat → Int64) (n : Nat) (i : Nat) (hi : i < n) (j : Nat) (hj : j < n) : ∀ sz, Met l y_Fra_add w_Fra_add { frames := 2, cells := 0, slots := 0, locals := 60 } (va_Pc [.ref (fa i), .ref (fa j)] (pW D ta (fpool fa fn fd n) sz)) (eI D ta (va_A (fpool fa fn fd n) sz) (b2i (fr_ok (fn i * fd j + fn j * fd i) (fd i * fd j))) (fpool fa (fr_n fn i (fn i * fd j + fn j * fd i) (fd i * fd j)) (fr_d fd i (fn i * fd j + fn j * fd i) (fd i * fd j)) n)) 0 0 (va_A (fpool fa fn fd n) sz) := by
  refine opn_Z (bytes := b_Fra_add) (maxL := 2) (by decide +kernel) rfl (Nat.le_of_ble_eq_true rfl) ?_
  intro p e s m below meth c A ls hx hb hr hml hown hlocks hnm hw hK hN hP hD hA hS hl
  have hl : lv_has ls 2 [(0, .ref (fa i)), (1, .ref (fa j))] := hl
  refine lv_aload_n hx hb d_Fra_add_0 rfl (lv_at hl 0 rfl) ?_
  refine lv_aload_n hx hb d_Fra_add_1 rfl (lv_at hl 0 rfl) ?_
  refine va_get (D := D) (ci := 2) (v := .long (fn i)) (C := "PriceLines$Fraction") (T := F_Fra) (N := 2) hx hb hw in_Fra hown hK hP i (fp_get hi) rfl 0 (by decide) (hw _ W1_73) (fun _ h9 => h9) rfl d_Fra_add_2 ?_
  refine lv_aload_n hx hb d_Fra_add_5 rfl (lv_at hl 1 rfl) ?_
  refine va_get (D := D) (ci := 2) (v := .long (fd j)) (C := "PriceLines$Fraction") (T := F_Fra) (N := 2) hx hb hw in_Fra hown hK hP j (fp_get hj) rfl 1 (by decide) (hw _ W1_75) (fun _ h9 => h9) rfl d_Fra_add_6 ?_
  refine lv_lmul hx hb d_Fra_add_9 ?_
  refine lv_aload_n hx hb d_Fra_add_10 rfl (lv_at hl 1 rfl) ?_
  refine va_get (D := D) (ci := 2) (v := .long (fn j)) (C := "PriceLines$Fraction") (T := F_Fra) (N := 2) hx hb hw in_Fra hown hK hP j (fp_get hj) rfl 0 (by decide) (hw _ W1_73) (fun _ h9 => h9) rfl d_Fra_add_11 ?_
  refine lv_aload_n hx hb d_Fra_add_14 rfl (lv_at hl 0 rfl) ?_
  refine va_get (D := D) (ci := 2) (v := .long (fd i)) (C := "PriceLines$Fraction") (T := F_Fra) (N := 2) hx hb hw in_Fra hown hK hP i (fp_get hi) rfl 1 (by decide) (hw _ W1_75) (fun _ h9 => h9) rfl d_Fra_add_15 ?_
  refine lv_lmul hx hb d_Fra_add_18 ?_
  refine lv_ladd hx hb d_Fra_add_19 ?_
  refine lv_aload_n hx hb d_Fra_add_20 rfl (lv_at hl 0 rfl) ?_
  refine va_get (D := D) (ci := 2) (v := .long (fd i)) (C := "PriceLines$Fraction") (T := F_Fra) (N := 2) hx hb hw in_Fra hown hK hP i (fp_get hi) rfl 1 (by decide) (hw _ W1_75) (fun _ h9 => h9) rfl d_Fra_add_21 ?_
  refine lv_aload_n hx hb d_Fra_add_24 rfl (lv_at hl 1 rfl) ?_
  refine va_get (D := D) (ci := 2) (v := .long (fd j)) (C := "PriceLines$Fraction") (T := F_Fra) (N := 2) hx hb hw in_Fra hown hK hP j (fp_get hj) rfl 1 (by decide) (hw _ W1_75) (fun _ h9 => h9) rfl d_Fra_add_25 ?_
  refine lv_lmul hx hb d_Fra_add_28 ?_
  refine kV_i (rest := []) (As := [.long (((fn i) * (fd j)) + ((fn j) * (fd i))), .long ((fd i) * (fd j))]) (w2 := (fpool fa (fr_n fn i (((fn i) * (fd j)) + ((fn j) * (fd i))) ((fd i) * (fd j))) (fr_d fd i (((fn i) * (fd j)) + ((fn j) * (fd i))) ((fd i) * (fd j))) n)) (q0 := i) (ci := 2) ⟨hx, hb, hml, hown, hw⟩ (c_Fra_set l D ta fa fn fd n i hi (((fn i) * (fd j)) + ((fn j) * (fd i))) ((fd i) * (fd j))) W2_133 W2_61 W2_62 W1_5 W2_63 rfl rfl rfl hd_Fra_set ⟨Nat.le_of_ble_eq_true rfl, Nat.le_of_ble_eq_true rfl⟩ hK hN hP hD hS hA Spl.id (fp_get hi) rfl rfl rfl hl.1 rfl (Nat.le_of_ble_eq_true rfl) ⟨Nat.zero_le _, Nat.zero_le _⟩ d_Fra_add_29 (fun H locs hP hD hS => ?_)
  exact fin_z hx hb hr hlocks hK hP hD hS d_Fra_add_32 (nar_b2i _) rfl rfl
theorem hd_Fra_subtract : y_Fra_subtract.cls = "PriceLines$Fraction" ∧ y_Fra_subtract.cls ≠ "java/lang/invoke/MethodHandle" ∧ y_Fra_subtract.cls ≠ "java/lang/invoke/VarHandle" ∧ (parseMethodDescriptor y_Fra_subtract.desc).map (fun d => d.parameters.length) = some 1 := by decide +kernel
set_option maxHeartbeats 1000000 in
set_option maxRecDepth 100000 in
theorem c_Fra_subtract (l : Launch) (D : va_G) (ta : Nat → ClassId) (fa : Nat → Nat) (fn fd : Nat → Int64) (n : Nat) (i : Nat) (hi : i < n) (j : Nat) (hj : j < n) : ∀ sz, Met l y_Fra_subtract w_Fra_subtract { frames := 2, cells := 0, slots := 0, locals := 60 } (va_Pc [.ref (fa i), .ref (fa j)] (pW D ta (fpool fa fn fd n) sz)) (eI D ta (va_A (fpool fa fn fd n) sz) (b2i (fr_ok (fn i * fd j - fn j * fd i) (fd i * fd j))) (fpool fa (fr_n fn i (fn i * fd j - fn j * fd i) (fd i * fd j)) (fr_d fd i (fn i * fd j - fn j * fd i) (fd i * fd j)) n)) 0 0 (va_A (fpool fa fn fd n) sz) := by
  refine opn_Z (bytes := b_Fra_subtract) (maxL := 2) (by decide +kernel) rfl (Nat.le_of_ble_eq_true rfl) ?_
  intro p e s m below meth c A ls hx hb hr hml hown hlocks hnm hw hK hN hP hD hA hS hl
  have hl : lv_has ls 2 [(0, .ref (fa i)), (1, .ref (fa j))] := hl
  refine lv_aload_n hx hb d_Fra_subtract_0 rfl (lv_at hl 0 rfl) ?_
  refine lv_aload_n hx hb d_Fra_subtract_1 rfl (lv_at hl 0 rfl) ?_
  refine va_get (D := D) (ci := 2) (v := .long (fn i)) (C := "PriceLines$Fraction") (T := F_Fra) (N := 2) hx hb hw in_Fra hown hK hP i (fp_get hi) rfl 0 (by decide) (hw _ W1_73) (fun _ h9 => h9) rfl d_Fra_subtract_2 ?_
  refine lv_aload_n hx hb d_Fra_subtract_5 rfl (lv_at hl 1 rfl) ?_
  refine va_get (D := D) (ci := 2) (v := .long (fd j)) (C := "PriceLines$Fraction") (T := F_Fra) (N := 2) hx hb hw in_Fra hown hK hP j (fp_get hj) rfl 1 (by decide) (hw _ W1_75) (fun _ h9 => h9) rfl d_Fra_subtract_6 ?_
  refine lv_lmul hx hb d_Fra_subtract_9 ?_
  refine lv_aload_n hx hb d_Fra_subtract_10 rfl (lv_at hl 1 rfl) ?_
  refine va_get (D := D) (ci := 2) (v := .long (fn j)) (C := "PriceLines$Fraction") (T := F_Fra) (N := 2) hx hb hw in_Fra hown hK hP j (fp_get hj) rfl 0 (by decide) (hw _ W1_73) (fun _ h9 => h9) rfl d_Fra_subtract_11 ?_
  refine lv_aload_n hx hb d_Fra_subtract_14 rfl (lv_at hl 0 rfl) ?_
  refine va_get (D := D) (ci := 2) (v := .long (fd i)) (C := "PriceLines$Fraction") (T := F_Fra) (N := 2) hx hb hw in_Fra hown hK hP i (fp_get hi) rfl 1 (by decide) (hw _ W1_75) (fun _ h9 => h9) rfl d_Fra_subtract_15 ?_
  refine lv_lmul hx hb d_Fra_subtract_18 ?_
  refine lv_lsub hx hb d_Fra_subtract_19 ?_
  refine lv_aload_n hx hb d_Fra_subtract_20 rfl (lv_at hl 0 rfl) ?_
  refine va_get (D := D) (ci := 2) (v := .long (fd i)) (C := "PriceLines$Fraction") (T := F_Fra) (N := 2) hx hb hw in_Fra hown hK hP i (fp_get hi) rfl 1 (by decide) (hw _ W1_75) (fun _ h9 => h9) rfl d_Fra_subtract_21 ?_
  refine lv_aload_n hx hb d_Fra_subtract_24 rfl (lv_at hl 1 rfl) ?_
  refine va_get (D := D) (ci := 2) (v := .long (fd j)) (C := "PriceLines$Fraction") (T := F_Fra) (N := 2) hx hb hw in_Fra hown hK hP j (fp_get hj) rfl 1 (by decide) (hw _ W1_75) (fun _ h9 => h9) rfl d_Fra_subtract_25 ?_
  refine lv_lmul hx hb d_Fra_subtract_28 ?_
  refine kV_i (rest := []) (As := [.long (((fn i) * (fd j)) - ((fn j) * (fd i))), .long ((fd i) * (fd j))]) (w2 := (fpool fa (fr_n fn i (((fn i) * (fd j)) - ((fn j) * (fd i))) ((fd i) * (fd j))) (fr_d fd i (((fn i) * (fd j)) - ((fn j) * (fd i))) ((fd i) * (fd j))) n)) (q0 := i) (ci := 2) ⟨hx, hb, hml, hown, hw⟩ (c_Fra_set l D ta fa fn fd n i hi (((fn i) * (fd j)) - ((fn j) * (fd i))) ((fd i) * (fd j))) W2_133 W2_61 W2_62 W1_5 W2_63 rfl rfl rfl hd_Fra_set ⟨Nat.le_of_ble_eq_true rfl, Nat.le_of_ble_eq_true rfl⟩ hK hN hP hD hS hA Spl.id (fp_get hi) rfl rfl rfl hl.1 rfl (Nat.le_of_ble_eq_true rfl) ⟨Nat.zero_le _, Nat.zero_le _⟩ d_Fra_subtract_29 (fun H locs hP hD hS => ?_)
  exact fin_z hx hb hr hlocks hK hP hD hS d_Fra_subtract_32 (nar_b2i _) rfl rfl
theorem hd_Fra_multiply : y_Fra_multiply.cls = "PriceLines$Fraction" ∧ y_Fra_multiply.cls ≠ "java/lang/invoke/MethodHandle" ∧ y_Fra_multiply.cls ≠ "java/lang/invoke/VarHandle" ∧ (parseMethodDescriptor y_Fra_multiply.desc).map (fun d => d.parameters.length) = some 1 := by decide +kernel
set_option maxHeartbeats 1000000 in
set_option maxRecDepth 100000 in
theorem c_Fra_multiply (l : Launch) (D : va_G) (ta : Nat → ClassId) (fa : Nat → Nat) (fn fd : Nat → Int64) (n : Nat) (i : Nat) (hi : i < n) (j : Nat) (hj : j < n) : ∀ sz, Met l y_Fra_multiply w_Fra_multiply { frames := 2, cells := 0, slots := 0, locals := 60 } (va_Pc [.ref (fa i), .ref (fa j)] (pW D ta (fpool fa fn fd n) sz)) (eI D ta (va_A (fpool fa fn fd n) sz) (b2i (fr_ok (fn i * fn j) (fd i * fd j))) (fpool fa (fr_n fn i (fn i * fn j) (fd i * fd j)) (fr_d fd i (fn i * fn j) (fd i * fd j)) n)) 0 0 (va_A (fpool fa fn fd n) sz) := by
  refine opn_Z (bytes := b_Fra_multiply) (maxL := 2) (by decide +kernel) rfl (Nat.le_of_ble_eq_true rfl) ?_
  intro p e s m below meth c A ls hx hb hr hml hown hlocks hnm hw hK hN hP hD hA hS hl
  have hl : lv_has ls 2 [(0, .ref (fa i)), (1, .ref (fa j))] := hl
  refine lv_aload_n hx hb d_Fra_multiply_0 rfl (lv_at hl 0 rfl) ?_
  refine lv_aload_n hx hb d_Fra_multiply_1 rfl (lv_at hl 0 rfl) ?_
  refine va_get (D := D) (ci := 2) (v := .long (fn i)) (C := "PriceLines$Fraction") (T := F_Fra) (N := 2) hx hb hw in_Fra hown hK hP i (fp_get hi) rfl 0 (by decide) (hw _ W1_73) (fun _ h9 => h9) rfl d_Fra_multiply_2 ?_
  refine lv_aload_n hx hb d_Fra_multiply_5 rfl (lv_at hl 1 rfl) ?_
  refine va_get (D := D) (ci := 2) (v := .long (fn j)) (C := "PriceLines$Fraction") (T := F_Fra) (N := 2) hx hb hw in_Fra hown hK hP j (fp_get hj) rfl 0 (by decide) (hw _ W1_73) (fun _ h9 => h9) rfl d_Fra_multiply_6 ?_
  refine lv_lmul hx hb d_Fra_multiply_9 ?_
  refine lv_aload_n hx hb d_Fra_multiply_10 rfl (lv_at hl 0 rfl) ?_
  refine va_get (D := D) (ci := 2) (v := .long (fd i)) (C := "PriceLines$Fraction") (T := F_Fra) (N := 2) hx hb hw in_Fra hown hK hP i (fp_get hi) rfl 1 (by decide) (hw _ W1_75) (fun _ h9 => h9) rfl d_Fra_multiply_11 ?_
  refine lv_aload_n hx hb d_Fra_multiply_14 rfl (lv_at hl 1 rfl) ?_
  refine va_get (D := D) (ci := 2) (v := .long (fd j)) (C := "PriceLines$Fraction") (T := F_Fra) (N := 2) hx hb hw in_Fra hown hK hP j (fp_get hj) rfl 1 (by decide) (hw _ W1_75) (fun _ h9 => h9) rfl d_Fra_multiply_15 ?_
  refine lv_lmul hx hb d_Fra_multiply_18 ?_
  refine kV_i (rest := []) (As := [.long ((fn i) * (fn j)), .long ((fd i) * (fd j))]) (w2 := (fpool fa (fr_n fn i ((fn i) * (fn j)) ((fd i) * (fd j))) (fr_d fd i ((fn i) * (fn j)) ((fd i) * (fd j))) n)) (q0 := i) (ci := 2) ⟨hx, hb, hml, hown, hw⟩ (c_Fra_set l D ta fa fn fd n i hi ((fn i) * (fn j)) ((fd i) * (fd j))) W2_133 W2_61 W2_62 W1_5 W2_63 rfl rfl rfl hd_Fra_set ⟨Nat.le_of_ble_eq_true rfl, Nat.le_of_ble_eq_true rfl⟩ hK hN hP hD hS hA Spl.id (fp_get hi) rfl rfl rfl hl.1 rfl (Nat.le_of_ble_eq_true rfl) ⟨Nat.zero_le _, Nat.zero_le _⟩ d_Fra_multiply_19 (fun H locs hP hD hS => ?_)
  exact fin_z hx hb hr hlocks hK hP hD hS d_Fra_multiply_22 (nar_b2i _) rfl rfl
theorem hd_Fra_divide : y_Fra_divide.cls = "PriceLines$Fraction" ∧ y_Fra_divide.cls ≠ "java/lang/invoke/MethodHandle" ∧ y_Fra_divide.cls ≠ "java/lang/invoke/VarHandle" ∧ (parseMethodDescriptor y_Fra_divide.desc).map (fun d => d.parameters.length) = some 1 := by decide +kernel
set_option maxHeartbeats 1000000 in
set_option maxRecDepth 100000 in
theorem c_Fra_divide (l : Launch) (D : va_G) (ta : Nat → ClassId) (fa : Nat → Nat) (fn fd : Nat → Int64) (n : Nat) (i : Nat) (hi : i < n) (j : Nat) (hj : j < n) : ∀ sz, Met l y_Fra_divide w_Fra_divide { frames := 2, cells := 0, slots := 0, locals := 60 } (va_Pc [.ref (fa i), .ref (fa j)] (pW D ta (fpool fa fn fd n) sz)) (eI D ta (va_A (fpool fa fn fd n) sz) (b2i (fr_ok (fn i * fd j) (fd i * fn j))) (fpool fa (fr_n fn i (fn i * fd j) (fd i * fn j)) (fr_d fd i (fn i * fd j) (fd i * fn j)) n)) 0 0 (va_A (fpool fa fn fd n) sz) := by
  refine opn_Z (bytes := b_Fra_divide) (maxL := 2) (by decide +kernel) rfl (Nat.le_of_ble_eq_true rfl) ?_
  intro p e s m below meth c A ls hx hb hr hml hown hlocks hnm hw hK hN hP hD hA hS hl
  have hl : lv_has ls 2 [(0, .ref (fa i)), (1, .ref (fa j))] := hl
  refine lv_aload_n hx hb d_Fra_divide_0 rfl (lv_at hl 0 rfl) ?_
  refine lv_aload_n hx hb d_Fra_divide_1 rfl (lv_at hl 0 rfl) ?_
  refine va_get (D := D) (ci := 2) (v := .long (fn i)) (C := "PriceLines$Fraction") (T := F_Fra) (N := 2) hx hb hw in_Fra hown hK hP i (fp_get hi) rfl 0 (by decide) (hw _ W1_73) (fun _ h9 => h9) rfl d_Fra_divide_2 ?_
  refine lv_aload_n hx hb d_Fra_divide_5 rfl (lv_at hl 1 rfl) ?_
  refine va_get (D := D) (ci := 2) (v := .long (fd j)) (C := "PriceLines$Fraction") (T := F_Fra) (N := 2) hx hb hw in_Fra hown hK hP j (fp_get hj) rfl 1 (by decide) (hw _ W1_75) (fun _ h9 => h9) rfl d_Fra_divide_6 ?_
  refine lv_lmul hx hb d_Fra_divide_9 ?_
  refine lv_aload_n hx hb d_Fra_divide_10 rfl (lv_at hl 0 rfl) ?_
  refine va_get (D := D) (ci := 2) (v := .long (fd i)) (C := "PriceLines$Fraction") (T := F_Fra) (N := 2) hx hb hw in_Fra hown hK hP i (fp_get hi) rfl 1 (by decide) (hw _ W1_75) (fun _ h9 => h9) rfl d_Fra_divide_11 ?_
  refine lv_aload_n hx hb d_Fra_divide_14 rfl (lv_at hl 1 rfl) ?_
  refine va_get (D := D) (ci := 2) (v := .long (fn j)) (C := "PriceLines$Fraction") (T := F_Fra) (N := 2) hx hb hw in_Fra hown hK hP j (fp_get hj) rfl 0 (by decide) (hw _ W1_73) (fun _ h9 => h9) rfl d_Fra_divide_15 ?_
  refine lv_lmul hx hb d_Fra_divide_18 ?_
  refine kV_i (rest := []) (As := [.long ((fn i) * (fd j)), .long ((fd i) * (fn j))]) (w2 := (fpool fa (fr_n fn i ((fn i) * (fd j)) ((fd i) * (fn j))) (fr_d fd i ((fn i) * (fd j)) ((fd i) * (fn j))) n)) (q0 := i) (ci := 2) ⟨hx, hb, hml, hown, hw⟩ (c_Fra_set l D ta fa fn fd n i hi ((fn i) * (fd j)) ((fd i) * (fn j))) W2_133 W2_61 W2_62 W1_5 W2_63 rfl rfl rfl hd_Fra_set ⟨Nat.le_of_ble_eq_true rfl, Nat.le_of_ble_eq_true rfl⟩ hK hN hP hD hS hA Spl.id (fp_get hi) rfl rfl rfl hl.1 rfl (Nat.le_of_ble_eq_true rfl) ⟨Nat.zero_le _, Nat.zero_le _⟩ d_Fra_divide_19 (fun H locs hP hD hS => ?_)
  exact fin_z hx hb hr hlocks hK hP hD hS d_Fra_divide_22 (nar_b2i _) rfl rfl
theorem hd_Fra_divideByHundred : y_Fra_divideByHundred.cls = "PriceLines$Fraction" ∧ y_Fra_divideByHundred.cls ≠ "java/lang/invoke/MethodHandle" ∧ y_Fra_divideByHundred.cls ≠ "java/lang/invoke/VarHandle" ∧ (parseMethodDescriptor y_Fra_divideByHundred.desc).map (fun d => d.parameters.length) = some 0 := by decide +kernel
set_option maxHeartbeats 1000000 in
set_option maxRecDepth 100000 in
theorem c_Fra_divideByHundred (l : Launch) (D : va_G) (ta : Nat → ClassId) (fa : Nat → Nat) (fn fd : Nat → Int64) (n : Nat) (i : Nat) (hi : i < n) : ∀ sz, Met l y_Fra_divideByHundred w_Fra_divideByHundred { frames := 2, cells := 0, slots := 0, locals := 60 } (va_Pc [.ref (fa i)] (pW D ta (fpool fa fn fd n) sz)) (eI D ta (va_A (fpool fa fn fd n) sz) (b2i (fr_ok (fn i) (fd i * 100))) (fpool fa (fr_n fn i (fn i) (fd i * 100)) (fr_d fd i (fn i) (fd i * 100)) n)) 0 0 (va_A (fpool fa fn fd n) sz) := by
  refine opn_Z (bytes := b_Fra_divideByHundred) (maxL := 1) (by decide +kernel) rfl (Nat.le_of_ble_eq_true rfl) ?_
  intro p e s m below meth c A ls hx hb hr hml hown hlocks hnm hw hK hN hP hD hA hS hl
  have hl : lv_has ls 1 [(0, .ref (fa i))] := hl
  refine lv_aload_n hx hb d_Fra_divideByHundred_0 rfl (lv_at hl 0 rfl) ?_
  refine lv_aload_n hx hb d_Fra_divideByHundred_1 rfl (lv_at hl 0 rfl) ?_
  refine va_get (D := D) (ci := 2) (v := .long (fn i)) (C := "PriceLines$Fraction") (T := F_Fra) (N := 2) hx hb hw in_Fra hown hK hP i (fp_get hi) rfl 0 (by decide) (hw _ W1_73) (fun _ h9 => h9) rfl d_Fra_divideByHundred_2 ?_
  refine lv_aload_n hx hb d_Fra_divideByHundred_5 rfl (lv_at hl 0 rfl) ?_
  refine va_get (D := D) (ci := 2) (v := .long (fd i)) (C := "PriceLines$Fraction") (T := F_Fra) (N := 2) hx hb hw in_Fra hown hK hP i (fp_get hi) rfl 1 (by decide) (hw _ W1_75) (fun _ h9 => h9) rfl d_Fra_divideByHundred_6 ?_
  refine lv_ldc2 (v := 100) hx hb hown (hw _ W2_132) d_Fra_divideByHundred_9 ?_
  refine lv_lmul hx hb d_Fra_divideByHundred_12 ?_
  refine kV_i (rest := []) (As := [.long (fn i), .long ((fd i) * 100)]) (w2 := (fpool fa (fr_n fn i (fn i) ((fd i) * 100)) (fr_d fd i (fn i) ((fd i) * 100)) n)) (q0 := i) (ci := 2) ⟨hx, hb, hml, hown, hw⟩ (c_Fra_set l D ta fa fn fd n i hi (fn i) ((fd i) * 100)) W2_133 W2_61 W2_62 W1_5 W2_63 rfl rfl rfl hd_Fra_set ⟨Nat.le_of_ble_eq_true rfl, Nat.le_of_ble_eq_true rfl⟩ hK hN hP hD hS hA Spl.id (fp_get hi) rfl rfl rfl hl.1 rfl (Nat.le_of_ble_eq_true rfl) ⟨Nat.zero_le _, Nat.zero_le _⟩ d_Fra_divideByHundred_13 (fun H locs hP hD hS => ?_)
  exact fin_z hx hb hr hlocks hK hP hD hS d_Fra_divideByHundred_16 (nar_b2i _) rfl rfl
theorem hd_Fra_hundredths : y_Fra_hundredths.cls = "PriceLines$Fraction" ∧ y_Fra_hundredths.cls ≠ "java/lang/invoke/MethodHandle" ∧ y_Fra_hundredths.cls ≠ "java/lang/invoke/VarHandle" ∧ (parseMethodDescriptor y_Fra_hundredths.desc).map (fun d => d.parameters.length) = some 0 := by decide +kernel
set_option maxHeartbeats 1000000 in
set_option maxRecDepth 100000 in
theorem c_Fra_hundredths (l : Launch) (D : va_G) (ta : Nat → ClassId) (fa : Nat → Nat) (fn fd : Nat → Int64) (n : Nat) (i : Nat) (hi : i < n) : ∀ sz, Met l y_Fra_hundredths w_Fra_hundredths { frames := 1, cells := 0, slots := 0, locals := 25 } (va_Pc [.ref (fa i)] (pW D ta (fpool fa fn fd n) sz)) (eL D ta (va_A (fpool fa fn fd n) sz) (hun (fn i) (fd i)) (fpool fa fn fd n)) 0 0 (va_A (fpool fa fn fd n) sz) := by
  refine opn_L (bytes := b_Fra_hundredths) (maxL := 3) (by decide +kernel) rfl (Nat.le_of_ble_eq_true rfl) ?_
  intro p e s m below meth c A ls hx hb hr hml hown hlocks hnm hw hK hN hP hD hA hS hl
  have hl : lv_has ls 3 [(0, .ref (fa i))] := hl
  refine lv_aload_n hx hb d_Fra_hundredths_0 rfl (lv_at hl 0 rfl) ?_
  refine va_get (D := D) (ci := 2) (v := .long (fd i)) (C := "PriceLines$Fraction") (T := F_Fra) (N := 2) hx hb hw in_Fra hown hK hP i (fp_get hi) rfl 1 (by decide) (hw _ W1_75) (fun _ h9 => h9) rfl d_Fra_hundredths_1 ?_
  refine lv_ldc2 (v := 2) hx hb hown (hw _ W2_127) d_Fra_hundredths_4 ?_
  refine lv_lmul hx hb d_Fra_hundredths_7 ?_
  refine lv_lstore_n (lv' := [(1, .long ((fd i) * 2)), (0, .ref (fa i))]) hx hb d_Fra_hundredths_8 rfl hl (by decide) rfl (fun ls hl => ?_)
  refine lv_lload_n hx hb d_Fra_hundredths_9 rfl (lv_at hl 0 rfl) ?_
  refine lv_lconst (v := 1) hx hb d_Fra_hundredths_10 (by decide) ?_
  refine lc_ge (tgt := 19) hx hb d_Fra_hundredths_11 d_Fra_hundredths_12 (by decide) (fun c_1 => ?_) (fun c_1 => ?_)
  · refine lv_aload_n hx hb d_Fra_hundredths_19 rfl (lv_at hl 1 rfl) ?_
    refine va_get (D := D) (ci := 2) (v := .long (fn i)) (C := "PriceLines$Fraction") (T := F_Fra) (N := 2) hx hb hw in_Fra hown hK hP i (fp_get hi) rfl 0 (by decide) (hw _ W1_73) (fun _ h9 => h9) rfl d_Fra_hundredths_20 ?_
    refine lv_ldc2 (v := 200) hx hb hown (hw _ W2_128) d_Fra_hundredths_23 ?_
    refine lv_lmul hx hb d_Fra_hundredths_26 ?_
    refine lv_aload_n hx hb d_Fra_hundredths_27 rfl (lv_at hl 1 rfl) ?_
    refine va_get (D := D) (ci := 2) (v := .long (fd i)) (C := "PriceLines$Fraction") (T := F_Fra) (N := 2) hx hb hw in_Fra hown hK hP i (fp_get hi) rfl 1 (by decide) (hw _ W1_75) (fun _ h9 => h9) rfl d_Fra_hundredths_28 ?_
    refine lv_ladd hx hb d_Fra_hundredths_31 ?_
    refine lv_lload_n hx hb d_Fra_hundredths_32 rfl (lv_at hl 0 rfl) ?_
    refine kS_l (rest := []) (As := [.long (((fn i) * 200) + (fd i)), .long ((fd i) * 2)]) (w2 := (fpool fa fn fd n)) ⟨hx, hb, hml, hown, hw⟩ (c_Mat_floorDiv l D ta (((fn i) * 200) + (fd i)) ((fd i) * 2) (ne0_1 (by assumption))) W2_129 W2_130 W1_17 W2_131 rfl rfl rfl hd_Mat_floorDiv ⟨Nat.le_of_ble_eq_true rfl, Nat.le_of_ble_eq_true rfl⟩ hK hN hP hD hS hA Spl.none rfl hl.1 rfl (Nat.le_of_ble_eq_true rfl) ⟨Nat.zero_le _, Nat.zero_le _⟩ d_Fra_hundredths_33 (fun H locs hP hD hS => ?_)
    exact fin_l hx hb hr hlocks hK hP hD hS d_Fra_hundredths_36 (by simp only [hun, c_1, decide_true, decide_false, Bool.not_true, Bool.not_false, Bool.and_true, Bool.true_and, Bool.and_false, Bool.false_and, Bool.or_true, Bool.true_or, Bool.or_false, Bool.false_or, if_true, if_false, reduceIte, Bool.false_eq_true, b2i]) rfl
  · refine lv_lconst (v := 0) hx hb d_Fra_hundredths_15 (by decide) ?_
    refine lv_goto (tgt := 36) hx hb d_Fra_hundredths_16 (by decide) ?_
    exact fin_l hx hb hr hlocks hK hP hD hS d_Fra_hundredths_36 (by simp only [hun, c_1, decide_true, decide_false, Bool.not_true, Bool.not_false, Bool.and_true, Bool.true_and, Bool.and_false, Bool.false_and, Bool.or_true, Bool.true_or, Bool.or_false, Bool.false_or, if_true, if_false, reduceIte, Bool.false_eq_true, b2i]) rfl
theorem hd_Fra_roundToHundredths : y_Fra_roundToHundredths.cls = "PriceLines$Fraction" ∧ y_Fra_roundToHundredths.cls ≠ "java/lang/invoke/MethodHandle" ∧ y_Fra_roundToHundredths.cls ≠ "java/lang/invoke/VarHandle" ∧ (parseMethodDescriptor y_Fra_roundToHundredths.desc).map (fun d => d.parameters.length) = some 0 := by decide +kernel
set_option maxHeartbeats 1000000 in
set_option maxRecDepth 100000 in
theorem c_Fra_roundToHundredths (l : Launch) (D : va_G) (ta : Nat → ClassId) (fa : Nat → Nat) (fn fd : Nat → Int64) (n : Nat) (i : Nat) (hi : i < n) : ∀ sz, Met l y_Fra_roundToHundredths w_Fra_roundToHundredths { frames := 2, cells := 0, slots := 0, locals := 60 } (va_Pc [.ref (fa i)] (pW D ta (fpool fa fn fd n) sz)) (eI D ta (va_A (fpool fa fn fd n) sz) (b2i (fr_ok (hun (fn i) (fd i)) (100))) (fpool fa (fr_n fn i (hun (fn i) (fd i)) (100)) (fr_d fd i (hun (fn i) (fd i)) (100)) n)) 0 0 (va_A (fpool fa fn fd n) sz) := by
  refine opn_Z (bytes := b_Fra_roundToHundredths) (maxL := 1) (by decide +kernel) rfl (Nat.le_of_ble_eq_true rfl) ?_
  intro p e s m below meth c A ls hx hb hr hml hown hlocks hnm hw hK hN hP hD hA hS hl
  have hl : lv_has ls 1 [(0, .ref (fa i))] := hl
  refine lv_aload_n hx hb d_Fra_roundToHundredths_0 rfl (lv_at hl 0 rfl) ?_
  refine lv_aload_n hx hb d_Fra_roundToHundredths_1 rfl (lv_at hl 0 rfl) ?_
  refine kV_l (rest := [.ref (fa i)]) (As := []) (w2 := (fpool fa fn fd n)) (q0 := i) (ci := 2) ⟨hx, hb, hml, hown, hw⟩ (c_Fra_hundredths l D ta fa fn fd n i hi) W2_123 W2_124 W2_125 W1_5 W2_126 rfl rfl rfl hd_Fra_hundredths ⟨Nat.le_of_ble_eq_true rfl, Nat.le_of_ble_eq_true rfl⟩ hK hN hP hD hS hA Spl.id (fp_get hi) rfl rfl rfl hl.1 rfl (Nat.le_of_ble_eq_true rfl) ⟨Nat.zero_le _, Nat.zero_le _⟩ d_Fra_roundToHundredths_2 (fun H locs hP hD hS => ?_)
  refine lv_ldc2 (v := 100) hx hb hown (hw _ W2_132) d_Fra_roundToHundredths_5 ?_
  refine kV_i (rest := []) (As := [.long (hun (fn i) (fd i)), .long 100]) (w2 := (fpool fa (fr_n fn i (hun (fn i) (fd i)) 100) (fr_d fd i (hun (fn i) (fd i)) 100) n)) (q0 := i) (ci := 2) ⟨hx, hb, hml, hown, hw⟩ (c_Fra_set l D ta fa fn fd n i hi (hun (fn i) (fd i)) 100) W2_133 W2_61 W2_62 W1_5 W2_63 rfl rfl rfl hd_Fra_set ⟨Nat.le_of_ble_eq_true rfl, Nat.le_of_ble_eq_true rfl⟩ hK hN hP hD hS hA Spl.id (fp_get hi) rfl rfl rfl hl.1 rfl (Nat.le_of_ble_eq_true rfl) ⟨Nat.zero_le _, Nat.zero_le _⟩ d_Fra_roundToHundredths_8 (fun H locs hP hD hS => ?_)
  exact fin_z hx hb hr hlocks hK hP hD hS d_Fra_roundToHundredths_11 (nar_b2i _) rfl rfl
def frL (a b c d : Int64) : Bool := !decide (c * b ≤ a * d)
theorem hd_Fra_isLessThan : y_Fra_isLessThan.cls = "PriceLines$Fraction" ∧ y_Fra_isLessThan.cls ≠ "java/lang/invoke/MethodHandle" ∧ y_Fra_isLessThan.cls ≠ "java/lang/invoke/VarHandle" ∧ (parseMethodDescriptor y_Fra_isLessThan.desc).map (fun d => d.parameters.length) = some 1 := by decide +kernel
set_option maxHeartbeats 1000000 in
set_option maxRecDepth 100000 in
theorem c_Fra_isLessThan (l : Launch) (D : va_G) (ta : Nat → ClassId) (fa : Nat → Nat) (fn fd : Nat → Int64) (n : Nat) (i : Nat) (hi : i < n) (j : Nat) (hj : j < n) : ∀ sz, Met l y_Fra_isLessThan w_Fra_isLessThan { frames := 0, cells := 0, slots := 0, locals := 0 } (va_Pc [.ref (fa i), .ref (fa j)] (pW D ta (fpool fa fn fd n) sz)) (eI D ta (va_A (fpool fa fn fd n) sz) (b2i (frL (fn i) (fd i) (fn j) (fd j))) (fpool fa fn fd n)) 0 0 (va_A (fpool fa fn fd n) sz) := by
  refine opn_Z (bytes := b_Fra_isLessThan) (maxL := 2) (by decide +kernel) rfl (Nat.le_of_ble_eq_true rfl) ?_
  intro p e s m below meth c A ls hx hb hr hml hown hlocks hnm hw hK hN hP hD hA hS hl
  have hl : lv_has ls 2 [(0, .ref (fa i)), (1, .ref (fa j))] := hl
  refine lv_aload_n hx hb d_Fra_isLessThan_0 rfl (lv_at hl 0 rfl) ?_
  refine va_get (D := D) (ci := 2) (v := .long (fn i)) (C := "PriceLines$Fraction") (T := F_Fra) (N := 2) hx hb hw in_Fra hown hK hP i (fp_get hi) rfl 0 (by decide) (hw _ W1_73) (fun _ h9 => h9) rfl d_Fra_isLessThan_1 ?_
  refine lv_aload_n hx hb d_Fra_isLessThan_4 rfl (lv_at hl 1 rfl) ?_
  refine va_get (D := D) (ci := 2) (v := .long (fd j)) (C := "PriceLines$Fraction") (T := F_Fra) (N := 2) hx hb hw in_Fra hown hK hP j (fp_get hj) rfl 1 (by decide) (hw _ W1_75) (fun _ h9 => h9) rfl d_Fra_isLessThan_5 ?_
  refine lv_lmul hx hb d_Fra_isLessThan_8 ?_
  refine lv_aload_n hx hb d_Fra_isLessThan_9 rfl (lv_at hl 1 rfl) ?_
  refine va_get (D := D) (ci := 2) (v := .long (fn j)) (C := "PriceLines$Fraction") (T := F_Fra) (N := 2) hx hb hw in_Fra hown hK hP j (fp_get hj) rfl 0 (by decide) (hw _ W1_73) (fun _ h9 => h9) rfl d_Fra_isLessThan_10 ?_
  refine lv_aload_n hx hb d_Fra_isLessThan_13 rfl (lv_at hl 0 rfl) ?_
  refine va_get (D := D) (ci := 2) (v := .long (fd i)) (C := "PriceLines$Fraction") (T := F_Fra) (N := 2) hx hb hw in_Fra hown hK hP i (fp_get hi) rfl 1 (by decide) (hw _ W1_75) (fun _ h9 => h9) rfl d_Fra_isLessThan_14 ?_
  refine lv_lmul hx hb d_Fra_isLessThan_17 ?_
  refine lc_ge (tgt := 26) hx hb d_Fra_isLessThan_18 d_Fra_isLessThan_19 (by decide) (fun c_1 => ?_) (fun c_1 => ?_)
  · refine lv_iconst (v := 0) hx hb d_Fra_isLessThan_26 (by decide) ?_
    exact fin_z hx hb hr hlocks hK hP hD hS d_Fra_isLessThan_27 rfl (by simp only [frL, c_1, decide_true, decide_false, Bool.not_true, Bool.not_false, Bool.and_true, Bool.true_and, Bool.and_false, Bool.false_and, Bool.or_true, Bool.true_or, Bool.or_false, Bool.false_or, if_true, if_false, reduceIte, Bool.false_eq_true, b2i]) rfl
  · refine lv_iconst (v := 1) hx hb d_Fra_isLessThan_22 (by decide) ?_
    refine lv_goto (tgt := 27) hx hb d_Fra_isLessThan_23 (by decide) ?_
    exact fin_z hx hb hr hlocks hK hP hD hS d_Fra_isLessThan_27 rfl (by simp only [frL, c_1, decide_true, decide_false, Bool.not_true, Bool.not_false, Bool.and_true, Bool.true_and, Bool.and_false, Bool.false_and, Bool.or_true, Bool.true_or, Bool.or_false, Bool.false_or, if_true, if_false, reduceIte, Bool.false_eq_true, b2i]) rfl
