theorem hd_Rec_init : y_Rec_init.cls ≠ "java/lang/invoke/MethodHandle" ∧ y_Rec_init.cls ≠ "java/lang/invoke/VarHandle" ∧ (parseMethodDescriptor y_Rec_init.desc).map (fun d => d.parameters.length) = some 0 := by decide +kernel
set_option maxHeartbeats 2000000 in
set_option maxRecDepth 100000 in
theorem c_Rec_init (l : Launch) (D : va_G) (ta : Nat → ClassId) (a0 : Nat) : ∀ sz, Met l y_Rec_init w_Rec_init { frames := 2, cells := 27, slots := 100, locals := 60 } (va_Pc [.ref a0] (pN D ta [(a0, .inr (7, [.null, .null, .null, .null, .null, .int 0, .int 0]))] sz)) (eN D ta (va_A [(a0, .inr (7, [.null, .null, .null, .null, .null, .int 0, .int 0]))] sz) (fun u => ([(a0, .inr (7, [.ref (u.2 0), .ref (u.1 0), .ref (u.1 1), .ref (u.1 2), .ref (u.1 3), .int 0, .int 0])), ((u.1 0), .inl (ta 4, 6, .inr (.inr (.inr (.inr (stF u.2)))))), ((u.1 1), .inl (ta 4, 16, .inr (.inr (.inr (.inr (adF u.2)))))), ((u.1 2), .inl (ta 0, 16, .inl (fun _ => 0))), ((u.1 3), .inl (ta 0, 16, .inl (fun _ => 0)))] ++ fpool u.2 (fun _ => 0) (fun _ => 1) 23))) 27 100 (va_A [(a0, .inr (7, [.null, .null, .null, .null, .null, .int 0, .int 0]))] sz) := by
  refine opn_N (bytes := b_Rec_init) (maxL := 2) (by decide +kernel) rfl (Nat.le_of_ble_eq_true rfl) ?_
  intro p e s m below meth c A ls hx hb hr hml hown hlocks hnm hw hK hN hO hP hD hA hS hl
  have hl : lv_has ls 2 [(0, .ref a0)] := hl
  refine lv_aload_n hx hb d_Rec_init_0 rfl (lv_at hl 0 rfl) ?_
  refine W.objInit hx hb hown (hw _ W1_66) (hw _ W1_25) (hw _ W1_26) rfl (by rw [hml]; exact hl.1) rfl d_Rec_init_1 (Nat.le_of_ble_eq_true rfl) (Nat.le_of_ble_eq_true rfl) ?_
  refine W.eq (g2 := F0 m 4 ls []) rfl ?_
  refine lv_aload_n hx hb d_Rec_init_4 rfl (lv_at hl 0 rfl) ?_
  refine va_new (ci := 2) (fs := [.long 0, .long 0]) (C := "PriceLines$Fraction") (T := F_Fra) (N := 2) hx hb hw in_Fra t_Fra tk_Fra hown (hw _ W1_67) (hw _ W1_68) (hw _ W1_5) hK hP hD hS hA rfl (by decide) (Nat.le_of_ble_eq_true rfl) (Nat.le_of_ble_eq_true rfl) d_Rec_init_5 (fun q_1 H hP hD hS => ?_)
  have hP : va_P D vwCl ([(a0, .inr (7, [.null, .null, .null, .null, .null, .int 0, .int 0]))] ++ [(q_1, .inr (2, [.long 0, .long 0]))]) H := hP
  have hD : va_D A ([(a0, .inr (7, [.null, .null, .null, .null, .null, .int 0, .int 0]))] ++ [(q_1, .inr (2, [.long 0, .long 0]))]) := hD
  refine lv_dup hx hb d_Rec_init_8 rfl ?_
  refine kJ_n (ws := [(a0, .inr (7, [.null, .null, .null, .null, .null, .int 0, .int 0]))]) ⟨hx, hb, hml, hown, hw⟩ (c_Fra_init l D ta q_1) (hN.get 2 rfl) W1_70 W1_5 W1_71 rfl rfl rfl rfl hd_Fra_init ⟨Nat.le_of_ble_eq_true rfl, Nat.le_of_ble_eq_true rfl⟩ hK hN hO hP hD hS hA hl.1 (Nat.le_of_ble_eq_true rfl) ⟨Nat.le_of_ble_eq_true rfl, Nat.le_of_ble_eq_true rfl⟩ d_Rec_init_9 (fun u_2 H locs hP hD hS => ?_)
  have hP : va_P D vwCl [(a0, .inr (7, [.null, .null, .null, .null, .null, .int 0, .int 0])), (q_1, .inr (2, [.long 0, .long 1]))] H := hP
  have hD : va_D A [(a0, .inr (7, [.null, .null, .null, .null, .null, .int 0, .int 0])), (q_1, .inr (2, [.long 0, .long 1]))] := hD
  refine va_putF (D := D) (ci := 7) (v := .ref q_1) (ty := (.object "PriceLines$Fraction")) (C := "PriceLines$Reckoning") (T := F_Rec) (N := 7) hx hb hw in_Rec t_Rec tk_Rec n_Rec hown hK hP hD hS 0 rfl rfl 0 (by decide) (hw _ W1_83) (fun _ h9 => h9) rfl hnm rfl (tk_Rec 0 (by decide)) rfl rfl (Nat.le_of_ble_eq_true rfl) d_Rec_init_12 (fun H locs hP hD hS => ?_)
  have hP : va_P D vwCl [(a0, .inr (7, [.ref q_1, .null, .null, .null, .null, .int 0, .int 0])), (q_1, .inr (2, [.long 0, .long 1]))] H := hP
  have hD : va_D A [(a0, .inr (7, [.ref q_1, .null, .null, .null, .null, .int 0, .int 0])), (q_1, .inr (2, [.long 0, .long 1]))] := hD
  refine lv_aload_n hx hb d_Rec_init_15 rfl (lv_at hl 0 rfl) ?_
  refine lv_bipush (v := 6) hx hb d_Rec_init_16 (by decide) ?_
  refine nwq (N' := 6) hx hb hown (hw _ W1_67) hO hK hP hD hS hA (by decide) (by decide) (by decide) (Nat.le_of_ble_eq_true rfl) (Nat.le_of_ble_eq_true rfl) d_Rec_init_18 (fun q_3 H hP hD hS => ?_)
  have hP : va_P D vwCl [(a0, .inr (7, [.ref q_1, .null, .null, .null, .null, .int 0, .int 0])), (q_1, .inr (2, [.long 0, .long 1])), (q_3, .inl (ta 4, 6, .inr (.inr (.inr (.inr (fun _ => none))))))] H := hP
  have hD : va_D A [(a0, .inr (7, [.ref q_1, .null, .null, .null, .null, .int 0, .int 0])), (q_1, .inr (2, [.long 0, .long 1])), (q_3, .inl (ta 4, 6, .inr (.inr (.inr (.inr (fun _ => none))))))] := hD
  refine va_putF (D := D) (ci := 7) (v := .ref q_3) (ty := (.array (.object "PriceLines$Fraction"))) (C := "PriceLines$Reckoning") (T := F_Rec) (N := 7) hx hb hw in_Rec t_Rec tk_Rec n_Rec hown hK hP hD hS 0 rfl rfl 1 (by decide) (hw _ W1_84) (fun _ h9 => h9) rfl hnm rfl (tk_Rec 1 (by decide)) rfl rfl (Nat.le_of_ble_eq_true rfl) d_Rec_init_21 (fun H locs hP hD hS => ?_)
  have hP : va_P D vwCl [(a0, .inr (7, [.ref q_1, .ref q_3, .null, .null, .null, .int 0, .int 0])), (q_1, .inr (2, [.long 0, .long 1])), (q_3, .inl (ta 4, 6, .inr (.inr (.inr (.inr (fun _ => none))))))] H := hP
  have hD : va_D A [(a0, .inr (7, [.ref q_1, .ref q_3, .null, .null, .null, .int 0, .int 0])), (q_1, .inr (2, [.long 0, .long 1])), (q_3, .inl (ta 4, 6, .inr (.inr (.inr (.inr (fun _ => none))))))] := hD
  refine lv_aload_n hx hb d_Rec_init_24 rfl (lv_at hl 0 rfl) ?_
  refine lv_bipush (v := 16) hx hb d_Rec_init_25 (by decide) ?_
  refine nwq (N' := 16) hx hb hown (hw _ W1_67) hO hK hP hD hS hA (by decide) (by decide) (by decide) (Nat.le_of_ble_eq_true rfl) (Nat.le_of_ble_eq_true rfl) d_Rec_init_27 (fun q_4 H hP hD hS => ?_)
  have hP : va_P D vwCl [(a0, .inr (7, [.ref q_1, .ref q_3, .null, .null, .null, .int 0, .int 0])), (q_1, .inr (2, [.long 0, .long 1])), (q_3, .inl (ta 4, 6, .inr (.inr (.inr (.inr (fun _ => none)))))), (q_4, .inl (ta 4, 16, .inr (.inr (.inr (.inr (fun _ => none))))))] H := hP
  have hD : va_D A [(a0, .inr (7, [.ref q_1, .ref q_3, .null, .null, .null, .int 0, .int 0])), (q_1, .inr (2, [.long 0, .long 1])), (q_3, .inl (ta 4, 6, .inr (.inr (.inr (.inr (fun _ => none)))))), (q_4, .inl (ta 4, 16, .inr (.inr (.inr (.inr (fun _ => none))))))] := hD
  refine va_putF (D := D) (ci := 7) (v := .ref q_4) (ty := (.array (.object "PriceLines$Fraction"))) (C := "PriceLines$Reckoning") (T := F_Rec) (N := 7) hx hb hw in_Rec t_Rec tk_Rec n_Rec hown hK hP hD hS 0 rfl rfl 2 (by decide) (hw _ W1_85) (fun _ h9 => h9) rfl hnm rfl (tk_Rec 2 (by decide)) rfl rfl (Nat.le_of_ble_eq_true rfl) d_Rec_init_30 (fun H locs hP hD hS => ?_)
  have hP : va_P D vwCl [(a0, .inr (7, [.ref q_1, .ref q_3, .ref q_4, .null, .null, .int 0, .int 0])), (q_1, .inr (2, [.long 0, .long 1])), (q_3, .inl (ta 4, 6, .inr (.inr (.inr (.inr (fun _ => none)))))), (q_4, .inl (ta 4, 16, .inr (.inr (.inr (.inr (fun _ => none))))))] H := hP
  have hD : va_D A [(a0, .inr (7, [.ref q_1, .ref q_3, .ref q_4, .null, .null, .int 0, .int 0])), (q_1, .inr (2, [.long 0, .long 1])), (q_3, .inl (ta 4, 6, .inr (.inr (.inr (.inr (fun _ => none)))))), (q_4, .inl (ta 4, 16, .inr (.inr (.inr (.inr (fun _ => none))))))] := hD
  refine lv_aload_n hx hb d_Rec_init_33 rfl (lv_at hl 0 rfl) ?_
  refine lv_bipush (v := 16) hx hb d_Rec_init_34 (by decide) ?_
  refine nwa (a0 := (16, .inl (fun _ => 0))) hx hb (hw _ W1_60) rfl hK hP hD hS hA 0 rfl (fun _ => rfl) (by decide) (by decide) (by decide) (Nat.le_of_ble_eq_true rfl) (Nat.le_of_ble_eq_true rfl) d_Rec_init_36 (fun q_5 H hP hD hS => ?_)
  have hP : va_P D vwCl [(a0, .inr (7, [.ref q_1, .ref q_3, .ref q_4, .null, .null, .int 0, .int 0])), (q_1, .inr (2, [.long 0, .long 1])), (q_3, .inl (ta 4, 6, .inr (.inr (.inr (.inr (fun _ => none)))))), (q_4, .inl (ta 4, 16, .inr (.inr (.inr (.inr (fun _ => none)))))), (q_5, .inl (ta 0, 16, .inl (fun _ => 0)))] H := hP
  have hD : va_D A [(a0, .inr (7, [.ref q_1, .ref q_3, .ref q_4, .null, .null, .int 0, .int 0])), (q_1, .inr (2, [.long 0, .long 1])), (q_3, .inl (ta 4, 6, .inr (.inr (.inr (.inr (fun _ => none)))))), (q_4, .inl (ta 4, 16, .inr (.inr (.inr (.inr (fun _ => none)))))), (q_5, .inl (ta 0, 16, .inl (fun _ => 0)))] := hD
  refine va_putF (D := D) (ci := 7) (v := .ref q_5) (ty := (.array .int)) (C := "PriceLines$Reckoning") (T := F_Rec) (N := 7) hx hb hw in_Rec t_Rec tk_Rec n_Rec hown hK hP hD hS 0 rfl rfl 3 (by decide) (hw _ W1_86) (fun _ h9 => h9) rfl hnm rfl (tk_Rec 3 (by decide)) rfl rfl (Nat.le_of_ble_eq_true rfl) d_Rec_init_38 (fun H locs hP hD hS => ?_)
  have hP : va_P D vwCl [(a0, .inr (7, [.ref q_1, .ref q_3, .ref q_4, .ref q_5, .null, .int 0, .int 0])), (q_1, .inr (2, [.long 0, .long 1])), (q_3, .inl (ta 4, 6, .inr (.inr (.inr (.inr (fun _ => none)))))), (q_4, .inl (ta 4, 16, .inr (.inr (.inr (.inr (fun _ => none)))))), (q_5, .inl (ta 0, 16, .inl (fun _ => 0)))] H := hP
  have hD : va_D A [(a0, .inr (7, [.ref q_1, .ref q_3, .ref q_4, .ref q_5, .null, .int 0, .int 0])), (q_1, .inr (2, [.long 0, .long 1])), (q_3, .inl (ta 4, 6, .inr (.inr (.inr (.inr (fun _ => none)))))), (q_4, .inl (ta 4, 16, .inr (.inr (.inr (.inr (fun _ => none)))))), (q_5, .inl (ta 0, 16, .inl (fun _ => 0)))] := hD
  refine lv_aload_n hx hb d_Rec_init_41 rfl (lv_at hl 0 rfl) ?_
  refine lv_bipush (v := 16) hx hb d_Rec_init_42 (by decide) ?_
  refine nwa (a0 := (16, .inl (fun _ => 0))) hx hb (hw _ W1_60) rfl hK hP hD hS hA 0 rfl (fun _ => rfl) (by decide) (by decide) (by decide) (Nat.le_of_ble_eq_true rfl) (Nat.le_of_ble_eq_true rfl) d_Rec_init_44 (fun q_6 H hP hD hS => ?_)
  have hP : va_P D vwCl [(a0, .inr (7, [.ref q_1, .ref q_3, .ref q_4, .ref q_5, .null, .int 0, .int 0])), (q_1, .inr (2, [.long 0, .long 1])), (q_3, .inl (ta 4, 6, .inr (.inr (.inr (.inr (fun _ => none)))))), (q_4, .inl (ta 4, 16, .inr (.inr (.inr (.inr (fun _ => none)))))), (q_5, .inl (ta 0, 16, .inl (fun _ => 0))), (q_6, .inl (ta 0, 16, .inl (fun _ => 0)))] H := hP
  have hD : va_D A [(a0, .inr (7, [.ref q_1, .ref q_3, .ref q_4, .ref q_5, .null, .int 0, .int 0])), (q_1, .inr (2, [.long 0, .long 1])), (q_3, .inl (ta 4, 6, .inr (.inr (.inr (.inr (fun _ => none)))))), (q_4, .inl (ta 4, 16, .inr (.inr (.inr (.inr (fun _ => none)))))), (q_5, .inl (ta 0, 16, .inl (fun _ => 0))), (q_6, .inl (ta 0, 16, .inl (fun _ => 0)))] := hD
  refine va_putF (D := D) (ci := 7) (v := .ref q_6) (ty := (.array .int)) (C := "PriceLines$Reckoning") (T := F_Rec) (N := 7) hx hb hw in_Rec t_Rec tk_Rec n_Rec hown hK hP hD hS 0 rfl rfl 4 (by decide) (hw _ W1_87) (fun _ h9 => h9) rfl hnm rfl (tk_Rec 4 (by decide)) rfl rfl (Nat.le_of_ble_eq_true rfl) d_Rec_init_46 (fun H locs hP hD hS => ?_)
  have hP : va_P D vwCl [(a0, .inr (7, [.ref q_1, .ref q_3, .ref q_4, .ref q_5, .ref q_6, .int 0, .int 0])), (q_1, .inr (2, [.long 0, .long 1])), (q_3, .inl (ta 4, 6, .inr (.inr (.inr (.inr (fun _ => none)))))), (q_4, .inl (ta 4, 16, .inr (.inr (.inr (.inr (fun _ => none)))))), (q_5, .inl (ta 0, 16, .inl (fun _ => 0))), (q_6, .inl (ta 0, 16, .inl (fun _ => 0)))] H := hP
  have hD : va_D A [(a0, .inr (7, [.ref q_1, .ref q_3, .ref q_4, .ref q_5, .ref q_6, .int 0, .int 0])), (q_1, .inr (2, [.long 0, .long 1])), (q_3, .inl (ta 4, 6, .inr (.inr (.inr (.inr (fun _ => none)))))), (q_4, .inl (ta 4, 16, .inr (.inr (.inr (.inr (fun _ => none)))))), (q_5, .inl (ta 0, 16, .inl (fun _ => 0))), (q_6, .inl (ta 0, 16, .inl (fun _ => 0)))] := hD
  have pm : List.Perm (α := Nat × va_E) [(a0, .inr (7, [.ref q_1, .ref q_3, .ref q_4, .ref q_5, .ref q_6, .int 0, .int 0])), (q_1, .inr (2, [.long 0, .long 1])), (q_3, .inl (ta 4, 6, .inr (.inr (.inr (.inr (fun _ => none)))))), (q_4, .inl (ta 4, 16, .inr (.inr (.inr (.inr (fun _ => none)))))), (q_5, .inl (ta 0, 16, .inl (fun _ => 0))), (q_6, .inl (ta 0, 16, .inl (fun _ => 0)))] ([(a0, .inr (7, [.ref q_1, .ref q_3, .ref q_4, .ref q_5, .ref q_6, .int 0, .int 0]))] ++ ([(q_3, .inl (ta 4, 6, .inr (.inr (.inr (.inr (fun _ => none)))))), (q_4, .inl (ta 4, 16, .inr (.inr (.inr (.inr (fun _ => none)))))), (q_5, .inl (ta 0, 16, .inl (fun _ => 0))), (q_6, .inl (ta 0, 16, .inl (fun _ => 0)))] ++ [(q_1, .inr (2, [.long 0, .long 1]))])) := ((List.perm_append_singleton _ _).symm).cons _
  have hP := va_P.perm pm hP
  have hD := va_D.perm pm hD
  have hP : va_P D vwCl ([(a0, .inr (7, [.ref q_1, .ref q_3, .ref q_4, .ref q_5, .ref q_6, .int 0, .int 0])), (q_3, .inl (ta 4, 6, .inr (.inr (.inr (.inr (fun _ => none)))))), (q_4, .inl (ta 4, 16, .inr (.inr (.inr (.inr (fun _ => none)))))), (q_5, .inl (ta 0, 16, .inl (fun _ => 0))), (q_6, .inl (ta 0, 16, .inl (fun _ => 0)))] ++ fpool (fun _ => q_1) (fun _ => 0) (fun _ => 1) 1) H := hP
  have hD : va_D A ([(a0, .inr (7, [.ref q_1, .ref q_3, .ref q_4, .ref q_5, .ref q_6, .int 0, .int 0])), (q_3, .inl (ta 4, 6, .inr (.inr (.inr (.inr (fun _ => none)))))), (q_4, .inl (ta 4, 16, .inr (.inr (.inr (.inr (fun _ => none)))))), (q_5, .inl (ta 0, 16, .inl (fun _ => 0))), (q_6, .inl (ta 0, 16, .inl (fun _ => 0)))] ++ fpool (fun _ => q_1) (fun _ => 0) (fun _ => 1) 1) := hD
  have LOOP2 : ∀ (r i : Nat) (fa : Nat → Nat) (f1 f2 : Nat → Option Nat) (k9 : Int32) (ls : Array Slot) (H : Heap) (locs : List Loc), i + r = 16 → k9 = nI i → fa 0 = q_1 → ((∀ j, j < 6 → f1 j = some (fa (1 + j))) ∧ ∀ j, j < i → f2 j = some (fa (7 + j))) → va_P D vwCl ([(a0, .inr (7, [.ref q_1, .ref q_3, .ref q_4, .ref q_5, .ref q_6, .int 0, .int 0])), (q_3, .inl (ta 4, 6, .inr (.inr (.inr (.inr f1))))), (q_4, .inl (ta 4, 16, .inr (.inr (.inr (.inr f2))))), (q_5, .inl (ta 0, 16, .inl (fun _ => 0))), (q_6, .inl (ta 0, 16, .inl (fun _ => 0)))] ++ fpool fa (fun _ => 0) (fun _ => 1) (7 + i)) H → va_D A ([(a0, .inr (7, [.ref q_1, .ref q_3, .ref q_4, .ref q_5, .ref q_6, .int 0, .int 0])), (q_3, .inl (ta 4, 6, .inr (.inr (.inr (.inr f1))))), (q_4, .inl (ta 4, 16, .inr (.inr (.inr (.inr f2))))), (q_5, .inl (ta 0, 16, .inl (fun _ => 0))), (q_6, .inl (ta 0, 16, .inl (fun _ => 0)))] ++ fpool fa (fun _ => 0) (fun _ => 1) (7 + i)) → va_S A s.heap H locs → lv_has ls 2 [(1, .int k9), (0, .ref a0)] → W p l e { frames := 2, cells := 27, slots := 100, locals := 60 } s m ([.ref a0] : List Value).toArray below meth c H locs (11 + i) (68 + 2 * i) (MQ below (eN D ta A (fun u => ([(a0, .inr (7, [.ref (u.2 0), .ref (u.1 0), .ref (u.1 1), .ref (u.1 2), .ref (u.1 3), .int 0, .int 0])), ((u.1 0), .inl (ta 4, 6, .inr (.inr (.inr (.inr (stF u.2)))))), ((u.1 1), .inl (ta 4, 16, .inr (.inr (.inr (.inr (adF u.2)))))), ((u.1 2), .inl (ta 0, 16, .inl (fun _ => 0))), ((u.1 3), .inl (ta 0, 16, .inl (fun _ => 0)))] ++ fpool u.2 (fun _ => 0) (fun _ => 1) 23))) ([.ref a0] : List Value).toArray s 27 100 A) (F0 m 81 ls []) := by
    intro r
    induction r with
    | zero =>
      intro i fa f1 f2 k9 ls H locs hi hk hf0 hf hP hD hS hl
      have hi : i = 16 := by omega
      subst hi
      have hge : (16 : Int32) ≤ k9 := by rw [hk]; decide
      refine lv_iload_n hx hb d_Rec_init_81 rfl (lv_at hl 0 rfl) ?_
      refine lv_aload_n hx hb d_Rec_init_82 rfl (lv_at hl 1 rfl) ?_
      refine va_get (D := D) (ci := 7) (v := .ref q_4) (C := "PriceLines$Reckoning") (T := F_Rec) (N := 7) hx hb hw in_Rec hown hK hP 0 rfl rfl 2 (by decide) (hw _ W1_85) (fun _ h9 => h9) rfl d_Rec_init_83 ?_
      refine va_alen (v := 16) hx hb hK hP 2 4 rfl rfl rfl d_Rec_init_86 ?_
      refine lv_icmp_ge (tgt := 109) hx hb d_Rec_init_87 (by decide) (fun _ => ?_) (fun c_7 => absurd hge c_7)
      have hP := hP.chg (k := 1) (e2 := .inl (ta 4, 6, .inr (.inr (.inr (.inr (stF fa)))))) rfl (q_ext hf.1)
      have hD := va_D.set (p := 1) (e := .inl (ta 4, 6, .inr (.inr (.inr (.inr (stF fa)))))) hD rfl
      have hP := hP.chg (k := 2) (e2 := .inl (ta 4, 16, .inr (.inr (.inr (.inr (adF fa)))))) rfl (q_ext hf.2)
      have hD := va_D.set (p := 2) (e := .inl (ta 4, 16, .inr (.inr (.inr (.inr (adF fa)))))) hD rfl
      subst hf0
      exact fin_n (fun i => [q_3, q_4, q_5, q_6].getD i 0, fa) hx hb hr hlocks hK hP hD hS d_Rec_init_109
    | succ r ih =>
      intro i fa f1 f2 k9 ls H locs hi hk hf0 hf hP hD hS hl
      have hlt : ¬ (16 : Int32) ≤ k9 := by rw [hk]; exact nI_ge (b := 16) (by omega) (by decide)
      refine lv_iload_n hx hb d_Rec_init_81 rfl (lv_at hl 0 rfl) ?_
      refine lv_aload_n hx hb d_Rec_init_82 rfl (lv_at hl 1 rfl) ?_
      refine va_get (D := D) (ci := 7) (v := .ref q_4) (C := "PriceLines$Reckoning") (T := F_Rec) (N := 7) hx hb hw in_Rec hown hK hP 0 rfl rfl 2 (by decide) (hw _ W1_85) (fun _ h9 => h9) rfl d_Rec_init_83 ?_
      refine va_alen (v := 16) hx hb hK hP 2 4 rfl rfl rfl d_Rec_init_86 ?_
      refine lv_icmp_ge (tgt := 109) hx hb d_Rec_init_87 (by decide) (fun c_8 => absurd c_8 hlt) (fun _ => ?_)
      refine lv_aload_n hx hb d_Rec_init_90 rfl (lv_at hl 1 rfl) ?_
      refine va_get (D := D) (ci := 7) (v := .ref q_4) (C := "PriceLines$Reckoning") (T := F_Rec) (N := 7) hx hb hw in_Rec hown hK hP 0 rfl rfl 2 (by decide) (hw _ W1_85) (fun _ h9 => h9) rfl d_Rec_init_91 ?_
      refine lv_iload_n hx hb d_Rec_init_94 rfl (lv_at hl 0 rfl) ?_
      refine va_new (ci := 2) (fs := [.long 0, .long 0]) (C := "PriceLines$Fraction") (T := F_Fra) (N := 2) hx hb hw in_Fra t_Fra tk_Fra hown (hw _ W1_67) (hw _ W1_68) (hw _ W1_5) hK hP hD hS hA rfl (by decide) (by show _ + _ ≤ 27; omega) (by show _ + _ ≤ 100; omega) d_Rec_init_95 (fun q_9 H hP hD hS => ?_)
      have hP : va_P D vwCl (([(a0, .inr (7, [.ref q_1, .ref q_3, .ref q_4, .ref q_5, .ref q_6, .int 0, .int 0])), (q_3, .inl (ta 4, 6, .inr (.inr (.inr (.inr f1))))), (q_4, .inl (ta 4, 16, .inr (.inr (.inr (.inr f2))))), (q_5, .inl (ta 0, 16, .inl (fun _ => 0))), (q_6, .inl (ta 0, 16, .inl (fun _ => 0)))] ++ fpool fa (fun _ => 0) (fun _ => 1) (7 + i)) ++ [(q_9, .inr (2, [.long 0, .long 0]))]) H := hP
      have hD : va_D A (([(a0, .inr (7, [.ref q_1, .ref q_3, .ref q_4, .ref q_5, .ref q_6, .int 0, .int 0])), (q_3, .inl (ta 4, 6, .inr (.inr (.inr (.inr f1))))), (q_4, .inl (ta 4, 16, .inr (.inr (.inr (.inr f2))))), (q_5, .inl (ta 0, 16, .inl (fun _ => 0))), (q_6, .inl (ta 0, 16, .inl (fun _ => 0)))] ++ fpool fa (fun _ => 0) (fun _ => 1) (7 + i)) ++ [(q_9, .inr (2, [.long 0, .long 0]))]) := hD
      refine lv_dup hx hb d_Rec_init_98 rfl ?_
      refine kJ_n (ws := ([(a0, .inr (7, [.ref q_1, .ref q_3, .ref q_4, .ref q_5, .ref q_6, .int 0, .int 0])), (q_3, .inl (ta 4, 6, .inr (.inr (.inr (.inr f1))))), (q_4, .inl (ta 4, 16, .inr (.inr (.inr (.inr f2))))), (q_5, .inl (ta 0, 16, .inl (fun _ => 0))), (q_6, .inl (ta 0, 16, .inl (fun _ => 0)))] ++ fpool fa (fun _ => 0) (fun _ => 1) (7 + i))) ⟨hx, hb, hml, hown, hw⟩ (c_Fra_init l D ta q_9) (hN.get 2 rfl) W1_70 W1_5 W1_71 rfl rfl rfl rfl hd_Fra_init ⟨Nat.le_of_ble_eq_true rfl, Nat.le_of_ble_eq_true rfl⟩ hK hN hO hP hD hS hA hl.1 (Nat.le_of_ble_eq_true rfl) ⟨by show _ + _ ≤ 27; omega, by show _ + _ ≤ 100; omega⟩ d_Rec_init_99 (fun u_10 H locs hP hD hS => ?_)
      have hP := va_P.perm (pool_back (X := [(a0, .inr (7, [.ref q_1, .ref q_3, .ref q_4, .ref q_5, .ref q_6, .int 0, .int 0])), (q_3, .inl (ta 4, 6, .inr (.inr (.inr (.inr f1))))), (q_4, .inl (ta 4, 16, .inr (.inr (.inr (.inr f2))))), (q_5, .inl (ta 0, 16, .inl (fun _ => 0))), (q_6, .inl (ta 0, 16, .inl (fun _ => 0)))]) (pl := fpool fa (fun _ => 0) (fun _ => 1) (7 + i)) (Y := [(q_9, .inr (2, [.long 0, .long 1]))])) hP
      have hD := va_D.perm (pool_back (X := [(a0, .inr (7, [.ref q_1, .ref q_3, .ref q_4, .ref q_5, .ref q_6, .int 0, .int 0])), (q_3, .inl (ta 4, 6, .inr (.inr (.inr (.inr f1))))), (q_4, .inl (ta 4, 16, .inr (.inr (.inr (.inr f2))))), (q_5, .inl (ta 0, 16, .inl (fun _ => 0))), (q_6, .inl (ta 0, 16, .inl (fun _ => 0)))]) (pl := fpool fa (fun _ => 0) (fun _ => 1) (7 + i)) (Y := [(q_9, .inr (2, [.long 0, .long 1]))])) hD
      have hP : va_P D vwCl ([(a0, .inr (7, [.ref q_1, .ref q_3, .ref q_4, .ref q_5, .ref q_6, .int 0, .int 0])), (q_3, .inl (ta 4, 6, .inr (.inr (.inr (.inr f1))))), (q_4, .inl (ta 4, 16, .inr (.inr (.inr (.inr f2))))), (q_5, .inl (ta 0, 16, .inl (fun _ => 0))), (q_6, .inl (ta 0, 16, .inl (fun _ => 0))), (q_9, .inr (2, [.long 0, .long 1]))] ++ fpool fa (fun _ => 0) (fun _ => 1) (7 + i)) H := hP
      have hD : va_D A ([(a0, .inr (7, [.ref q_1, .ref q_3, .ref q_4, .ref q_5, .ref q_6, .int 0, .int 0])), (q_3, .inl (ta 4, 6, .inr (.inr (.inr (.inr f1))))), (q_4, .inl (ta 4, 16, .inr (.inr (.inr (.inr f2))))), (q_5, .inl (ta 0, 16, .inl (fun _ => 0))), (q_6, .inl (ta 0, 16, .inl (fun _ => 0))), (q_9, .inr (2, [.long 0, .long 1]))] ++ fpool fa (fun _ => 0) (fun _ => 1) (7 + i)) := hD
      have pm2 : List.Perm (α := Nat × va_E) ([(a0, .inr (7, [.ref q_1, .ref q_3, .ref q_4, .ref q_5, .ref q_6, .int 0, .int 0])), (q_3, .inl (ta 4, 6, .inr (.inr (.inr (.inr f1))))), (q_4, .inl (ta 4, 16, .inr (.inr (.inr (.inr f2))))), (q_5, .inl (ta 0, 16, .inl (fun _ => 0))), (q_6, .inl (ta 0, 16, .inl (fun _ => 0)))] ++ [(q_9, .inr (2, [.long 0, .long 1]))] ++ fpool fa (fun _ => 0) (fun _ => 1) (7 + i)) ([(a0, .inr (7, [.ref q_1, .ref q_3, .ref q_4, .ref q_5, .ref q_6, .int 0, .int 0])), (q_3, .inl (ta 4, 6, .inr (.inr (.inr (.inr f1))))), (q_4, .inl (ta 4, 16, .inr (.inr (.inr (.inr f2))))), (q_5, .inl (ta 0, 16, .inl (fun _ => 0))), (q_6, .inl (ta 0, 16, .inl (fun _ => 0)))] ++ fpool (va_up fa (7 + i) q_9) (fun _ => 0) (fun _ => 1) ((7 + i) + 1)) := by
        have e8 := fp_push (fa := fa) (fn := fun _ => 0) (fd := fun _ => 1) (n := (7 + i)) (q := q_9)
        rw [← e8, List.append_assoc]
        exact (List.perm_append_left_iff _).mpr List.perm_append_comm
      have hP := va_P.perm pm2 hP
      have hD := va_D.perm pm2 hD
      have hv9 : (([(a0, .inr (7, [.ref q_1, .ref q_3, .ref q_4, .ref q_5, .ref q_6, .int 0, .int 0])), (q_3, .inl (ta 4, 6, .inr (.inr (.inr (.inr f1))))), (q_4, .inl (ta 4, 16, .inr (.inr (.inr (.inr f2))))), (q_5, .inl (ta 0, 16, .inl (fun _ => 0))), (q_6, .inl (ta 0, 16, .inl (fun _ => 0)))] : va_W) ++ fpool (va_up fa (7 + i) q_9) (fun _ => 0) (fun _ => 1) ((7 + i) + 1))[5 + (7 + i)]? = some (q_9, .inr (2, [.long 0, .long 1])) := by
        refine (fp_getX (X := [(a0, .inr (7, [.ref q_1, .ref q_3, .ref q_4, .ref q_5, .ref q_6, .int 0, .int 0])), (q_3, .inl (ta 4, 6, .inr (.inr (.inr (.inr f1))))), (q_4, .inl (ta 4, 16, .inr (.inr (.inr (.inr f2))))), (q_5, .inl (ta 0, 16, .inl (fun _ => 0))), (q_6, .inl (ta 0, 16, .inl (fun _ => 0)))]) (fa := va_up fa (7 + i) q_9) (fn := fun _ => 0) (fd := fun _ => 1) (Nat.lt_succ_self (7 + i))).trans ?_
        rw [va_up_self]
      refine va_astq (r := ("PriceLines$Fraction", F_Fra, 2)) hx hb hK hP hD hS 2 4 (5 + (7 + i)) 2 rfl rfl hv9 rfl (pk_in i 16 (by omega) hk) d_Rec_init_102 (fun H locs hP hD hS => ?_)
      have hP : va_P D vwCl ([(a0, .inr (7, [.ref q_1, .ref q_3, .ref q_4, .ref q_5, .ref q_6, .int 0, .int 0])), (q_3, .inl (ta 4, 6, .inr (.inr (.inr (.inr f1))))), (q_4, .inl (ta 4, 16, .inr (.inr (.inr (.inr (va_up f2 k9.toNatClampNeg (some q_9))))))), (q_5, .inl (ta 0, 16, .inl (fun _ => 0))), (q_6, .inl (ta 0, 16, .inl (fun _ => 0)))] ++ fpool (va_up fa (7 + i) q_9) (fun _ => 0) (fun _ => 1) ((7 + i) + 1)) H := hP
      have hD : va_D A ([(a0, .inr (7, [.ref q_1, .ref q_3, .ref q_4, .ref q_5, .ref q_6, .int 0, .int 0])), (q_3, .inl (ta 4, 6, .inr (.inr (.inr (.inr f1))))), (q_4, .inl (ta 4, 16, .inr (.inr (.inr (.inr (va_up f2 k9.toNatClampNeg (some q_9))))))), (q_5, .inl (ta 0, 16, .inl (fun _ => 0))), (q_6, .inl (ta 0, 16, .inl (fun _ => 0)))] ++ fpool (va_up fa (7 + i) q_9) (fun _ => 0) (fun _ => 1) ((7 + i) + 1)) := hD
      refine lv_iinc (v := (k9 + 1)) (lv' := [(1, .int (k9 + 1)), (0, .ref a0)]) hx hb d_Rec_init_103 hl (k := 0) rfl rfl (by decide) rfl (fun ls hl => ?_)
      refine lv_goto (tgt := 81) hx hb d_Rec_init_106 (by decide) ?_
      refine ih (i + 1) (va_up fa (7 + i) q_9) f1 (va_up f2 k9.toNatClampNeg (some q_9)) (k9 + 1) ls H locs (by omega) (by rw [hk, nI_1]) (by rw [va_up_ne _ _ (by omega)]; exact hf0) ?_ hP hD hS hl
      refine ⟨fun j hj => ?_, fun j hj => ?_⟩
      · rw [va_up_ne _ _ (by omega)]; exact hf.1 j hj
      · rw [hk, nI_clamp (by omega)]
        by_cases h7 : j = i
        · subst h7; rw [va_up_self, va_up_self]
        · rw [va_up_ne _ _ h7, va_up_ne _ _ (by omega)]; exact hf.2 j (by omega)
  have LOOP1 : ∀ (r i : Nat) (fa : Nat → Nat) (f1 f2 : Nat → Option Nat) (k9 : Int32) (ls : Array Slot) (H : Heap) (locs : List Loc), i + r = 6 → k9 = nI i → fa 0 = q_1 → (∀ j, j < i → f1 j = some (fa (1 + j))) → va_P D vwCl ([(a0, .inr (7, [.ref q_1, .ref q_3, .ref q_4, .ref q_5, .ref q_6, .int 0, .int 0])), (q_3, .inl (ta 4, 6, .inr (.inr (.inr (.inr f1))))), (q_4, .inl (ta 4, 16, .inr (.inr (.inr (.inr f2))))), (q_5, .inl (ta 0, 16, .inl (fun _ => 0))), (q_6, .inl (ta 0, 16, .inl (fun _ => 0)))] ++ fpool fa (fun _ => 0) (fun _ => 1) (1 + i)) H → va_D A ([(a0, .inr (7, [.ref q_1, .ref q_3, .ref q_4, .ref q_5, .ref q_6, .int 0, .int 0])), (q_3, .inl (ta 4, 6, .inr (.inr (.inr (.inr f1))))), (q_4, .inl (ta 4, 16, .inr (.inr (.inr (.inr f2))))), (q_5, .inl (ta 0, 16, .inl (fun _ => 0))), (q_6, .inl (ta 0, 16, .inl (fun _ => 0)))] ++ fpool fa (fun _ => 0) (fun _ => 1) (1 + i)) → va_S A s.heap H locs → lv_has ls 2 [(1, .int k9), (0, .ref a0)] → W p l e { frames := 2, cells := 27, slots := 100, locals := 60 } s m ([.ref a0] : List Value).toArray below meth c H locs (5 + i) (56 + 2 * i) (MQ below (eN D ta A (fun u => ([(a0, .inr (7, [.ref (u.2 0), .ref (u.1 0), .ref (u.1 1), .ref (u.1 2), .ref (u.1 3), .int 0, .int 0])), ((u.1 0), .inl (ta 4, 6, .inr (.inr (.inr (.inr (stF u.2)))))), ((u.1 1), .inl (ta 4, 16, .inr (.inr (.inr (.inr (adF u.2)))))), ((u.1 2), .inl (ta 0, 16, .inl (fun _ => 0))), ((u.1 3), .inl (ta 0, 16, .inl (fun _ => 0)))] ++ fpool u.2 (fun _ => 0) (fun _ => 1) 23))) ([.ref a0] : List Value).toArray s 27 100 A) (F0 m 51 ls []) := by
    intro r
    induction r with
    | zero =>
      intro i fa f1 f2 k9 ls H locs hi hk hf0 hf hP hD hS hl
      have hi : i = 6 := by omega
      subst hi
      have hge : (6 : Int32) ≤ k9 := by rw [hk]; decide
      refine lv_iload_n hx hb d_Rec_init_51 rfl (lv_at hl 0 rfl) ?_
      refine lv_aload_n hx hb d_Rec_init_52 rfl (lv_at hl 1 rfl) ?_
      refine va_get (D := D) (ci := 7) (v := .ref q_3) (C := "PriceLines$Reckoning") (T := F_Rec) (N := 7) hx hb hw in_Rec hown hK hP 0 rfl rfl 1 (by decide) (hw _ W1_84) (fun _ h9 => h9) rfl d_Rec_init_53 ?_
      refine va_alen (v := 6) hx hb hK hP 1 4 rfl rfl rfl d_Rec_init_56 ?_
      refine lv_icmp_ge (tgt := 79) hx hb d_Rec_init_57 (by decide) (fun _ => ?_) (fun c_11 => absurd hge c_11)
      refine lv_iconst (v := 0) hx hb d_Rec_init_79 (by decide) ?_
      refine lv_istore_n (lv' := [(1, .int 0), (0, .ref a0)]) hx hb d_Rec_init_80 rfl hl (by decide) rfl (fun ls hl => ?_)
      exact LOOP2 16 0 fa f1 f2 0 ls H locs rfl rfl hf0 ⟨hf, fun j hj => absurd hj (Nat.not_lt_zero _)⟩ hP hD hS hl
    | succ r ih =>
      intro i fa f1 f2 k9 ls H locs hi hk hf0 hf hP hD hS hl
      have hlt : ¬ (6 : Int32) ≤ k9 := by rw [hk]; exact nI_ge (b := 6) (by omega) (by decide)
      refine lv_iload_n hx hb d_Rec_init_51 rfl (lv_at hl 0 rfl) ?_
      refine lv_aload_n hx hb d_Rec_init_52 rfl (lv_at hl 1 rfl) ?_
      refine va_get (D := D) (ci := 7) (v := .ref q_3) (C := "PriceLines$Reckoning") (T := F_Rec) (N := 7) hx hb hw in_Rec hown hK hP 0 rfl rfl 1 (by decide) (hw _ W1_84) (fun _ h9 => h9) rfl d_Rec_init_53 ?_
      refine va_alen (v := 6) hx hb hK hP 1 4 rfl rfl rfl d_Rec_init_56 ?_
      refine lv_icmp_ge (tgt := 79) hx hb d_Rec_init_57 (by decide) (fun c_12 => absurd c_12 hlt) (fun _ => ?_)
      refine lv_aload_n hx hb d_Rec_init_60 rfl (lv_at hl 1 rfl) ?_
      refine va_get (D := D) (ci := 7) (v := .ref q_3) (C := "PriceLines$Reckoning") (T := F_Rec) (N := 7) hx hb hw in_Rec hown hK hP 0 rfl rfl 1 (by decide) (hw _ W1_84) (fun _ h9 => h9) rfl d_Rec_init_61 ?_
      refine lv_iload_n hx hb d_Rec_init_64 rfl (lv_at hl 0 rfl) ?_
      refine va_new (ci := 2) (fs := [.long 0, .long 0]) (C := "PriceLines$Fraction") (T := F_Fra) (N := 2) hx hb hw in_Fra t_Fra tk_Fra hown (hw _ W1_67) (hw _ W1_68) (hw _ W1_5) hK hP hD hS hA rfl (by decide) (by show _ + _ ≤ 27; omega) (by show _ + _ ≤ 100; omega) d_Rec_init_65 (fun q_13 H hP hD hS => ?_)
      have hP : va_P D vwCl (([(a0, .inr (7, [.ref q_1, .ref q_3, .ref q_4, .ref q_5, .ref q_6, .int 0, .int 0])), (q_3, .inl (ta 4, 6, .inr (.inr (.inr (.inr f1))))), (q_4, .inl (ta 4, 16, .inr (.inr (.inr (.inr f2))))), (q_5, .inl (ta 0, 16, .inl (fun _ => 0))), (q_6, .inl (ta 0, 16, .inl (fun _ => 0)))] ++ fpool fa (fun _ => 0) (fun _ => 1) (1 + i)) ++ [(q_13, .inr (2, [.long 0, .long 0]))]) H := hP
      have hD : va_D A (([(a0, .inr (7, [.ref q_1, .ref q_3, .ref q_4, .ref q_5, .ref q_6, .int 0, .int 0])), (q_3, .inl (ta 4, 6, .inr (.inr (.inr (.inr f1))))), (q_4, .inl (ta 4, 16, .inr (.inr (.inr (.inr f2))))), (q_5, .inl (ta 0, 16, .inl (fun _ => 0))), (q_6, .inl (ta 0, 16, .inl (fun _ => 0)))] ++ fpool fa (fun _ => 0) (fun _ => 1) (1 + i)) ++ [(q_13, .inr (2, [.long 0, .long 0]))]) := hD
      refine lv_dup hx hb d_Rec_init_68 rfl ?_
      refine kJ_n (ws := ([(a0, .inr (7, [.ref q_1, .ref q_3, .ref q_4, .ref q_5, .ref q_6, .int 0, .int 0])), (q_3, .inl (ta 4, 6, .inr (.inr (.inr (.inr f1))))), (q_4, .inl (ta 4, 16, .inr (.inr (.inr (.inr f2))))), (q_5, .inl (ta 0, 16, .inl (fun _ => 0))), (q_6, .inl (ta 0, 16, .inl (fun _ => 0)))] ++ fpool fa (fun _ => 0) (fun _ => 1) (1 + i))) ⟨hx, hb, hml, hown, hw⟩ (c_Fra_init l D ta q_13) (hN.get 2 rfl) W1_70 W1_5 W1_71 rfl rfl rfl rfl hd_Fra_init ⟨Nat.le_of_ble_eq_true rfl, Nat.le_of_ble_eq_true rfl⟩ hK hN hO hP hD hS hA hl.1 (Nat.le_of_ble_eq_true rfl) ⟨by show _ + _ ≤ 27; omega, by show _ + _ ≤ 100; omega⟩ d_Rec_init_69 (fun u_14 H locs hP hD hS => ?_)
      have hP := va_P.perm (pool_back (X := [(a0, .inr (7, [.ref q_1, .ref q_3, .ref q_4, .ref q_5, .ref q_6, .int 0, .int 0])), (q_3, .inl (ta 4, 6, .inr (.inr (.inr (.inr f1))))), (q_4, .inl (ta 4, 16, .inr (.inr (.inr (.inr f2))))), (q_5, .inl (ta 0, 16, .inl (fun _ => 0))), (q_6, .inl (ta 0, 16, .inl (fun _ => 0)))]) (pl := fpool fa (fun _ => 0) (fun _ => 1) (1 + i)) (Y := [(q_13, .inr (2, [.long 0, .long 1]))])) hP
      have hD := va_D.perm (pool_back (X := [(a0, .inr (7, [.ref q_1, .ref q_3, .ref q_4, .ref q_5, .ref q_6, .int 0, .int 0])), (q_3, .inl (ta 4, 6, .inr (.inr (.inr (.inr f1))))), (q_4, .inl (ta 4, 16, .inr (.inr (.inr (.inr f2))))), (q_5, .inl (ta 0, 16, .inl (fun _ => 0))), (q_6, .inl (ta 0, 16, .inl (fun _ => 0)))]) (pl := fpool fa (fun _ => 0) (fun _ => 1) (1 + i)) (Y := [(q_13, .inr (2, [.long 0, .long 1]))])) hD
      have hP : va_P D vwCl ([(a0, .inr (7, [.ref q_1, .ref q_3, .ref q_4, .ref q_5, .ref q_6, .int 0, .int 0])), (q_3, .inl (ta 4, 6, .inr (.inr (.inr (.inr f1))))), (q_4, .inl (ta 4, 16, .inr (.inr (.inr (.inr f2))))), (q_5, .inl (ta 0, 16, .inl (fun _ => 0))), (q_6, .inl (ta 0, 16, .inl (fun _ => 0))), (q_13, .inr (2, [.long 0, .long 1]))] ++ fpool fa (fun _ => 0) (fun _ => 1) (1 + i)) H := hP
      have hD : va_D A ([(a0, .inr (7, [.ref q_1, .ref q_3, .ref q_4, .ref q_5, .ref q_6, .int 0, .int 0])), (q_3, .inl (ta 4, 6, .inr (.inr (.inr (.inr f1))))), (q_4, .inl (ta 4, 16, .inr (.inr (.inr (.inr f2))))), (q_5, .inl (ta 0, 16, .inl (fun _ => 0))), (q_6, .inl (ta 0, 16, .inl (fun _ => 0))), (q_13, .inr (2, [.long 0, .long 1]))] ++ fpool fa (fun _ => 0) (fun _ => 1) (1 + i)) := hD
      have pm2 : List.Perm (α := Nat × va_E) ([(a0, .inr (7, [.ref q_1, .ref q_3, .ref q_4, .ref q_5, .ref q_6, .int 0, .int 0])), (q_3, .inl (ta 4, 6, .inr (.inr (.inr (.inr f1))))), (q_4, .inl (ta 4, 16, .inr (.inr (.inr (.inr f2))))), (q_5, .inl (ta 0, 16, .inl (fun _ => 0))), (q_6, .inl (ta 0, 16, .inl (fun _ => 0)))] ++ [(q_13, .inr (2, [.long 0, .long 1]))] ++ fpool fa (fun _ => 0) (fun _ => 1) (1 + i)) ([(a0, .inr (7, [.ref q_1, .ref q_3, .ref q_4, .ref q_5, .ref q_6, .int 0, .int 0])), (q_3, .inl (ta 4, 6, .inr (.inr (.inr (.inr f1))))), (q_4, .inl (ta 4, 16, .inr (.inr (.inr (.inr f2))))), (q_5, .inl (ta 0, 16, .inl (fun _ => 0))), (q_6, .inl (ta 0, 16, .inl (fun _ => 0)))] ++ fpool (va_up fa (1 + i) q_13) (fun _ => 0) (fun _ => 1) ((1 + i) + 1)) := by
        have e8 := fp_push (fa := fa) (fn := fun _ => 0) (fd := fun _ => 1) (n := (1 + i)) (q := q_13)
        rw [← e8, List.append_assoc]
        exact (List.perm_append_left_iff _).mpr List.perm_append_comm
      have hP := va_P.perm pm2 hP
      have hD := va_D.perm pm2 hD
      have hv9 : (([(a0, .inr (7, [.ref q_1, .ref q_3, .ref q_4, .ref q_5, .ref q_6, .int 0, .int 0])), (q_3, .inl (ta 4, 6, .inr (.inr (.inr (.inr f1))))), (q_4, .inl (ta 4, 16, .inr (.inr (.inr (.inr f2))))), (q_5, .inl (ta 0, 16, .inl (fun _ => 0))), (q_6, .inl (ta 0, 16, .inl (fun _ => 0)))] : va_W) ++ fpool (va_up fa (1 + i) q_13) (fun _ => 0) (fun _ => 1) ((1 + i) + 1))[5 + (1 + i)]? = some (q_13, .inr (2, [.long 0, .long 1])) := by
        refine (fp_getX (X := [(a0, .inr (7, [.ref q_1, .ref q_3, .ref q_4, .ref q_5, .ref q_6, .int 0, .int 0])), (q_3, .inl (ta 4, 6, .inr (.inr (.inr (.inr f1))))), (q_4, .inl (ta 4, 16, .inr (.inr (.inr (.inr f2))))), (q_5, .inl (ta 0, 16, .inl (fun _ => 0))), (q_6, .inl (ta 0, 16, .inl (fun _ => 0)))]) (fa := va_up fa (1 + i) q_13) (fn := fun _ => 0) (fd := fun _ => 1) (Nat.lt_succ_self (1 + i))).trans ?_
        rw [va_up_self]
      refine va_astq (r := ("PriceLines$Fraction", F_Fra, 2)) hx hb hK hP hD hS 1 4 (5 + (1 + i)) 2 rfl rfl hv9 rfl (pk_in i 6 (by omega) hk) d_Rec_init_72 (fun H locs hP hD hS => ?_)
      have hP : va_P D vwCl ([(a0, .inr (7, [.ref q_1, .ref q_3, .ref q_4, .ref q_5, .ref q_6, .int 0, .int 0])), (q_3, .inl (ta 4, 6, .inr (.inr (.inr (.inr (va_up f1 k9.toNatClampNeg (some q_13))))))), (q_4, .inl (ta 4, 16, .inr (.inr (.inr (.inr f2))))), (q_5, .inl (ta 0, 16, .inl (fun _ => 0))), (q_6, .inl (ta 0, 16, .inl (fun _ => 0)))] ++ fpool (va_up fa (1 + i) q_13) (fun _ => 0) (fun _ => 1) ((1 + i) + 1)) H := hP
      have hD : va_D A ([(a0, .inr (7, [.ref q_1, .ref q_3, .ref q_4, .ref q_5, .ref q_6, .int 0, .int 0])), (q_3, .inl (ta 4, 6, .inr (.inr (.inr (.inr (va_up f1 k9.toNatClampNeg (some q_13))))))), (q_4, .inl (ta 4, 16, .inr (.inr (.inr (.inr f2))))), (q_5, .inl (ta 0, 16, .inl (fun _ => 0))), (q_6, .inl (ta 0, 16, .inl (fun _ => 0)))] ++ fpool (va_up fa (1 + i) q_13) (fun _ => 0) (fun _ => 1) ((1 + i) + 1)) := hD
      refine lv_iinc (v := (k9 + 1)) (lv' := [(1, .int (k9 + 1)), (0, .ref a0)]) hx hb d_Rec_init_73 hl (k := 0) rfl rfl (by decide) rfl (fun ls hl => ?_)
      refine lv_goto (tgt := 51) hx hb d_Rec_init_76 (by decide) ?_
      refine ih (i + 1) (va_up fa (1 + i) q_13) (va_up f1 k9.toNatClampNeg (some q_13)) f2 (k9 + 1) ls H locs (by omega) (by rw [hk, nI_1]) (by rw [va_up_ne _ _ (by omega)]; exact hf0) ?_ hP hD hS hl
      intro j hj
      rw [hk, nI_clamp (by omega)]
      by_cases h7 : j = i
      · subst h7; rw [va_up_self, va_up_self]
      · rw [va_up_ne _ _ h7, va_up_ne _ _ (by omega)]; exact hf j (by omega)
  refine lv_iconst (v := 0) hx hb d_Rec_init_49 (by decide) ?_
  refine lv_istore_n (lv' := [(1, .int 0), (0, .ref a0)]) hx hb d_Rec_init_50 rfl hl (by decide) rfl (fun ls hl => ?_)
  exact LOOP1 6 0 (fun _ => q_1) (fun _ => none) (fun _ => none) 0 ls H locs rfl rfl rfl (fun j hj => absurd hj (Nat.not_lt_zero _)) hP hD hS hl
