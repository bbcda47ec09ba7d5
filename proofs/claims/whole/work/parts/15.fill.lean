def rfE (bh ht lc : Int32) : Int32 := if ht = 0 then (if lc ≤ 0 then bh else (-1)) else bh
abbrev RF : Type := Int32 × Int32 × Int32 × (Nat → Int32) × (Nat → Int32) × Int32 × Int32
/-- the reading of the text's characters from 240 - f on -/
def rfL (tx : Nat → Int32) (bh : Int32) : Nat → Int32 → Int32 → (Nat → Int32) → (Nat → Int32) → Int32 → Int32 → RF
  | 0, ht, dg, sg, en, sc, lc => (rfE bh ht lc, ht, dg, sg, en, sc, lc)
  | f + 1, ht, dg, sg, en, sc, lc => if bh ≤ nI (240 - (f + 1)) then (rfE bh ht lc, ht, dg, sg, en, sc, lc) else
      (if (raAcc (tx (nI (240 - (f + 1))).toNatClampNeg) ht dg sg en sc lc).1 = true then
        rfL tx bh f (raAcc (tx (nI (240 - (f + 1))).toNatClampNeg) ht dg sg en sc lc).2.1 (raAcc (tx (nI (240 - (f + 1))).toNatClampNeg) ht dg sg en sc lc).2.2.1 (raAcc (tx (nI (240 - (f + 1))).toNatClampNeg) ht dg sg en sc lc).2.2.2.1 (raAcc (tx (nI (240 - (f + 1))).toNatClampNeg) ht dg sg en sc lc).2.2.2.2.1 (raAcc (tx (nI (240 - (f + 1))).toNatClampNeg) ht dg sg en sc lc).2.2.2.2.2.1 (raAcc (tx (nI (240 - (f + 1))).toNatClampNeg) ht dg sg en sc lc).2.2.2.2.2.2
      else (nI (240 - (f + 1)), (raAcc (tx (nI (240 - (f + 1))).toNatClampNeg) ht dg sg en sc lc).2))
theorem hd_Rea_fill : y_Rea_fill.cls = "PriceLines$Reader" ∧ y_Rea_fill.cls ≠ "java/lang/invoke/MethodHandle" ∧ y_Rea_fill.cls ≠ "java/lang/invoke/VarHandle" ∧ (parseMethodDescriptor y_Rea_fill.desc).map (fun d => d.parameters.length) = some 1 := by decide +kernel
set_option maxHeartbeats 1000000 in
set_option maxRecDepth 100000 in
theorem c_Rea_fill (l : Launch) (D : va_G) (ta : Nat → ClassId) (h0 h1 : Nat) (tx : Nat → Int32) (ln : Int32) (ht : Int32) (dg : Int32) (g0 g1 g2 : Nat) (sg : Nat → Int32) (en : Nat → Int32) (sc : Int32) (lc : Int32) : ∀ sz, Met l y_Rea_fill w_Rea_fill { frames := 5, cells := 0, slots := 0, locals := 108 } (va_Pc [.ref h0, .ref g0] (pW D ta [(h0, .inr (6, [.ref h1, .int ln, .int ht, .int dg])), (h1, .inl (ta 1, 240, .inl tx)), (g0, .inr (8, [.ref g1, .ref g2, .int sc, .int lc])), (g1, .inl (ta 0, 240, .inl sg)), (g2, .inl (ta 0, 16, .inl en))] sz)) (eI D ta (va_A [(h0, .inr (6, [.ref h1, .int ln, .int ht, .int dg])), (h1, .inl (ta 1, 240, .inl tx)), (g0, .inr (8, [.ref g1, .ref g2, .int sc, .int lc])), (g1, .inl (ta 0, 240, .inl sg)), (g2, .inl (ta 0, 16, .inl en))] sz) ((rfL tx ln 240 0 0 sg en 0 0).1) [(h0, .inr (6, [.ref h1, .int 0, .int (rfL tx ln 240 0 0 sg en 0 0).2.1, .int (rfL tx ln 240 0 0 sg en 0 0).2.2.1])), (h1, .inl (ta 1, 240, .inl tx)), (g0, .inr (8, [.ref g1, .ref g2, .int (rfL tx ln 240 0 0 sg en 0 0).2.2.2.2.2.1, .int (rfL tx ln 240 0 0 sg en 0 0).2.2.2.2.2.2])), (g1, .inl (ta 0, 240, .inl (rfL tx ln 240 0 0 sg en 0 0).2.2.2.1)), (g2, .inl (ta 0, 16, .inl (rfL tx ln 240 0 0 sg en 0 0).2.2.2.2.1))]) 0 0 (va_A [(h0, .inr (6, [.ref h1, .int ln, .int ht, .int dg])), (h1, .inl (ta 1, 240, .inl tx)), (g0, .inr (8, [.ref g1, .ref g2, .int sc, .int lc])), (g1, .inl (ta 0, 240, .inl sg)), (g2, .inl (ta 0, 16, .inl en))] sz) := by
  refine opn_I (bytes := b_Rea_fill) (maxL := 4) (by decide +kernel) rfl (Nat.le_of_ble_eq_true rfl) ?_
  intro p e s m below meth c A ls hx hb hr hml hown hlocks hnm hw hK hN hP hD hA hS hl
  have hl : lv_has ls 4 [(0, .ref h0), (1, .ref g0)] := hl
  have LOOP : ∀ (f : Nat) (ht9 dg9 : Int32) (sg9 en9 : Nat → Int32) (sc9 lc9 k : Int32) (ls : Array Slot) (H : Heap) (locs : List Loc), k = nI (240 - f) → f ≤ 240 → rfL tx ln f ht9 dg9 sg9 en9 sc9 lc9 = (rfL tx ln 240 0 0 sg en 0 0) → va_P D vwCl [(h0, .inr (6, [.ref h1, .int 0, .int ht9, .int dg9])), (h1, .inl (ta 1, 240, .inl tx)), (g0, .inr (8, [.ref g1, .ref g2, .int sc9, .int lc9])), (g1, .inl (ta 0, 240, .inl sg9)), (g2, .inl (ta 0, 16, .inl en9))] H → va_D A [(h0, .inr (6, [.ref h1, .int 0, .int ht9, .int dg9])), (h1, .inl (ta 1, 240, .inl tx)), (g0, .inr (8, [.ref g1, .ref g2, .int sc9, .int lc9])), (g1, .inl (ta 0, 240, .inl sg9)), (g2, .inl (ta 0, 16, .inl en9))] → va_S A s.heap H locs → lv_has ls 4 [(3, .int k), (2, .int ln), (0, .ref h0), (1, .ref g0)] → W p l e { frames := 5, cells := 0, slots := 0, locals := 108 } s m ([.ref h0, .ref g0] : List Value).toArray below meth c H locs 0 0 (MQ below (eI D ta A ((rfL tx ln 240 0 0 sg en 0 0).1) [(h0, .inr (6, [.ref h1, .int 0, .int (rfL tx ln 240 0 0 sg en 0 0).2.1, .int (rfL tx ln 240 0 0 sg en 0 0).2.2.1])), (h1, .inl (ta 1, 240, .inl tx)), (g0, .inr (8, [.ref g1, .ref g2, .int (rfL tx ln 240 0 0 sg en 0 0).2.2.2.2.2.1, .int (rfL tx ln 240 0 0 sg en 0 0).2.2.2.2.2.2])), (g1, .inl (ta 0, 240, .inl (rfL tx ln 240 0 0 sg en 0 0).2.2.2.1)), (g2, .inl (ta 0, 16, .inl (rfL tx ln 240 0 0 sg en 0 0).2.2.2.2.1))]) ([.ref h0, .ref g0] : List Value).toArray s 0 0 A) (F0 m 26 ls []) := by
    intro f
    induction f with
    | zero =>
      intro ht9 dg9 sg9 en9 sc9 lc9 k ls H locs hk hf hc hP hD hS hl
      refine lv_iload_n hx hb d_Rea_fill_26 rfl (lv_at hl 0 rfl) ?_
      refine lv_iload_n hx hb d_Rea_fill_27 rfl (lv_at hl 1 rfl) ?_
      refine lv_icmp_ge (tgt := 62) hx hb d_Rea_fill_28 (by decide) (fun c_1 => ?_) (fun c_1 => ?_)
      · refine lv_aload_n hx hb d_Rea_fill_62 rfl (lv_at hl 2 rfl) ?_
        refine va_get (D := D) (ci := 6) (v := .int ht9) (C := "PriceLines$Reader") (T := F_Rea) (N := 4) hx hb hw in_Rea hown hK hP 0 rfl rfl 2 (by decide) (hw _ W1_35) (fun _ h9 => h9) rfl d_Rea_fill_63 ?_
        refine lv_if_ne (tgt := 80) hx hb d_Rea_fill_66 (by decide) (fun c_2 => ?_) (fun c_2 => ?_)
        · refine lv_iconst (v := 0) hx hb d_Rea_fill_80 (by decide) ?_
          refine lv_istore_n (lv' := [(3, .int 0), (2, .int ln), (0, .ref h0), (1, .ref g0)]) hx hb d_Rea_fill_81 rfl hl (by decide) rfl (fun ls hl => ?_)
          refine lv_iload_n hx hb d_Rea_fill_82 rfl (lv_at hl 0 rfl) ?_
          refine lv_if_eq (tgt := 90) hx hb d_Rea_fill_83 (by decide) (fun _ => ?_) (fun c_3 => absurd (by decide) c_3)
          refine lv_iload_n hx hb d_Rea_fill_90 rfl (lv_at hl 1 rfl) ?_
          exact fin_i hx hb hr hlocks hK hP hD hS d_Rea_fill_91 (by rw [← hc]; simp only [rfL, rfE, c_1, c_2, if_true, if_false, Bool.false_eq_true]) (by rw [← hc]; simp only [rfL, rfE, c_1, c_2, if_true, if_false, Bool.false_eq_true])
        · refine lv_aload_n hx hb d_Rea_fill_69 rfl (lv_at hl 3 rfl) ?_
          refine va_getN (D := D) (ci := 8) (v := .int lc9) (C := "PriceLines$Sheet") (T := F_She) (N := 4) hx hb hw in_She hown hK hP 2 rfl rfl 3 (by decide) (hN.use 16 rfl rfl) (fun _ h9 => h9) rfl d_Rea_fill_70 ?_
          refine lv_if_le (tgt := 80) hx hb d_Rea_fill_73 (by decide) (fun c_4 => ?_) (fun c_4 => ?_)
          · refine lv_iconst (v := 0) hx hb d_Rea_fill_80 (by decide) ?_
            refine lv_istore_n (lv' := [(3, .int 0), (2, .int ln), (0, .ref h0), (1, .ref g0)]) hx hb d_Rea_fill_81 rfl hl (by decide) rfl (fun ls hl => ?_)
            refine lv_iload_n hx hb d_Rea_fill_82 rfl (lv_at hl 0 rfl) ?_
            refine lv_if_eq (tgt := 90) hx hb d_Rea_fill_83 (by decide) (fun _ => ?_) (fun c_5 => absurd (by decide) c_5)
            refine lv_iload_n hx hb d_Rea_fill_90 rfl (lv_at hl 1 rfl) ?_
            exact fin_i hx hb hr hlocks hK hP hD hS d_Rea_fill_91 (by rw [← hc]; simp only [rfL, rfE, c_1, eq_true c_2, c_4, if_true, if_false, Bool.false_eq_true]) (by rw [← hc]; simp only [rfL, rfE, c_1, eq_true c_2, c_4, if_true, if_false, Bool.false_eq_true])
          · refine lv_iconst (v := 1) hx hb d_Rea_fill_76 (by decide) ?_
            refine lv_goto (tgt := 81) hx hb d_Rea_fill_77 (by decide) ?_
            refine lv_istore_n (lv' := [(3, .int 1), (2, .int ln), (0, .ref h0), (1, .ref g0)]) hx hb d_Rea_fill_81 rfl hl (by decide) rfl (fun ls hl => ?_)
            refine lv_iload_n hx hb d_Rea_fill_82 rfl (lv_at hl 0 rfl) ?_
            refine lv_if_eq (tgt := 90) hx hb d_Rea_fill_83 (by decide) (fun c_6 => absurd c_6 (by decide)) (fun _ => ?_)
            refine lv_iconst (v := (-1)) hx hb d_Rea_fill_86 (by decide) ?_
            refine lv_goto (tgt := 91) hx hb d_Rea_fill_87 (by decide) ?_
            exact fin_i hx hb hr hlocks hK hP hD hS d_Rea_fill_91 (by rw [← hc]; simp only [rfL, rfE, c_1, eq_true c_2, c_4, if_true, if_false, Bool.false_eq_true]) (by rw [← hc]; simp only [rfL, rfE, c_1, eq_true c_2, c_4, if_true, if_false, Bool.false_eq_true])
      · refine lv_iload_n hx hb d_Rea_fill_31 rfl (lv_at hl 0 rfl) ?_
        refine lv_aload_n hx hb d_Rea_fill_32 rfl (lv_at hl 2 rfl) ?_
        refine va_get (D := D) (ci := 6) (v := .ref h1) (C := "PriceLines$Reader") (T := F_Rea) (N := 4) hx hb hw in_Rea hown hK hP 0 rfl rfl 0 (by decide) (hw _ W1_33) (fun _ h9 => h9) rfl d_Rea_fill_33 ?_
        refine va_alen (v := 240) hx hb hK hP 1 1 rfl rfl rfl d_Rea_fill_36 ?_
        refine lv_icmp_ge (tgt := 62) hx hb d_Rea_fill_37 (by decide) (fun c_7 => ?_) (fun c_7 => ?_)
        · refine lv_aload_n hx hb d_Rea_fill_62 rfl (lv_at hl 2 rfl) ?_
          refine va_get (D := D) (ci := 6) (v := .int ht9) (C := "PriceLines$Reader") (T := F_Rea) (N := 4) hx hb hw in_Rea hown hK hP 0 rfl rfl 2 (by decide) (hw _ W1_35) (fun _ h9 => h9) rfl d_Rea_fill_63 ?_
          refine lv_if_ne (tgt := 80) hx hb d_Rea_fill_66 (by decide) (fun c_8 => ?_) (fun c_8 => ?_)
          · refine lv_iconst (v := 0) hx hb d_Rea_fill_80 (by decide) ?_
            refine lv_istore_n (lv' := [(3, .int 0), (2, .int ln), (0, .ref h0), (1, .ref g0)]) hx hb d_Rea_fill_81 rfl hl (by decide) rfl (fun ls hl => ?_)
            refine lv_iload_n hx hb d_Rea_fill_82 rfl (lv_at hl 0 rfl) ?_
            refine lv_if_eq (tgt := 90) hx hb d_Rea_fill_83 (by decide) (fun _ => ?_) (fun c_9 => absurd (by decide) c_9)
            refine lv_iload_n hx hb d_Rea_fill_90 rfl (lv_at hl 1 rfl) ?_
            exact fin_i hx hb hr hlocks hK hP hD hS d_Rea_fill_91 (by rw [← hc]; simp only [rfL, rfE, c_1, c_7, c_8, if_true, if_false, Bool.false_eq_true]) (by rw [← hc]; simp only [rfL, rfE, c_1, c_7, c_8, if_true, if_false, Bool.false_eq_true])
          · refine lv_aload_n hx hb d_Rea_fill_69 rfl (lv_at hl 3 rfl) ?_
            refine va_getN (D := D) (ci := 8) (v := .int lc9) (C := "PriceLines$Sheet") (T := F_She) (N := 4) hx hb hw in_She hown hK hP 2 rfl rfl 3 (by decide) (hN.use 16 rfl rfl) (fun _ h9 => h9) rfl d_Rea_fill_70 ?_
            refine lv_if_le (tgt := 80) hx hb d_Rea_fill_73 (by decide) (fun c_10 => ?_) (fun c_10 => ?_)
            · refine lv_iconst (v := 0) hx hb d_Rea_fill_80 (by decide) ?_
              refine lv_istore_n (lv' := [(3, .int 0), (2, .int ln), (0, .ref h0), (1, .ref g0)]) hx hb d_Rea_fill_81 rfl hl (by decide) rfl (fun ls hl => ?_)
              refine lv_iload_n hx hb d_Rea_fill_82 rfl (lv_at hl 0 rfl) ?_
              refine lv_if_eq (tgt := 90) hx hb d_Rea_fill_83 (by decide) (fun _ => ?_) (fun c_11 => absurd (by decide) c_11)
              refine lv_iload_n hx hb d_Rea_fill_90 rfl (lv_at hl 1 rfl) ?_
              exact fin_i hx hb hr hlocks hK hP hD hS d_Rea_fill_91 (by rw [← hc]; simp only [rfL, rfE, c_1, c_7, eq_true c_8, c_10, if_true, if_false, Bool.false_eq_true]) (by rw [← hc]; simp only [rfL, rfE, c_1, c_7, eq_true c_8, c_10, if_true, if_false, Bool.false_eq_true])
            · refine lv_iconst (v := 1) hx hb d_Rea_fill_76 (by decide) ?_
              refine lv_goto (tgt := 81) hx hb d_Rea_fill_77 (by decide) ?_
              refine lv_istore_n (lv' := [(3, .int 1), (2, .int ln), (0, .ref h0), (1, .ref g0)]) hx hb d_Rea_fill_81 rfl hl (by decide) rfl (fun ls hl => ?_)
              refine lv_iload_n hx hb d_Rea_fill_82 rfl (lv_at hl 0 rfl) ?_
              refine lv_if_eq (tgt := 90) hx hb d_Rea_fill_83 (by decide) (fun c_12 => absurd c_12 (by decide)) (fun _ => ?_)
              refine lv_iconst (v := (-1)) hx hb d_Rea_fill_86 (by decide) ?_
              refine lv_goto (tgt := 91) hx hb d_Rea_fill_87 (by decide) ?_
              exact fin_i hx hb hr hlocks hK hP hD hS d_Rea_fill_91 (by rw [← hc]; simp only [rfL, rfE, c_1, c_7, eq_true c_8, c_10, if_true, if_false, Bool.false_eq_true]) (by rw [← hc]; simp only [rfL, rfE, c_1, c_7, eq_true c_8, c_10, if_true, if_false, Bool.false_eq_true])
        · exact absurd (by subst hk; decide) c_7
    | succ f ih =>
      intro ht9 dg9 sg9 en9 sc9 lc9 k ls H locs hk hf hc hP hD hS hl
      refine lv_iload_n hx hb d_Rea_fill_26 rfl (lv_at hl 0 rfl) ?_
      refine lv_iload_n hx hb d_Rea_fill_27 rfl (lv_at hl 1 rfl) ?_
      refine lv_icmp_ge (tgt := 62) hx hb d_Rea_fill_28 (by decide) (fun c_13 => ?_) (fun c_13 => ?_)
      · refine lv_aload_n hx hb d_Rea_fill_62 rfl (lv_at hl 2 rfl) ?_
        refine va_get (D := D) (ci := 6) (v := .int ht9) (C := "PriceLines$Reader") (T := F_Rea) (N := 4) hx hb hw in_Rea hown hK hP 0 rfl rfl 2 (by decide) (hw _ W1_35) (fun _ h9 => h9) rfl d_Rea_fill_63 ?_
        refine lv_if_ne (tgt := 80) hx hb d_Rea_fill_66 (by decide) (fun c_14 => ?_) (fun c_14 => ?_)
        · refine lv_iconst (v := 0) hx hb d_Rea_fill_80 (by decide) ?_
          refine lv_istore_n (lv' := [(3, .int 0), (2, .int ln), (0, .ref h0), (1, .ref g0)]) hx hb d_Rea_fill_81 rfl hl (by decide) rfl (fun ls hl => ?_)
          refine lv_iload_n hx hb d_Rea_fill_82 rfl (lv_at hl 0 rfl) ?_
          refine lv_if_eq (tgt := 90) hx hb d_Rea_fill_83 (by decide) (fun _ => ?_) (fun c_15 => absurd (by decide) c_15)
          refine lv_iload_n hx hb d_Rea_fill_90 rfl (lv_at hl 1 rfl) ?_
          exact fin_i hx hb hr hlocks hK hP hD hS d_Rea_fill_91 (by subst hk; rw [← hc]; simp only [rfL, rfE, c_13, c_14, if_true, if_false, Bool.false_eq_true]) (by subst hk; rw [← hc]; simp only [rfL, rfE, c_13, c_14, if_true, if_false, Bool.false_eq_true])
        · refine lv_aload_n hx hb d_Rea_fill_69 rfl (lv_at hl 3 rfl) ?_
          refine va_getN (D := D) (ci := 8) (v := .int lc9) (C := "PriceLines$Sheet") (T := F_She) (N := 4) hx hb hw in_She hown hK hP 2 rfl rfl 3 (by decide) (hN.use 16 rfl rfl) (fun _ h9 => h9) rfl d_Rea_fill_70 ?_
          refine lv_if_le (tgt := 80) hx hb d_Rea_fill_73 (by decide) (fun c_16 => ?_) (fun c_16 => ?_)
          · refine lv_iconst (v := 0) hx hb d_Rea_fill_80 (by decide) ?_
            refine lv_istore_n (lv' := [(3, .int 0), (2, .int ln), (0, .ref h0), (1, .ref g0)]) hx hb d_Rea_fill_81 rfl hl (by decide) rfl (fun ls hl => ?_)
            refine lv_iload_n hx hb d_Rea_fill_82 rfl (lv_at hl 0 rfl) ?_
            refine lv_if_eq (tgt := 90) hx hb d_Rea_fill_83 (by decide) (fun _ => ?_) (fun c_17 => absurd (by decide) c_17)
            refine lv_iload_n hx hb d_Rea_fill_90 rfl (lv_at hl 1 rfl) ?_
            exact fin_i hx hb hr hlocks hK hP hD hS d_Rea_fill_91 (by subst hk; rw [← hc]; simp only [rfL, rfE, c_13, eq_true c_14, c_16, if_true, if_false, Bool.false_eq_true]) (by subst hk; rw [← hc]; simp only [rfL, rfE, c_13, eq_true c_14, c_16, if_true, if_false, Bool.false_eq_true])
          · refine lv_iconst (v := 1) hx hb d_Rea_fill_76 (by decide) ?_
            refine lv_goto (tgt := 81) hx hb d_Rea_fill_77 (by decide) ?_
            refine lv_istore_n (lv' := [(3, .int 1), (2, .int ln), (0, .ref h0), (1, .ref g0)]) hx hb d_Rea_fill_81 rfl hl (by decide) rfl (fun ls hl => ?_)
            refine lv_iload_n hx hb d_Rea_fill_82 rfl (lv_at hl 0 rfl) ?_
            refine lv_if_eq (tgt := 90) hx hb d_Rea_fill_83 (by decide) (fun c_18 => absurd c_18 (by decide)) (fun _ => ?_)
            refine lv_iconst (v := (-1)) hx hb d_Rea_fill_86 (by decide) ?_
            refine lv_goto (tgt := 91) hx hb d_Rea_fill_87 (by decide) ?_
            exact fin_i hx hb hr hlocks hK hP hD hS d_Rea_fill_91 (by subst hk; rw [← hc]; simp only [rfL, rfE, c_13, eq_true c_14, c_16, if_true, if_false, Bool.false_eq_true]) (by subst hk; rw [← hc]; simp only [rfL, rfE, c_13, eq_true c_14, c_16, if_true, if_false, Bool.false_eq_true])
      · refine lv_iload_n hx hb d_Rea_fill_31 rfl (lv_at hl 0 rfl) ?_
        refine lv_aload_n hx hb d_Rea_fill_32 rfl (lv_at hl 2 rfl) ?_
        refine va_get (D := D) (ci := 6) (v := .ref h1) (C := "PriceLines$Reader") (T := F_Rea) (N := 4) hx hb hw in_Rea hown hK hP 0 rfl rfl 0 (by decide) (hw _ W1_33) (fun _ h9 => h9) rfl d_Rea_fill_33 ?_
        refine va_alen (v := 240) hx hb hK hP 1 1 rfl rfl rfl d_Rea_fill_36 ?_
        refine lv_icmp_ge (tgt := 62) hx hb d_Rea_fill_37 (by decide) (fun c_19 => ?_) (fun c_19 => ?_)
        · exact absurd (show nI 240 ≤ nI (240 - (f + 1)) from hk ▸ c_19) (nI_ge (by omega) (by omega))
        · refine lv_aload_n hx hb d_Rea_fill_40 rfl (lv_at hl 2 rfl) ?_
          refine lv_aload_n hx hb d_Rea_fill_41 rfl (lv_at hl 2 rfl) ?_
          refine va_get (D := D) (ci := 6) (v := .ref h1) (C := "PriceLines$Reader") (T := F_Rea) (N := 4) hx hb hw in_Rea hown hK hP 0 rfl rfl 0 (by decide) (hw _ W1_33) (fun _ h9 => h9) rfl d_Rea_fill_42 ?_
          refine lv_iload_n hx hb d_Rea_fill_45 rfl (lv_at hl 0 rfl) ?_
          have h_20 : vp_in k 240 := (by subst hk; exact vp_in_nI (by omega) (by decide))
          refine va_cald hx hb hK hP 1 1 rfl rfl h_20 d_Rea_fill_46 ?_
          refine lv_aload_n hx hb d_Rea_fill_47 rfl (lv_at hl 3 rfl) ?_
          refine kV_i (rest := []) (As := [.int (tx k.toNatClampNeg), .ref g0]) (w2 := [(h0, .inr (6, [.ref h1, .int 0, .int (raAcc (tx k.toNatClampNeg) ht9 dg9 sg9 en9 sc9 lc9).2.1, .int (raAcc (tx k.toNatClampNeg) ht9 dg9 sg9 en9 sc9 lc9).2.2.1])), (h1, .inl (ta 1, 240, .inl tx)), (g0, .inr (8, [.ref g1, .ref g2, .int (raAcc (tx k.toNatClampNeg) ht9 dg9 sg9 en9 sc9 lc9).2.2.2.2.2.1, .int (raAcc (tx k.toNatClampNeg) ht9 dg9 sg9 en9 sc9 lc9).2.2.2.2.2.2])), (g1, .inl (ta 0, 240, .inl (raAcc (tx k.toNatClampNeg) ht9 dg9 sg9 en9 sc9 lc9).2.2.2.1)), (g2, .inl (ta 0, 16, .inl (raAcc (tx k.toNatClampNeg) ht9 dg9 sg9 en9 sc9 lc9).2.2.2.2.1))]) (q0 := 0) (ci := 6) ⟨hx, hb, hml, hown, hw⟩ (c_Rea_accept l D ta h0 h1 tx 0 ht9 dg9 g0 g1 g2 sg9 en9 sc9 lc9 (tx k.toNatClampNeg)) W2_4 W2_6 WP_0 W1_2 W2_7 rfl rfl rfl hd_Rea_accept ⟨Nat.le_of_ble_eq_true rfl, Nat.le_of_ble_eq_true rfl⟩ hK hN hP hD hS hA (Spl.lit [0, 1, 2, 3, 4] [] [0, 1, 2, 3, 4] rfl (by decide) rfl (by decide) (by decide) rfl (by decide)) rfl rfl rfl rfl hl.1 rfl (Nat.le_of_ble_eq_true rfl) ⟨Nat.zero_le _, Nat.zero_le _⟩ d_Rea_fill_48 (fun H locs hP hD hS => ?_)
          refine lb_ne (tgt := 56) hx hb d_Rea_fill_51 (by decide) (fun c_21 => ?_) (fun c_21 => ?_)
          · refine lv_iinc (v := (k + 1)) (lv' := [(3, .int (k + 1)), (2, .int ln), (0, .ref h0), (1, .ref g0)]) hx hb d_Rea_fill_56 hl (k := 0) rfl rfl (by decide) rfl (fun ls hl => ?_)
            refine lv_goto (tgt := 26) hx hb d_Rea_fill_59 (by decide) ?_
            exact ih _ _ _ _ _ _ _ ls H locs (by subst hk; rw [nI_1]; congr 1; omega) (by omega) (by subst hk; rw [← hc]; simp only [rfL, c_13, c_19, c_21, if_true, if_false]) hP hD hS (lv_sub hl [0, 1, 2, 3] rfl)
          · refine lv_iload_n hx hb d_Rea_fill_54 rfl (lv_at hl 0 rfl) ?_
            exact fin_i hx hb hr hlocks hK hP hD hS d_Rea_fill_55 (by subst hk; rw [← hc]; simp only [rfL, rfE, c_13, c_19, c_21, if_true, if_false, Bool.false_eq_true]) (by subst hk; rw [← hc]; simp only [rfL, rfE, c_13, c_19, c_21, if_true, if_false, Bool.false_eq_true])
  refine lv_aload_n hx hb d_Rea_fill_0 rfl (lv_at hl 1 rfl) ?_
  refine kV_v (rest := []) (As := []) (w2 := [(h0, .inr (6, [.ref h1, .int ln, .int ht, .int dg])), (h1, .inl (ta 1, 240, .inl tx)), (g0, .inr (8, [.ref g1, .ref g2, .int 0, .int 0])), (g1, .inl (ta 0, 240, .inl sg)), (g2, .inl (ta 0, 16, .inl en))]) (q0 := 0) (ci := 8) ⟨hx, hb, hml, hown, hw⟩ (c_She_clear l D ta g0 g1 g2 sg en sc lc ) W2_0 W2_1 W2_2 W1_10 W2_3 rfl rfl rfl hd_She_clear ⟨Nat.le_of_ble_eq_true rfl, Nat.le_of_ble_eq_true rfl⟩ hK hN hP hD hS hA (Spl.lit [2, 3, 4] [0, 1] [0, 1, 2, 3, 4] rfl (by decide) rfl (by decide) (by decide) rfl (by decide)) rfl rfl rfl rfl hl.1 rfl (Nat.le_of_ble_eq_true rfl) ⟨Nat.zero_le _, Nat.zero_le _⟩ d_Rea_fill_1 (fun H locs hP hD hS => ?_)
  refine lv_aload_n hx hb d_Rea_fill_4 rfl (lv_at hl 0 rfl) ?_
  refine lv_iconst (v := 0) hx hb d_Rea_fill_5 (by decide) ?_
  refine va_put (D := D) (ci := 6) (v := .int 0) (ty := .int) (C := "PriceLines$Reader") (T := F_Rea) (N := 4) hx hb hw in_Rea t_Rea tk_Rea n_Rea hown hK hP hD hS 0 rfl rfl 2 (by decide) (hw _ W1_35) (fun _ h9 => h9) rfl (tk_Rea 2 (by decide)) rfl rfl (Nat.le_of_ble_eq_true rfl) d_Rea_fill_6 (fun H locs hP hD hS => ?_)
  have hP : va_P D vwCl [(h0, .inr (6, [.ref h1, .int ln, .int 0, .int dg])), (h1, .inl (ta 1, 240, .inl tx)), (g0, .inr (8, [.ref g1, .ref g2, .int 0, .int 0])), (g1, .inl (ta 0, 240, .inl sg)), (g2, .inl (ta 0, 16, .inl en))] H := hP
  have hD : va_D A [(h0, .inr (6, [.ref h1, .int ln, .int 0, .int dg])), (h1, .inl (ta 1, 240, .inl tx)), (g0, .inr (8, [.ref g1, .ref g2, .int 0, .int 0])), (g1, .inl (ta 0, 240, .inl sg)), (g2, .inl (ta 0, 16, .inl en))] := hD
  refine lv_aload_n hx hb d_Rea_fill_9 rfl (lv_at hl 0 rfl) ?_
  refine lv_iconst (v := 0) hx hb d_Rea_fill_10 (by decide) ?_
  refine va_put (D := D) (ci := 6) (v := .int 0) (ty := .int) (C := "PriceLines$Reader") (T := F_Rea) (N := 4) hx hb hw in_Rea t_Rea tk_Rea n_Rea hown hK hP hD hS 0 rfl rfl 3 (by decide) (hw _ W1_36) (fun _ h9 => h9) rfl (tk_Rea 3 (by decide)) rfl rfl (Nat.le_of_ble_eq_true rfl) d_Rea_fill_11 (fun H locs hP hD hS => ?_)
  have hP : va_P D vwCl [(h0, .inr (6, [.ref h1, .int ln, .int 0, .int 0])), (h1, .inl (ta 1, 240, .inl tx)), (g0, .inr (8, [.ref g1, .ref g2, .int 0, .int 0])), (g1, .inl (ta 0, 240, .inl sg)), (g2, .inl (ta 0, 16, .inl en))] H := hP
  have hD : va_D A [(h0, .inr (6, [.ref h1, .int ln, .int 0, .int 0])), (h1, .inl (ta 1, 240, .inl tx)), (g0, .inr (8, [.ref g1, .ref g2, .int 0, .int 0])), (g1, .inl (ta 0, 240, .inl sg)), (g2, .inl (ta 0, 16, .inl en))] := hD
  refine lv_aload_n hx hb d_Rea_fill_14 rfl (lv_at hl 0 rfl) ?_
  refine va_get (D := D) (ci := 6) (v := .int ln) (C := "PriceLines$Reader") (T := F_Rea) (N := 4) hx hb hw in_Rea hown hK hP 0 rfl rfl 1 (by decide) (hw _ W1_34) (fun _ h9 => h9) rfl d_Rea_fill_15 ?_
  refine lv_istore_n (lv' := [(2, .int ln), (0, .ref h0), (1, .ref g0)]) hx hb d_Rea_fill_18 rfl hl (by decide) rfl (fun ls hl => ?_)
  refine lv_aload_n hx hb d_Rea_fill_19 rfl (lv_at hl 1 rfl) ?_
  refine lv_iconst (v := 0) hx hb d_Rea_fill_20 (by decide) ?_
  refine va_put (D := D) (ci := 6) (v := .int 0) (ty := .int) (C := "PriceLines$Reader") (T := F_Rea) (N := 4) hx hb hw in_Rea t_Rea tk_Rea n_Rea hown hK hP hD hS 0 rfl rfl 1 (by decide) (hw _ W1_34) (fun _ h9 => h9) rfl (tk_Rea 1 (by decide)) rfl rfl (Nat.le_of_ble_eq_true rfl) d_Rea_fill_21 (fun H locs hP hD hS => ?_)
  have hP : va_P D vwCl [(h0, .inr (6, [.ref h1, .int 0, .int 0, .int 0])), (h1, .inl (ta 1, 240, .inl tx)), (g0, .inr (8, [.ref g1, .ref g2, .int 0, .int 0])), (g1, .inl (ta 0, 240, .inl sg)), (g2, .inl (ta 0, 16, .inl en))] H := hP
  have hD : va_D A [(h0, .inr (6, [.ref h1, .int 0, .int 0, .int 0])), (h1, .inl (ta 1, 240, .inl tx)), (g0, .inr (8, [.ref g1, .ref g2, .int 0, .int 0])), (g1, .inl (ta 0, 240, .inl sg)), (g2, .inl (ta 0, 16, .inl en))] := hD
  refine lv_iconst (v := 0) hx hb d_Rea_fill_24 (by decide) ?_
  refine lv_istore_n (lv' := [(3, .int 0), (2, .int ln), (0, .ref h0), (1, .ref g0)]) hx hb d_Rea_fill_25 rfl hl (by decide) rfl (fun ls hl => ?_)
  exact LOOP 240 0 0 sg en 0 0 0 ls H locs (by decide) (Nat.le_refl _) rfl hP hD hS (lv_sub hl [0, 1, 2, 3] rfl)
