/-! what holds at the law's entry -/
theorem st_tb {p : Program} {s : State} {m : MethodId} {meth : Method} {c : Code} {b L : Nat} {xs : Nat → Int32} (C0 : lw_At p s m meth c b L xs) : ∀ w ∈ TB, w.before #[Value.ref b] s = true := fun w hw => C0.2.2.2.2.2.1 w (List.mem_filter.mp hw).1
theorem st_arr {a : Array Value} {s : State} {ty : FieldType} (h0 : ∀ C, ty ≠ .object C) (h : (Cond.arrayClass ty).before a s = true) : ∃ cA : ClassId, ArrOfT s cA ty ∧ va_RA s cA ty := by
  obtain ⟨cA, kA, comp, hfind, hk, hkind⟩ := Cond.arrayClass_spec h
  refine ⟨cA, fun n z => ⟨fun k h => (by cases h), kA, hk, comp, hkind⟩, ?_⟩
  cases ty with
  | object C => exact absurd rfl (h0 C)
  | _ => exact hfind
theorem st_arq {a : Array Value} {s : State} {C : String} (h : (Cond.arrayOver (.object C)).before a s = true) : ∃ cA : ClassId, ArrOfT s cA (.object C) ∧ va_RA s cA (.object C) := by
  obtain ⟨comp, cA, kA, h1, h2, h3, h4, h5⟩ := Cond.arrayOver_spec h
  exact ⟨cA, fun n z => ⟨fun k h => (by cases h), kA, h3, comp, h4⟩, kA, comp, h3, h4, h1, h5⟩
theorem st_ty {a : Array Value} {s : State} (h0 : (Cond.arrayClass .int).before a s = true) (h1 : (Cond.arrayClass .char).before a s = true) (h2 : (Cond.arrayClass .long).before a s = true) (h3 : (Cond.arrayClass .boolean).before a s = true) (h4 : (Cond.arrayOver (.object "PriceLines$Fraction")).before a s = true) : ∃ ta : Nat → ClassId, ∀ (k : Nat) (q : ClassId × FieldType), (tyL ta)[k]? = some q → ArrOfT s q.1 q.2 ∧ va_RA s q.1 q.2 := by
  obtain ⟨c0, k0⟩ := st_arr (fun _ => by simp) h0
  obtain ⟨c1, k1⟩ := st_arr (fun _ => by simp) h1
  obtain ⟨c2, k2⟩ := st_arr (fun _ => by simp) h2
  obtain ⟨c3, k3⟩ := st_arr (fun _ => by simp) h3
  obtain ⟨c4, k4⟩ := st_arq h4
  refine ⟨fun k => if k = 0 then c0 else if k = 1 then c1 else if k = 2 then c2 else if k = 3 then c3 else c4, ?_⟩
  intro k q hq
  match k, hq with
  | 0, hq => cases hq; exact k0
  | 1, hq => cases hq; exact k1
  | 2, hq => cases hq; exact k2
  | 3, hq => cases hq; exact k3
  | 4, hq => cases hq; exact k4
  | k + 5, hq => simp at hq
theorem st_cl {ws : List Cond} {s : State} {a : Array Value} : ∀ (cl : List vw_C), (∀ q ∈ cl, ∃ (cC : ClassId) (iS : Nat → Nat), u_Kn s q.1 q.2.1 q.2.2 cC iS) → ∃ D : va_G, ∀ (k : Nat) (q : vw_C), cl[k]? = some q → u_Kn s q.1 q.2.1 q.2.2 (D.1 k) (D.2 k) := by
  intro cl
  induction cl with
  | nil => intro _; exact ⟨(fun _ => default, fun _ _ => 0), fun k q h => by simp at h⟩
  | cons x cl ih =>
    intro h
    obtain ⟨c0, i0, h0⟩ := h x List.mem_cons_self
    obtain ⟨D, hD⟩ := ih (fun q hq => h q (List.mem_cons_of_mem _ hq))
    refine ⟨(fun k => if k = 0 then c0 else D.1 (k - 1), fun k => if k = 0 then i0 else D.2 (k - 1)), fun k q hq => ?_⟩
    cases k with
    | zero => cases hq; exact h0
    | succ k => exact hD k q (by simpa using hq)
theorem st_noSt {s : State} : noSt (fun q : Nat => s.heap.size ≤ q) s := fun a cell hc _ hA => absurd (Array.getElem?_eq_some_iff.mp hc).1 (Nat.not_lt.mpr hA)
theorem st_not : ∀ q ∈ ncL, Cond.not (.castable q.1 q.2) ∈ flatC (Jvm.Cond.and given_1 narrow_1) := by decide +kernel
theorem st_ref1 : Cond.isRef (.static Bundle.tN "UNASSIGNED_STACK" Bundle.steD) ∈ flatC (Jvm.Cond.and given_1 narrow_1) := by decide +kernel
theorem st_ref2 : Cond.isRef (.static Bundle.tN "SUPPRESSED_SENTINEL" Bundle.listD) ∈ flatC (Jvm.Cond.and given_1 narrow_1) := by decide +kernel
theorem st_txt : ∀ q ∈ thTx, Cond.exactly (.string "PriceLines" q.1) "java/lang/String" ∈ flatC (Jvm.Cond.and given_1 narrow_1) := by decide +kernel
theorem st_str : ∀ q ∈ thTx, Cond.stringRef "PriceLines" q.1 q.2 ∈ lw_tbl := by decide +kernel
theorem st_thW : ∀ w ∈ thW, w ∈ lw_tbl := by decide +kernel
theorem st_nl : ∀ w ∈ NL, w ∈ lw_tbl := by decide +kernel
theorem st_ls1 : Cond.laysStatic Bundle.tN "UNASSIGNED_STACK" Bundle.steD ∈ lw_tbl := by decide +kernel
theorem st_ls2 : Cond.laysStatic Bundle.tN "SUPPRESSED_SENTINEL" Bundle.listD ∈ lw_tbl := by decide +kernel
theorem st_ar : Cond.arrayClass .int ∈ lw_tbl ∧ Cond.arrayClass .char ∈ lw_tbl ∧ Cond.arrayClass .long ∈ lw_tbl ∧ Cond.arrayClass .boolean ∈ lw_tbl ∧ Cond.arrayOver (.object "PriceLines$Fraction") ∈ lw_tbl := by decide +kernel
theorem pm_end {A P M O : va_W} : (((A ++ P) ++ M) ++ O).Perm ((A ++ (M ++ O)) ++ P) := by
  rw [List.append_assoc, List.append_assoc, List.append_assoc]
  exact List.Perm.append_left A List.perm_append_comm
theorem st_inst : ∀ q ∈ vwCl, Cond.instantiable q.1 q.2.2 ∈ lw_tbl := by decide +kernel
theorem st_in : ∀ q ∈ vwCl, ∀ w ∈ u_ws q.1 q.2.1 q.2.2, w ∈ TB := List.forall_mem_cons.mpr ⟨in_Cur, List.forall_mem_cons.mpr ⟨in_Fac, List.forall_mem_cons.mpr ⟨in_Fra, List.forall_mem_cons.mpr ⟨in_Inv, List.forall_mem_cons.mpr ⟨in_Min, List.forall_mem_cons.mpr ⟨in_Off, List.forall_mem_cons.mpr ⟨in_Rea, List.forall_mem_cons.mpr ⟨in_Rec, List.forall_mem_cons.mpr ⟨in_She, List.forall_mem_cons.mpr ⟨in_Pri, List.forall_mem_cons.mpr ⟨in_Mod, fun _ h => absurd h List.not_mem_nil⟩⟩⟩⟩⟩⟩⟩⟩⟩⟩⟩
theorem st_nlT : ∀ w ∈ NL, w.onTables = true := by decide +kernel
/-- all that is fixed along the law's walk -/
theorem st_fix {p : Program} {s : State} {m : MethodId} {meth : Method} {c : Code} {l : Launch} {b L : Nat} {xs : Nat → Int32} (hst : l.stackTraces = false) (C0 : lw_At p s m meth c b L xs) : ∃ (D : va_G) (ta : Nat → ClassId), LFix p l s m meth c b L xs D ta (fun q : Nat => s.heap.size ≤ q) ∧ va_AO "PriceLines$Fraction" s := by
  have hw := st_tb C0
  obtain ⟨hx, hb, hr, hml, hown, hts, hX, hbl, hlocks, hgv⟩ := C0
  have hfl := flat_of_before _ hgv
  obtain ⟨ta, hta⟩ := st_ty (hts _ st_ar.1) (hts _ st_ar.2.1) (hts _ st_ar.2.2.1) (hts _ st_ar.2.2.2.1) (hts _ st_ar.2.2.2.2)
  obtain ⟨D, hD⟩ := st_cl (ws := TB) (s := s) (a := #[]) vwCl (fun q hq => u_known (n := q.2.2) hw (st_in q hq) (hts _ (st_inst q hq)))
  refine ⟨D, ta, ⟨hx, hb, hr, hml, hown, hlocks, hw, ⟨hD, hta⟩, fun w hw' => va_tabs (st_nlT w hw') rfl (hts w (st_nl w hw')), ⟨fun w hw' => va_tabs (thW_ok w hw').1 rfl (hts w (st_thW w hw')), ⟨hts _ st_ls1, hfl _ st_ref1⟩, ⟨hts _ st_ls2, hfl _ st_ref2⟩, fun q hq => ?_⟩, fun q hq => va_Nc.of (hfl _ (st_not q hq)), st_noSt, fun _ h => h, hX, hbl, Nat.not_le.mpr hbl, hst⟩, va_AO.of (hts _ st_ar.2.2.2.2)⟩
  obtain ⟨a, c, cA, kA, q1, _⟩ := Cond.exactly_spec (hfl _ (st_txt q hq))
  exact ⟨a, vk_R.of (hts _ (st_str q hq)) q1⟩
set_option maxHeartbeats 4000000 in
set_option maxRecDepth 100000 in
/-- the law, from its entry -/
theorem whole_start {p : Program} {e : Env} {s : State} {m : MethodId} {below : List Frame} {meth : Method} {c : Code} (l : Launch) (hst : l.stackTraces = false) {b L : Nat} {xs : Nat → Int32} (hL : L ≤ 2048) (C0 : lw_At p s m meth c b L xs) : W p l e room_1 s m #[Value.ref b] below meth c s.heap [] 0 0 (lw_Z below #[Value.ref b] s) (entryFrame m ([Value.ref b] : List Value).toArray 8) := by
  obtain ⟨D, ta, F9, hO⟩ := st_fix hst C0
  have F0 := F9
  obtain ⟨hx, hb, hr, hml, hown, hlocks, hw, hK, hN, hTf, hNc, hZ, hA, hX, hbl, hbA, _⟩ := F9
  have hS : va_S (fun q : Nat => s.heap.size ≤ q) s.heap s.heap [] := va_S.rf
  have hP : va_P D vwCl [] s.heap := fun k q h => by simp at h
  have hD : va_D (fun q : Nat => s.heap.size ≤ q) [] := ⟨fun i j p q h => by simp at h, fun k q h => by simp at h⟩
  have hl := lv_entry ([.ref b]) (n := 8) (Nat.le_of_ble_eq_true rfl)
  rw [lg_entry_eq]
  generalize (lg_sl ([.ref b]) ++ List.replicate (8 - (lg_sl ([.ref b])).length) Slot.unset).toArray = ls at hl ⊢
  have hl : lv_has ls 8 [(0, .ref b)] := hl
  refine va_new (ci := 9) (fs := [.null, .null, .null, .null, .null, .null, .null, .null, .null]) (C := "PriceLines") (T := F_Pri) (N := 9) hx hb hw in_Pri t_Pri tk_Pri hown (hw _ W1_19) (hw _ W1_20) (hw _ W1_1) hK hP hD hS hA rfl (by decide) (Nat.le_of_ble_eq_true rfl) (Nat.le_of_ble_eq_true rfl) d_Law_law_0 (fun q1 H hP hD hS => ?_)
  refine lv_dup hx hb d_Law_law_3 rfl ?_
  refine kI_n (ws := []) ⟨hx, hb, hml, hown, hw⟩ (c_Pri_init l D ta q1) W1_21 W1_22 W1_1 W1_23 rfl rfl rfl rfl hd_Pri_init ⟨Nat.le_of_ble_eq_true rfl, Nat.le_of_ble_eq_true rfl⟩ hK hN hO hP hD hS hA hl.1 (Nat.le_of_ble_eq_true rfl) ⟨Nat.le_of_ble_eq_true rfl, Nat.le_of_ble_eq_true rfl⟩ d_Law_law_4 (fun u1 H locs hP hD hS => ?_)
  have hP : va_P D vwCl ([(q1, .inr (9, [.ref (u1.1 0), .ref (u1.1 2), .ref (u1.1 5), .ref (u1.1 10), .ref (u1.1 14), .ref (u1.1 17), .ref (u1.1 19), .ref (u1.1 22), .ref (u1.1 25)])), ((u1.1 0), .inr (6, [.ref (u1.1 1), .int 0, .int 0, .int 0])), ((u1.1 1), .inl (ta 1, 240, .inl (fun _ => 0))), ((u1.1 2), .inr (1, [.ref (u1.1 3), .ref (u1.1 4)])), ((u1.1 3), .inl (ta 0, 26, .inl (fun _ => 0))), ((u1.1 4), .inl (ta 0, 26, .inl (fun _ => 0))), ((u1.1 5), .inr (7, [.ref (u1.2 0), .ref (u1.1 6), .ref (u1.1 7), .ref (u1.1 8), .ref (u1.1 9), .int 0, .int 0])), ((u1.1 6), .inl (ta 4, 6, .inr (.inr (.inr (.inr (stF u1.2)))))), ((u1.1 7), .inl (ta 4, 16, .inr (.inr (.inr (.inr (adF u1.2)))))), ((u1.1 8), .inl (ta 0, 16, .inl (fun _ => 0))), ((u1.1 9), .inl (ta 0, 16, .inl (fun _ => 0))), ((u1.1 10), .inr (0, [.ref (u1.1 11), .ref (u1.1 12), .ref (u1.1 13), .int 0])), ((u1.1 11), .inl (ta 0, 8, .inl (fun _ => 0))), ((u1.1 12), .inl (ta 0, 8, .inl (fun _ => 0))), ((u1.1 13), .inl (ta 0, 8, .inl (fun _ => 0))), ((u1.1 14), .inr (5, [.ref (u1.1 15), .ref (u1.1 16), .int 0])), ((u1.1 15), .inl (ta 2, 8, .inr (.inl (fun _ => 0)))), ((u1.1 16), .inl (ta 0, 8, .inl (fun _ => 0))), ((u1.1 17), .inr (3, [.ref (u1.1 18), .int 0])), ((u1.1 18), .inl (ta 2, 8, .inr (.inl (fun _ => 0)))), ((u1.1 19), .inr (4, [.ref (u1.1 20), .ref (u1.1 21)])), ((u1.1 20), .inl (ta 2, 8, .inr (.inl (fun _ => 0)))), ((u1.1 21), .inl (ta 2, 8, .inr (.inl (fun _ => 0)))), ((u1.1 22), .inr (8, [.ref (u1.1 23), .ref (u1.1 24), .int 0, .int 0])), ((u1.1 23), .inl (ta 0, 240, .inl (fun _ => 0))), ((u1.1 24), .inl (ta 0, 16, .inl (fun _ => 0))), ((u1.1 25), .inr (8, [.ref (u1.1 26), .ref (u1.1 27), .int 0, .int 0])), ((u1.1 26), .inl (ta 0, 240, .inl (fun _ => 0))), ((u1.1 27), .inl (ta 0, 16, .inl (fun _ => 0)))] ++ fpool u1.2 (fun _ => 0) (fun _ => 1) 23) H := hP
  have hD : va_D (fun q : Nat => s.heap.size ≤ q) ([(q1, .inr (9, [.ref (u1.1 0), .ref (u1.1 2), .ref (u1.1 5), .ref (u1.1 10), .ref (u1.1 14), .ref (u1.1 17), .ref (u1.1 19), .ref (u1.1 22), .ref (u1.1 25)])), ((u1.1 0), .inr (6, [.ref (u1.1 1), .int 0, .int 0, .int 0])), ((u1.1 1), .inl (ta 1, 240, .inl (fun _ => 0))), ((u1.1 2), .inr (1, [.ref (u1.1 3), .ref (u1.1 4)])), ((u1.1 3), .inl (ta 0, 26, .inl (fun _ => 0))), ((u1.1 4), .inl (ta 0, 26, .inl (fun _ => 0))), ((u1.1 5), .inr (7, [.ref (u1.2 0), .ref (u1.1 6), .ref (u1.1 7), .ref (u1.1 8), .ref (u1.1 9), .int 0, .int 0])), ((u1.1 6), .inl (ta 4, 6, .inr (.inr (.inr (.inr (stF u1.2)))))), ((u1.1 7), .inl (ta 4, 16, .inr (.inr (.inr (.inr (adF u1.2)))))), ((u1.1 8), .inl (ta 0, 16, .inl (fun _ => 0))), ((u1.1 9), .inl (ta 0, 16, .inl (fun _ => 0))), ((u1.1 10), .inr (0, [.ref (u1.1 11), .ref (u1.1 12), .ref (u1.1 13), .int 0])), ((u1.1 11), .inl (ta 0, 8, .inl (fun _ => 0))), ((u1.1 12), .inl (ta 0, 8, .inl (fun _ => 0))), ((u1.1 13), .inl (ta 0, 8, .inl (fun _ => 0))), ((u1.1 14), .inr (5, [.ref (u1.1 15), .ref (u1.1 16), .int 0])), ((u1.1 15), .inl (ta 2, 8, .inr (.inl (fun _ => 0)))), ((u1.1 16), .inl (ta 0, 8, .inl (fun _ => 0))), ((u1.1 17), .inr (3, [.ref (u1.1 18), .int 0])), ((u1.1 18), .inl (ta 2, 8, .inr (.inl (fun _ => 0)))), ((u1.1 19), .inr (4, [.ref (u1.1 20), .ref (u1.1 21)])), ((u1.1 20), .inl (ta 2, 8, .inr (.inl (fun _ => 0)))), ((u1.1 21), .inl (ta 2, 8, .inr (.inl (fun _ => 0)))), ((u1.1 22), .inr (8, [.ref (u1.1 23), .ref (u1.1 24), .int 0, .int 0])), ((u1.1 23), .inl (ta 0, 240, .inl (fun _ => 0))), ((u1.1 24), .inl (ta 0, 16, .inl (fun _ => 0))), ((u1.1 25), .inr (8, [.ref (u1.1 26), .ref (u1.1 27), .int 0, .int 0])), ((u1.1 26), .inl (ta 0, 240, .inl (fun _ => 0))), ((u1.1 27), .inl (ta 0, 16, .inl (fun _ => 0)))] ++ fpool u1.2 (fun _ => 0) (fun _ => 1) 23) := hD
  refine lv_astore_n (lv' := [(1, .ref q1), (0, .ref b)]) hx hb d_Law_law_7 rfl hl (by decide) rfl (fun ls hl => ?_)
  refine va_new (ci := 10) (fs := [.int 0, .null, .int 0, .null, .null, .int 0, .null, .null, .null, .null, .null, .null, .null, .int 0, .long 0, .long 0, .int 0, .null, .null, .null, .null, .long 0, .long 0, .int 0, .null, .null, .null, .int 0, .null, .null, .int 0, .null, .null, .null, .int 0]) (C := "PriceLinesModel") (T := F_Mod) (N := 35) hx hb hw in_Mod t_Mod tk_Mod hown (hw _ W3_238) (hw _ W3_239) (hw _ W1_11) hK hP hD hS hA rfl (by decide) (Nat.le_of_ble_eq_true rfl) (Nat.le_of_ble_eq_true rfl) d_Law_law_8 (fun q2 H hP hD hS => ?_)
  refine lv_dup hx hb d_Law_law_11 rfl ?_
  refine kI_n (ws := ([(q1, .inr (9, [.ref (u1.1 0), .ref (u1.1 2), .ref (u1.1 5), .ref (u1.1 10), .ref (u1.1 14), .ref (u1.1 17), .ref (u1.1 19), .ref (u1.1 22), .ref (u1.1 25)])), ((u1.1 0), .inr (6, [.ref (u1.1 1), .int 0, .int 0, .int 0])), ((u1.1 1), .inl (ta 1, 240, .inl (fun _ => 0))), ((u1.1 2), .inr (1, [.ref (u1.1 3), .ref (u1.1 4)])), ((u1.1 3), .inl (ta 0, 26, .inl (fun _ => 0))), ((u1.1 4), .inl (ta 0, 26, .inl (fun _ => 0))), ((u1.1 5), .inr (7, [.ref (u1.2 0), .ref (u1.1 6), .ref (u1.1 7), .ref (u1.1 8), .ref (u1.1 9), .int 0, .int 0])), ((u1.1 6), .inl (ta 4, 6, .inr (.inr (.inr (.inr (stF u1.2)))))), ((u1.1 7), .inl (ta 4, 16, .inr (.inr (.inr (.inr (adF u1.2)))))), ((u1.1 8), .inl (ta 0, 16, .inl (fun _ => 0))), ((u1.1 9), .inl (ta 0, 16, .inl (fun _ => 0))), ((u1.1 10), .inr (0, [.ref (u1.1 11), .ref (u1.1 12), .ref (u1.1 13), .int 0])), ((u1.1 11), .inl (ta 0, 8, .inl (fun _ => 0))), ((u1.1 12), .inl (ta 0, 8, .inl (fun _ => 0))), ((u1.1 13), .inl (ta 0, 8, .inl (fun _ => 0))), ((u1.1 14), .inr (5, [.ref (u1.1 15), .ref (u1.1 16), .int 0])), ((u1.1 15), .inl (ta 2, 8, .inr (.inl (fun _ => 0)))), ((u1.1 16), .inl (ta 0, 8, .inl (fun _ => 0))), ((u1.1 17), .inr (3, [.ref (u1.1 18), .int 0])), ((u1.1 18), .inl (ta 2, 8, .inr (.inl (fun _ => 0)))), ((u1.1 19), .inr (4, [.ref (u1.1 20), .ref (u1.1 21)])), ((u1.1 20), .inl (ta 2, 8, .inr (.inl (fun _ => 0)))), ((u1.1 21), .inl (ta 2, 8, .inr (.inl (fun _ => 0)))), ((u1.1 22), .inr (8, [.ref (u1.1 23), .ref (u1.1 24), .int 0, .int 0])), ((u1.1 23), .inl (ta 0, 240, .inl (fun _ => 0))), ((u1.1 24), .inl (ta 0, 16, .inl (fun _ => 0))), ((u1.1 25), .inr (8, [.ref (u1.1 26), .ref (u1.1 27), .int 0, .int 0])), ((u1.1 26), .inl (ta 0, 240, .inl (fun _ => 0))), ((u1.1 27), .inl (ta 0, 16, .inl (fun _ => 0)))] ++ fpool u1.2 (fun _ => 0) (fun _ => 1) 23)) ⟨hx, hb, hml, hown, hw⟩ (c_Mod_init l D ta q2) W4_0 W4_1 W1_11 W4_2 rfl rfl rfl rfl hd_Mod_init ⟨Nat.le_of_ble_eq_true rfl, Nat.le_of_ble_eq_true rfl⟩ hK hN hO hP hD hS hA hl.1 (Nat.le_of_ble_eq_true rfl) ⟨Nat.le_of_ble_eq_true rfl, Nat.le_of_ble_eq_true rfl⟩ d_Law_law_12 (fun u2 H locs hP hD hS => ?_)
  refine lv_astore_n (lv' := [(2, .ref q2), (1, .ref q1), (0, .ref b)]) hx hb d_Law_law_15 rfl hl (by decide) rfl (fun ls hl => ?_)
  refine lv_iconst (v := 1) hx hb d_Law_law_16 (by decide) ?_
  refine nwa (a0 := (1, .inr (.inl (fun _ => 0)))) hx hb (C0.2.2.2.2.2.1 _ st_ar.2.2.1) rfl hK hP hD hS hA 2 rfl (fun cA => by rfl) (by decide) (show (1 : Int32).toNatClampNeg = 1 from rfl) (by decide) (Nat.le_of_ble_eq_true rfl) (Nat.le_of_ble_eq_true rfl) d_Law_law_17 (fun q3 H hP hD hS => ?_)
  have hP := va_P.perm pm_end hP
  have hD := va_D.perm pm_end hD
  refine lv_astore_n (lv' := [(3, .ref q3), (2, .ref q2), (1, .ref q1), (0, .ref b)]) hx hb d_Law_law_19 rfl hl (by decide) rfl (fun ls hl => ?_)
  refine lv_iconst (v := 0) hx hb d_Law_law_20 (by decide) ?_
  refine lv_istore (lv' := [(4, .int 0), (3, .ref q3), (2, .ref q2), (1, .ref q1), (0, .ref b)]) hx hb d_Law_law_21 hl (by decide) rfl (fun ls hl => ?_)
  refine W.widen (k := 76 + 0) (n := 2023 + 6 * 0) (Nat.le_of_ble_eq_true rfl) (Nat.le_of_ble_eq_true rfl) ?_
  have k := lw_loop (below := below) (e := e) hL F0 512 0 rfl
  rw [show nI (4 * 0) = 0 from nI_0] at k
  exact LGo_ex k q1 (u1.1 0) (u1.1 2) (u1.1 5) (u1.1 10) (u1.1 14) (u1.1 17) (u1.1 19) (u1.1 22) (u1.1 25) (u1.1 1) (u1.1 3) (u1.1 4) (u1.1 6) (u1.1 7) (u1.1 8) (u1.1 9) (u1.1 11) (u1.1 12) (u1.1 13) (u1.1 15) (u1.1 16) (u1.1 18) (u1.1 20) (u1.1 21) (u1.1 23) (u1.1 24) (u1.1 26) (u1.1 27) q3 q2 (u2.1 0) (u2.1 1) (u2.1 2) (u2.1 3) (u2.1 4) (u2.1 5) (u2.1 6) (u2.1 7) (u2.1 8) (u2.1 9) (u2.1 10) (u2.1 11) (u2.1 12) (u2.1 13) (u2.1 14) (u2.1 15) (u2.1 16) (u2.1 17) (u2.1 18) (u2.1 19) (u2.1 20) (u2.1 21) u1.2 (fun _ => 0) 0 0 0 (fun _ => 0) (fun _ => 0) (fun _ => 0) (fun _ => 0) 0 0 (fun _ => 0) (fun _ => 1) (fun _ => 0) (fun _ => 0) (fun _ => 0) 0 (fun _ => 0) (fun _ => 0) 0 (fun _ => 0) 0 (fun _ => 0) (fun _ => 0) (fun _ => 0) (fun _ => 0) 0 0 (fun _ => 0) (fun _ => 0) 0 0 (fun _ => 0) 0 0 0 0 0 0 0 0 0 0 0 0 0 (fun _ => 0) (fun _ => 0) (fun _ => 0) (fun _ => 0) (fun _ => 0) (fun _ => 0) (fun _ => 0) (fun _ => 0) (fun _ => 0) (fun _ => 0) (fun _ => 0) (fun _ => 0) (fun _ => 0) (fun _ => 0) (fun _ => 0) (fun _ => 0) (fun _ => 0) (fun _ => 0) (fun _ => 0) (fun _ => 0) (fun _ => 0) (fun _ => 0) H locs ls ⟨TxR_0 _ _, fun j _ => Or.inl ⟨rfl, rfl⟩, ⟨0, fun _ => 0, nI_0.symm, nI_0.symm, by omega, rfl, rfl, fun j h => by omega⟩, ⟨0, by omega, nI_0.symm, nI_0.symm, fun j h => by omega⟩, ⟨0, by omega, nI_0.symm, nI_0.symm, fun j h => by omega⟩, ⟨0, by omega, nI_0.symm, nI_0.symm, fun j h => by omega⟩, fun j _ => ⟨rfl, rfl, 0, Nat.le_refl 0, rfl⟩⟩ hP hD hS (lv_sub hl [4, 3, 2, 1, 0] rfl)
