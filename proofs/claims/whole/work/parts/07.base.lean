/-! worlds of contracts; calls with the frame; ends -/
def pW (D : va_G) (ta : Nat → ClassId) (w0 : va_W) (sz : Nat) : State → Prop := fun U => U.heap.size = sz ∧ va_P D vwCl w0 U.heap ∧ va_K D vwCl (tyL ta) U ∧ va_D (fun _ => True) w0 ∧ NwS U
def qA (D : va_G) (ta : Nat → ClassId) (A : Nat → Prop) (w1 : va_W) (t : State) : Prop := va_P D vwCl w1 t.heap ∧ va_K D vwCl (tyL ta) t ∧ va_D A w1
def eI (D : va_G) (ta : Nat → ClassId) (A : Nat → Prop) (r : Int32) (w1 : va_W) : Array Value → State → Outcome → State → Prop := va_Qi (fun (x : Int32) (_ : Unit) => x = r) (fun _ => qA D ta A w1) A
def eL (D : va_G) (ta : Nat → ClassId) (A : Nat → Prop) (r : Int64) (w1 : va_W) : Array Value → State → Outcome → State → Prop := va_Ql (fun (x : Int64) (_ : Unit) => x = r) (fun _ => qA D ta A w1) A
def eV (D : va_G) (ta : Nat → ClassId) (A : Nat → Prop) (w1 : va_W) : Array Value → State → Outcome → State → Prop := va_Qv (fun (_ : Unit) => True) (fun _ => qA D ta A w1) A
def eR (D : va_G) (ta : Nat → ClassId) (A : Nat → Prop) (r : Nat) (w1 : va_W) : Array Value → State → Outcome → State → Prop := va_Qr (fun (_ : Unit) => True) (fun _ q t => q = r ∧ qA D ta A w1 t) A
theorem pW_blind {av : List Value} {D : va_G} {ta : Nat → ClassId} {w0 : va_W} {sz : Nat} : FrameBlind (va_Pc av (pW D ta w0 sz)) := fun a U g mk q => by
  obtain ⟨q0, q1, qP, qK, qD, qN⟩ := q
  exact ⟨q0, q1, qP, va_K.moved (u := U) (U := U.calling g mk a) (Vm.Alike.refl U.vm) qK, qD, NwS.same (u := U) (U := U.calling g mk a) rfl qN⟩
/-- a callee's cells wc out of ws; behind it they are w1, and the caller's are w2 -/
def Spl (ws wc w1 w2 : va_W) : Prop := ∀ (D : va_G) (A : Nat → Prop) (H : Heap), va_P D vwCl ws H → va_D A ws → va_P D vwCl wc H ∧ va_D A wc ∧ ∀ (H1 : Heap), (∀ q : Nat, q < H.size → ¬ va_A wc H.size q → H1[q]? = H[q]?) → (∀ q, va_A wc H.size q → A q) → va_P D vwCl w1 H1 → va_D (va_A wc H.size) w1 → va_P D vwCl w2 H1 ∧ va_D A w2
theorem Spl.id {ws w1 : va_W} : Spl ws ws w1 w1 := fun D A H hP hD => ⟨hP, hD, fun H1 hk hF hP1 hD1 => ⟨hP1, hD1.weaken (fun _ q _ h => hF q.1 h)⟩⟩
theorem Spl.none {ws : va_W} : Spl ws [] [] ws := fun D A H hP hD => ⟨fun k q h => by simp at h, ⟨fun i j p q h => by simp at h, fun k q h => by simp at h⟩, fun H1 hk hF hP1 hD1 => ⟨hP.kept (fun k q h => hk q.1 (hP k q h).lt (fun hh => by
  rcases hh with ⟨k2, e2, h2⟩ | h2
  · simp at h2
  · exact absurd (hP k q h).lt (by omega))), hD⟩⟩
theorem Spl.lit {ws wc w1 w2 : va_W} (isC isR isW : List Nat) (hC : isC.map (fun i => ws[i]?) = wc.map some) (hnC : va_nd isC = true) (hR : isR.map (fun i => ws[i]?) = (isR.filterMap (fun i => ws[i]?)).map some) (hn : va_nd isR = true) (hdis : ∀ i ∈ isR, i ∉ isC) (hW : isW.map (fun i => (isR.filterMap (fun i => ws[i]?) ++ w1)[i]?) = w2.map some) (hnW : va_nd isW = true) : Spl ws wc w1 w2 := by
  intro D A H hP hD
  have hfm : ∀ (is : List Nat) (u v : va_W), is.map (fun i => u[i]?) = v.map some → is.filterMap (fun i => u[i]?) = v := by
    intro is u v h
    have h2 := congrArg (fun z => z.filterMap (fun o => o)) h
    simpa [List.filterMap_map, Function.comp_def] using h2
  refine ⟨hP.sub isC (hfm _ _ _ hC), hD.sub isC hnC hC, fun H1 hk hF hP1 hD1 => ?_⟩
  obtain ⟨hP2, hD2⟩ := va_join hP hD isC isR hC hR hn hdis hk hF hP1 hD1
  exact ⟨hP2.sub isW (hfm _ _ _ hW), hD2.sub isW hnW hW⟩
/-- the caller's world ends in the pool; the callee has none of it -/
theorem Spl.q {X wc w1 X2 pl : va_W} (isC isR isW : List Nat) (hC : isC.map (fun i => X[i]?) = wc.map some) (hnC : va_nd isC = true) (hR : isR.map (fun i => X[i]?) = (isR.filterMap (fun i => X[i]?)).map some) (hn : va_nd isR = true) (hdis : ∀ i ∈ isR, i ∉ isC) (hW : isW.map (fun i => (isR.filterMap (fun i => X[i]?) ++ w1)[i]?) = X2.map some) (hnW : va_nd isW = true) : Spl (X ++ pl) wc w1 (X2 ++ pl) := by
  intro D A H hP hD
  have hpp := hP.part isC hC
  have hdd := hD.part isC hnC hC
  have e0 : ∀ (k : Nat) (q : Nat × va_E), wc[k]? = some q → (wc ++ pl)[k]? = some q := fun k q h => by rw [List.getElem?_append_left (List.getElem?_eq_some_iff.mp h).1]; exact h
  refine ⟨fun k q h => hpp k q (e0 k q h), ⟨fun i j x y hx hy => hdd.1 i j x y (e0 i x hx) (e0 j y hy), fun k q h => hdd.2 k q (e0 k q h)⟩, fun H1 hk hF hP1 hD1 => ?_⟩
  obtain ⟨hP2, hD2⟩ := va_joinQ hP hD isC isR hC hR hn hdis hk hF hP1 hD1
  exact ⟨hP2.part isW hW, hD2.part isW hnW hW⟩
/-- the callee has the pool -/
theorem Spl.p {X cx rx X2 pl pl1 : va_W} (isC isR isW : List Nat) (hC : isC.map (fun i => X[i]?) = cx.map some) (hnC : va_nd isC = true) (hR : isR.map (fun i => X[i]?) = (isR.filterMap (fun i => X[i]?)).map some) (hn : va_nd isR = true) (hdis : ∀ i ∈ isR, i ∉ isC) (hW : isW.map (fun i => (isR.filterMap (fun i => X[i]?) ++ rx)[i]?) = X2.map some) (hnW : va_nd isW = true) : Spl (X ++ pl) (cx ++ pl) (rx ++ pl1) (X2 ++ pl1) := by
  intro D A H hP hD
  refine ⟨hP.part isC hC, hD.part isC hnC hC, fun H1 hk hF hP1 hD1 => ?_⟩
  obtain ⟨hP2, hD2⟩ := va_joinP hP hD isC isR hC hR hn hdis hk hF hP1 hD1
  exact ⟨hP2.part isW hW, hD2.part isW hnW hW⟩
/-- the callee has the pool alone -/
theorem Spl.p0 {X pl pl1 : va_W} : Spl (X ++ pl) pl pl1 (X ++ pl1) := by
  intro D A H hP hD
  have e0 : ∀ (k : Nat) (q : Nat × va_E), pl[k]? = some q → (X ++ pl)[X.length + k]? = some q := fun k q h => by rw [List.getElem?_append_right (by omega), Nat.add_sub_cancel_left]; exact h
  have e1 : ∀ (k : Nat) (q : Nat × va_E), X[k]? = some q → (X ++ pl)[k]? = some q := fun k q h => by rw [List.getElem?_append_left (List.getElem?_eq_some_iff.mp h).1]; exact h
  refine ⟨fun k q h => hP _ q (e0 k q h), ⟨fun i j x y hx hy h => by have := hD.1 _ _ x y (e0 i x hx) (e0 j y hy) h; omega, fun k q h => hD.2 _ q (e0 k q h)⟩, fun H1 hk hF hP1 hD1 => ?_⟩
  have ap : ∀ (k : Nat) (q : Nat × va_E), X[k]? = some q → q.1 < H.size ∧ ¬ va_A pl H.size q.1 := by
    intro k q hq
    have h2 := e1 k q hq
    have hl := (hP _ q h2).lt
    refine ⟨hl, fun h => ?_⟩
    rcases h with ⟨k2, e, h⟩ | h
    · have hij := hD.1 _ _ q (q.1, e) h2 (e0 k2 _ h) rfl
      have := (List.getElem?_eq_some_iff.mp hq).1
      omega
    · omega
  refine ⟨va_P.app (fun k q hq => ?_) hP1, va_D.app ⟨fun i j x y hx hy => hD.1 i j x y (e1 i x hx) (e1 j y hy), fun k q h => hD.2 k q (e1 k q h)⟩ (hD1.weaken (fun k q _ h => hF q.1 h)) (fun i j x y hx hy hxy => ?_)⟩
  · obtain ⟨g1, g2⟩ := ap k q hq
    exact (hP _ q (e1 k q hq)).kept (hk q.1 g1 g2)
  · exact (ap i x hx).2 (by rw [hxy]; exact hD1.2 j y hy)
theorem aN {A : Nat → Prop} {wc : va_W} {H0 H : Heap} {locs : List Loc} (hD : va_D A wc) (hS : va_S A H0 H locs) (hA : ∀ q, H0.size ≤ q → A q) : ∀ q, va_A wc H.size q → A q := by
  intro q h
  rcases h with ⟨k, e, h⟩ | h
  · exact hD.2 k (q, e) h
  · exact hA q (Nat.le_trans hS.1 h)
theorem gdV {own C : String} {idx : Nat} {y : MethodName} {k : Cond} (h1 : Cond.methodLink own idx y ∈ TB) (h2 : Cond.instanceMethod y ∈ TB) (h3 : Cond.selects C y y ∈ TB) (h4 : Cond.initialized C ∈ TB) (h5 : k ∈ TB) : GoodIn TB (wsV own idx C y (k :: TB)) := fun w h => gdTB w (by
  rcases List.mem_append.mp h with h | h
  · simp only [List.mem_cons, List.not_mem_nil, or_false] at h
    rcases h with rfl | rfl | rfl | rfl <;> assumption
  · rcases List.mem_cons.mp h with rfl | h <;> assumption)
theorem gdS {own : String} {idx : Nat} {y : MethodName} {k : Cond} (h1 : Cond.methodLink own idx y ∈ TB) (h2 : Cond.static y ∈ TB) (h4 : Cond.initialized y.cls ∈ TB) (h5 : k ∈ TB) : GoodIn TB (va_wsS own idx y (k :: TB)) := fun w h => gdTB w (by
  rcases List.mem_append.mp h with h | h
  · simp only [List.mem_cons, List.not_mem_nil, or_false] at h
    rcases h with rfl | rfl | rfl <;> assumption
  · rcases List.mem_cons.mp h with rfl | h <;> assumption)
theorem gdC {k : Cond} (h5 : k ∈ TB) : GoodIn TB (k :: TB) := fun w h => gdTB w (by rcases List.mem_cons.mp h with rfl | h <;> assumption)
def b2i (b : Bool) : Int32 := if b then 1 else 0
theorem nar_b2i (b : Bool) : narrow .boolean (.int (b2i b)) = .int (b2i b) := by cases b <;> rfl
theorem b2i_0 {b : Bool} : b2i b = 0 ↔ b = false := by cases b <;> decide
theorem b2i_n0 {b : Bool} : ¬ b2i b = 0 ↔ b = true := by cases b <;> decide
theorem b2i_1 : b2i true = 1 := rfl
def isIx (k n : Int32) : Bool := !decide (k < 0) && !decide (n ≤ k)
theorem ix_in {i n : Int32} {N : Nat} (h : isIx i n = true) (hn : n.toInt = N) : vp_in i N := by
  simp only [isIx, Bool.and_eq_true, Bool.not_eq_true', decide_eq_false_iff_not] at h
  rw [vp_in_iff]
  obtain ⟨h1, h2⟩ := h
  rw [Int32.lt_iff_toInt_lt] at h1
  rw [Int32.le_iff_toInt_le] at h2
  have e0 : (0 : Int32).toInt = 0 := by decide
  omega
def jabs (x : Int64) : Int64 := if 0 < x then x else -x
def fpool (fa : Nat → Nat) (fn fd : Nat → Int64) (n : Nat) : va_W := (List.range n).map (fun i => (fa i, .inr (2, [.long (fn i), .long (fd i)])))
theorem fp_get {fa : Nat → Nat} {fn fd : Nat → Int64} {n i : Nat} (h : i < n) : (fpool fa fn fd n)[i]? = some (fa i, .inr (2, [.long (fn i), .long (fd i)])) := by simp [fpool, h]
theorem fp_getX {X : va_W} {fa : Nat → Nat} {fn fd : Nat → Int64} {n i : Nat} (h : i < n) : (X ++ fpool fa fn fd n)[X.length + i]? = some (fa i, .inr (2, [.long (fn i), .long (fd i)])) := by
  rw [List.getElem?_append_right (by omega), Nat.add_sub_cancel_left]; exact fp_get h
theorem fp_set0 {fa : Nat → Nat} {fn fd : Nat → Int64} {n i : Nat} {x : Int64} (h : i < n) : (fpool fa fn fd n).set i (fa i, .inr (2, [.long x, .long (fd i)])) = fpool fa (vp_updL fn i x) fd n := by
  apply List.ext_getElem?
  intro j
  by_cases hj : j = i
  · subst hj
    rw [List.getElem?_set_self (by simp [fpool, h]), fp_get h]
    simp [vp_updL]
  · rw [List.getElem?_set_ne (Ne.symm hj)]
    by_cases hjn : j < n
    · rw [fp_get hjn, fp_get hjn]; simp [vp_updL, hj]
    · simp [fpool, hjn]
theorem fp_set1 {fa : Nat → Nat} {fn fd : Nat → Int64} {n i : Nat} {x : Int64} (h : i < n) : (fpool fa fn fd n).set i (fa i, .inr (2, [.long (fn i), .long x])) = fpool fa fn (vp_updL fd i x) n := by
  apply List.ext_getElem?
  intro j
  by_cases hj : j = i
  · subst hj
    rw [List.getElem?_set_self (by simp [fpool, h]), fp_get h]
    simp [vp_updL]
  · rw [List.getElem?_set_ne (Ne.symm hj)]
    by_cases hjn : j < n
    · rw [fp_get hjn, fp_get hjn]; simp [vp_updL, hj]
    · simp [fpool, hjn]
section KALL
variable {p : Program} {l : Launch} {e : Env} {R : Room} {s : State} {m : MethodId} {args : Array Value} {below : List Frame} {meth : Method} {c : Code} {H : Heap} {locs : List Loc} {cells slots : Nat} {Q : State → Prop} {cc bytes : ByteArray} {pc nL maxL n index : Nat} {ls : Array Slot} {rest st0 As : List Value} {D : va_G} {ta : Nat → ClassId} {A : Nat → Prop} {ws wc w1 w2 : va_W} {y : MethodName} {wsy Ts : List Cond} {rm : Room} {own C host : String} {ret : Option FieldType} {b : Addr}
theorem pW_S {av : List Value} (hK : va_K D vwCl (tyL ta) s) (hN : NwS s) (hP : va_P D vwCl wc H) (hD : va_D A wc) : PreS s H (va_Pc av (pW D ta wc H.size)) av := ⟨pW_blind, fun U hU hW => ⟨rfl, by rw [hU], by rw [hU]; exact hP, va_K.moved hW.alike hK, hD.weaken (fun _ _ _ _ => trivial), hN.warm hW⟩⟩
theorem pW_V {q0 ci : Nat} {fs : List Value} {q : vw_C} (hK : va_K D vwCl (tyL ta) s) (hN : NwS s) (hP : va_P D vwCl wc H) (hD : va_D A wc) (he : wc[q0]? = some (b, .inr (ci, fs))) (hc : vwCl[ci]? = some q) : PreV s H q.1 b (va_Pc (.ref b :: As) (pW D ta wc H.size)) As := ⟨pW_blind, va_recv hK hP hc he, fun U hU hW => ⟨rfl, by rw [hU], by rw [hU]; exact hP, va_K.moved hW.alike hK, hD.weaken (fun _ _ _ _ => trivial), hN.warm hW⟩⟩
theorem aft_i {r : Int32} {a9 : Array Value} (hr : va_Run p l e R s m args below meth c H locs cells slots 0 0 (F0 m pc ls st0) rest (eI D ta (va_A wc H.size) r w1 a9) (va_A wc H.size)) (hP : va_P D vwCl ws H) (hD : va_D A ws) (hS : va_S A s.heap H locs) (hA : ∀ q, s.heap.size ≤ q → A q) (sp : Spl ws wc w1 w2) (kk : ∀ (H1 : Heap) (locs1 : List Loc), va_P D vwCl w2 H1 → va_D A w2 → va_S A s.heap H1 locs1 → W p l e R s m args below meth c H1 locs1 cells slots Q (F0 m (pc + 3) ls (.int r :: rest))) : W p l e R s m args below meth c H locs cells slots Q (F0 m pc ls st0) := by
  obtain ⟨hPc, hDc, hj⟩ := sp D A H hP hD
  have hFc := aN hDc hS hA
  refine va_calli hr hS (fun q _ h => hFc q h) hFc (fun x u t H1 locs1 ht hvm hw hB hz hk hS1 => ?_)
  obtain ⟨hP1, hK1, hD1⟩ := hB
  rw [ht] at hP1
  obtain ⟨hP2, hD2⟩ := hj H1 hk hFc hP1 hD1
  subst hw
  exact kk H1 locs1 hP2 hD2 hS1
theorem kV_i {r : Int32} {q0 ci : Nat} {fs : List Value} {q : vw_C} (S : CallFix p m c cc nL s args TB own) (hM : ∀ sz, Met l y wsy rm (va_Pc (.ref b :: As) (pW D ta wc sz)) (eI D ta (va_A wc sz) r w1) 0 0 (va_A wc sz)) (h1 : Cond.methodLink own index y ∈ TB) (h2 : Cond.instanceMethod y ∈ TB) (h3 : Cond.selects C y y ∈ TB) (h4 : Cond.initialized C ∈ TB) (h5 : Cond.code y bytes maxL ret ∈ TB) (hwy : wsy = Cond.code y bytes maxL ret :: TB) (hrc : rm.cells = 0) (hrs : rm.slots = 0) (hd : y.cls = C ∧ y.cls ≠ "java/lang/invoke/MethodHandle" ∧ y.cls ≠ "java/lang/invoke/VarHandle" ∧ (parseMethodDescriptor y.desc).map (fun d => d.parameters.length) = some n) (hR : rm.frames + 1 ≤ R.frames ∧ 8 + (maxL + 11) + rm.locals ≤ R.locals) (hK : va_K D vwCl (tyL ta) s) (hN : NwS s) (hP : va_P D vwCl ws H) (hD : va_D A ws) (hS : va_S A s.heap H locs) (hA : ∀ q, s.heap.size ≤ q → A q) (sp : Spl ws wc w1 w2) (he : wc[q0]? = some (b, .inr (ci, fs))) (hc : vwCl[ci]? = some q) (hCq : q.1 = C) (hn : As.length = n) (hsize : ls.size = nL) (hstack : st0 = As.reverse ++ .ref b :: rest) (hW : (rest.map fun v => v.category).sum ≤ 8) (hf : cells ≤ R.cells ∧ slots ≤ R.slots) (hdg : decode cc pc = .ok (.invokevirtual index, 3)) (kk : ∀ (H1 : Heap) (locs1 : List Loc), va_P D vwCl w2 H1 → va_D A w2 → va_S A s.heap H1 locs1 → W p l e R s m args below meth c H1 locs1 cells slots Q (F0 m (pc + 3) ls (.int r :: rest))) : W p l e R s m args below meth c H locs cells slots Q (F0 m pc ls st0) := by
  obtain ⟨hPc, hDc, hj⟩ := sp D A H hP hD
  subst hCq
  exact aft_i (va_runV (g := F0 m pc ls st0) S (hM H.size) (cwV n S.2.2.2.2 (hwy ▸ gdV h1 h2 h3 h4 h5) hwy hrc hrs hd hR) (pW_V hK hN hPc hDc he hc) rfl hn hsize hstack (lv_room hW) hdg hf) hP hD hS hA sp kk
theorem kS_i {r : Int32} (S : CallFix p m c cc nL s args TB own) (hM : ∀ sz, Met l y wsy rm (va_Pc (As) (pW D ta wc sz)) (eI D ta (va_A wc sz) r w1) 0 0 (va_A wc sz)) (h1 : Cond.methodLink own index y ∈ TB) (h2 : Cond.static y ∈ TB) (h4 : Cond.initialized C ∈ TB) (h5 : Cond.code y bytes maxL ret ∈ TB) (hwy : wsy = Cond.code y bytes maxL ret :: TB) (hrc : rm.cells = 0) (hrs : rm.slots = 0) (hd : y.cls = C ∧ y.cls ≠ "java/lang/invoke/MethodHandle" ∧ y.cls ≠ "java/lang/invoke/VarHandle" ∧ (parseMethodDescriptor y.desc).map (fun d => d.parameters.length) = some n) (hR : rm.frames + 1 ≤ R.frames ∧ 8 + (maxL + 11) + rm.locals ≤ R.locals) (hK : va_K D vwCl (tyL ta) s) (hN : NwS s) (hP : va_P D vwCl ws H) (hD : va_D A ws) (hS : va_S A s.heap H locs) (hA : ∀ q, s.heap.size ≤ q → A q) (sp : Spl ws wc w1 w2) (hn : As.length = n) (hsize : ls.size = nL) (hstack : st0 = As.reverse ++ rest) (hW : (rest.map fun v => v.category).sum ≤ 8) (hf : cells ≤ R.cells ∧ slots ≤ R.slots) (hdg : decode cc pc = .ok (.invokestatic index, 3)) (kk : ∀ (H1 : Heap) (locs1 : List Loc), va_P D vwCl w2 H1 → va_D A w2 → va_S A s.heap H1 locs1 → W p l e R s m args below meth c H1 locs1 cells slots Q (F0 m (pc + 3) ls (.int r :: rest))) : W p l e R s m args below meth c H locs cells slots Q (F0 m pc ls st0) := by
  obtain ⟨hPc, hDc, hj⟩ := sp D A H hP hD
  exact aft_i (va_runS (g := F0 m pc ls st0) S (hM H.size) (va_cwS n S.2.2.2.2 (hwy ▸ gdS h1 h2 (hd.1.symm ▸ h4) h5) hwy hrc hrs hd.2 hR) (pW_S hK hN hPc hDc) rfl hn hsize hstack (lv_room hW) hdg hf) hP hD hS hA sp kk
theorem kT_i {r : Int32} (S : CallFix p m c cc nL s args TB own) (hM : ∀ sz, Met l y wsy rm (va_Pc (As) (pW D ta wc sz)) (eI D ta (va_A wc sz) r w1) 0 0 (va_A wc sz)) (h1 : va_Nw (.methodLinkNest own index y host) s) (h2 : Cond.static y ∈ TB) (h4 : Cond.initialized C ∈ TB) (h5 : Cond.code y bytes maxL ret ∈ TB) (hwy : wsy = Cond.code y bytes maxL ret :: TB) (hrc : rm.cells = 0) (hrs : rm.slots = 0) (hd : y.cls = C ∧ y.cls ≠ "java/lang/invoke/MethodHandle" ∧ y.cls ≠ "java/lang/invoke/VarHandle" ∧ (parseMethodDescriptor y.desc).map (fun d => d.parameters.length) = some n) (hR : rm.frames + 1 ≤ R.frames ∧ 8 + (maxL + 11) + rm.locals ≤ R.locals) (hK : va_K D vwCl (tyL ta) s) (hN : NwS s) (hP : va_P D vwCl ws H) (hD : va_D A ws) (hS : va_S A s.heap H locs) (hA : ∀ q, s.heap.size ≤ q → A q) (sp : Spl ws wc w1 w2) (hn : As.length = n) (hsize : ls.size = nL) (hstack : st0 = As.reverse ++ rest) (hW : (rest.map fun v => v.category).sum ≤ 8) (hf : cells ≤ R.cells ∧ slots ≤ R.slots) (hdg : decode cc pc = .ok (.invokestatic index, 3)) (kk : ∀ (H1 : Heap) (locs1 : List Loc), va_P D vwCl w2 H1 → va_D A w2 → va_S A s.heap H1 locs1 → W p l e R s m args below meth c H1 locs1 cells slots Q (F0 m (pc + 3) ls (.int r :: rest))) : W p l e R s m args below meth c H locs cells slots Q (F0 m pc ls st0) := by
  obtain ⟨hPc, hDc, hj⟩ := sp D A H hP hD
  exact aft_i (va_runSN (g := F0 m pc ls st0) S (hM H.size) ⟨va_cnB n S.2.2.2.2 (hwy ▸ gdC h5) hwy hrc hrs h1 (S.2.2.2.2 _ (hd.1.symm ▸ h4)) hd.2 hR, S.2.2.2.2 _ h2, trivial⟩ (pW_S hK hN hPc hDc) rfl hn hsize hstack (lv_room hW) hdg hf) hP hD hS hA sp kk
theorem aft_l {r : Int64} {a9 : Array Value} (hr : va_Run p l e R s m args below meth c H locs cells slots 0 0 (F0 m pc ls st0) rest (eL D ta (va_A wc H.size) r w1 a9) (va_A wc H.size)) (hP : va_P D vwCl ws H) (hD : va_D A ws) (hS : va_S A s.heap H locs) (hA : ∀ q, s.heap.size ≤ q → A q) (sp : Spl ws wc w1 w2) (kk : ∀ (H1 : Heap) (locs1 : List Loc), va_P D vwCl w2 H1 → va_D A w2 → va_S A s.heap H1 locs1 → W p l e R s m args below meth c H1 locs1 cells slots Q (F0 m (pc + 3) ls (.long r :: rest))) : W p l e R s m args below meth c H locs cells slots Q (F0 m pc ls st0) := by
  obtain ⟨hPc, hDc, hj⟩ := sp D A H hP hD
  have hFc := aN hDc hS hA
  refine va_calll hr hS (fun q _ h => hFc q h) hFc (fun x u t H1 locs1 ht hvm hw hB hz hk hS1 => ?_)
  obtain ⟨hP1, hK1, hD1⟩ := hB
  rw [ht] at hP1
  obtain ⟨hP2, hD2⟩ := hj H1 hk hFc hP1 hD1
  subst hw
  exact kk H1 locs1 hP2 hD2 hS1
theorem kV_l {r : Int64} {q0 ci : Nat} {fs : List Value} {q : vw_C} (S : CallFix p m c cc nL s args TB own) (hM : ∀ sz, Met l y wsy rm (va_Pc (.ref b :: As) (pW D ta wc sz)) (eL D ta (va_A wc sz) r w1) 0 0 (va_A wc sz)) (h1 : Cond.methodLink own index y ∈ TB) (h2 : Cond.instanceMethod y ∈ TB) (h3 : Cond.selects C y y ∈ TB) (h4 : Cond.initialized C ∈ TB) (h5 : Cond.code y bytes maxL ret ∈ TB) (hwy : wsy = Cond.code y bytes maxL ret :: TB) (hrc : rm.cells = 0) (hrs : rm.slots = 0) (hd : y.cls = C ∧ y.cls ≠ "java/lang/invoke/MethodHandle" ∧ y.cls ≠ "java/lang/invoke/VarHandle" ∧ (parseMethodDescriptor y.desc).map (fun d => d.parameters.length) = some n) (hR : rm.frames + 1 ≤ R.frames ∧ 8 + (maxL + 11) + rm.locals ≤ R.locals) (hK : va_K D vwCl (tyL ta) s) (hN : NwS s) (hP : va_P D vwCl ws H) (hD : va_D A ws) (hS : va_S A s.heap H locs) (hA : ∀ q, s.heap.size ≤ q → A q) (sp : Spl ws wc w1 w2) (he : wc[q0]? = some (b, .inr (ci, fs))) (hc : vwCl[ci]? = some q) (hCq : q.1 = C) (hn : As.length = n) (hsize : ls.size = nL) (hstack : st0 = As.reverse ++ .ref b :: rest) (hW : (rest.map fun v => v.category).sum ≤ 8) (hf : cells ≤ R.cells ∧ slots ≤ R.slots) (hdg : decode cc pc = .ok (.invokevirtual index, 3)) (kk : ∀ (H1 : Heap) (locs1 : List Loc), va_P D vwCl w2 H1 → va_D A w2 → va_S A s.heap H1 locs1 → W p l e R s m args below meth c H1 locs1 cells slots Q (F0 m (pc + 3) ls (.long r :: rest))) : W p l e R s m args below meth c H locs cells slots Q (F0 m pc ls st0) := by
  obtain ⟨hPc, hDc, hj⟩ := sp D A H hP hD
  subst hCq
  exact aft_l (va_runV (g := F0 m pc ls st0) S (hM H.size) (cwV n S.2.2.2.2 (hwy ▸ gdV h1 h2 h3 h4 h5) hwy hrc hrs hd hR) (pW_V hK hN hPc hDc he hc) rfl hn hsize hstack (lv_room hW) hdg hf) hP hD hS hA sp kk
theorem kS_l {r : Int64} (S : CallFix p m c cc nL s args TB own) (hM : ∀ sz, Met l y wsy rm (va_Pc (As) (pW D ta wc sz)) (eL D ta (va_A wc sz) r w1) 0 0 (va_A wc sz)) (h1 : Cond.methodLink own index y ∈ TB) (h2 : Cond.static y ∈ TB) (h4 : Cond.initialized C ∈ TB) (h5 : Cond.code y bytes maxL ret ∈ TB) (hwy : wsy = Cond.code y bytes maxL ret :: TB) (hrc : rm.cells = 0) (hrs : rm.slots = 0) (hd : y.cls = C ∧ y.cls ≠ "java/lang/invoke/MethodHandle" ∧ y.cls ≠ "java/lang/invoke/VarHandle" ∧ (parseMethodDescriptor y.desc).map (fun d => d.parameters.length) = some n) (hR : rm.frames + 1 ≤ R.frames ∧ 8 + (maxL + 11) + rm.locals ≤ R.locals) (hK : va_K D vwCl (tyL ta) s) (hN : NwS s) (hP : va_P D vwCl ws H) (hD : va_D A ws) (hS : va_S A s.heap H locs) (hA : ∀ q, s.heap.size ≤ q → A q) (sp : Spl ws wc w1 w2) (hn : As.length = n) (hsize : ls.size = nL) (hstack : st0 = As.reverse ++ rest) (hW : (rest.map fun v => v.category).sum ≤ 8) (hf : cells ≤ R.cells ∧ slots ≤ R.slots) (hdg : decode cc pc = .ok (.invokestatic index, 3)) (kk : ∀ (H1 : Heap) (locs1 : List Loc), va_P D vwCl w2 H1 → va_D A w2 → va_S A s.heap H1 locs1 → W p l e R s m args below meth c H1 locs1 cells slots Q (F0 m (pc + 3) ls (.long r :: rest))) : W p l e R s m args below meth c H locs cells slots Q (F0 m pc ls st0) := by
  obtain ⟨hPc, hDc, hj⟩ := sp D A H hP hD
  exact aft_l (va_runS (g := F0 m pc ls st0) S (hM H.size) (va_cwS n S.2.2.2.2 (hwy ▸ gdS h1 h2 (hd.1.symm ▸ h4) h5) hwy hrc hrs hd.2 hR) (pW_S hK hN hPc hDc) rfl hn hsize hstack (lv_room hW) hdg hf) hP hD hS hA sp kk
theorem kT_l {r : Int64} (S : CallFix p m c cc nL s args TB own) (hM : ∀ sz, Met l y wsy rm (va_Pc (As) (pW D ta wc sz)) (eL D ta (va_A wc sz) r w1) 0 0 (va_A wc sz)) (h1 : va_Nw (.methodLinkNest own index y host) s) (h2 : Cond.static y ∈ TB) (h4 : Cond.initialized C ∈ TB) (h5 : Cond.code y bytes maxL ret ∈ TB) (hwy : wsy = Cond.code y bytes maxL ret :: TB) (hrc : rm.cells = 0) (hrs : rm.slots = 0) (hd : y.cls = C ∧ y.cls ≠ "java/lang/invoke/MethodHandle" ∧ y.cls ≠ "java/lang/invoke/VarHandle" ∧ (parseMethodDescriptor y.desc).map (fun d => d.parameters.length) = some n) (hR : rm.frames + 1 ≤ R.frames ∧ 8 + (maxL + 11) + rm.locals ≤ R.locals) (hK : va_K D vwCl (tyL ta) s) (hN : NwS s) (hP : va_P D vwCl ws H) (hD : va_D A ws) (hS : va_S A s.heap H locs) (hA : ∀ q, s.heap.size ≤ q → A q) (sp : Spl ws wc w1 w2) (hn : As.length = n) (hsize : ls.size = nL) (hstack : st0 = As.reverse ++ rest) (hW : (rest.map fun v => v.category).sum ≤ 8) (hf : cells ≤ R.cells ∧ slots ≤ R.slots) (hdg : decode cc pc = .ok (.invokestatic index, 3)) (kk : ∀ (H1 : Heap) (locs1 : List Loc), va_P D vwCl w2 H1 → va_D A w2 → va_S A s.heap H1 locs1 → W p l e R s m args below meth c H1 locs1 cells slots Q (F0 m (pc + 3) ls (.long r :: rest))) : W p l e R s m args below meth c H locs cells slots Q (F0 m pc ls st0) := by
  obtain ⟨hPc, hDc, hj⟩ := sp D A H hP hD
  exact aft_l (va_runSN (g := F0 m pc ls st0) S (hM H.size) ⟨va_cnB n S.2.2.2.2 (hwy ▸ gdC h5) hwy hrc hrs h1 (S.2.2.2.2 _ (hd.1.symm ▸ h4)) hd.2 hR, S.2.2.2.2 _ h2, trivial⟩ (pW_S hK hN hPc hDc) rfl hn hsize hstack (lv_room hW) hdg hf) hP hD hS hA sp kk
theorem aft_v  {a9 : Array Value} (hr : va_Run p l e R s m args below meth c H locs cells slots 0 0 (F0 m pc ls st0) rest (eV D ta (va_A wc H.size)  w1 a9) (va_A wc H.size)) (hP : va_P D vwCl ws H) (hD : va_D A ws) (hS : va_S A s.heap H locs) (hA : ∀ q, s.heap.size ≤ q → A q) (sp : Spl ws wc w1 w2) (kk : ∀ (H1 : Heap) (locs1 : List Loc), va_P D vwCl w2 H1 → va_D A w2 → va_S A s.heap H1 locs1 → W p l e R s m args below meth c H1 locs1 cells slots Q (F0 m (pc + 3) ls (rest))) : W p l e R s m args below meth c H locs cells slots Q (F0 m pc ls st0) := by
  obtain ⟨hPc, hDc, hj⟩ := sp D A H hP hD
  have hFc := aN hDc hS hA
  refine va_callv hr hS (fun q _ h => hFc q h) hFc (fun u t H1 locs1 ht hvm hw hB hz hk hS1 => ?_)
  obtain ⟨hP1, hK1, hD1⟩ := hB
  rw [ht] at hP1
  obtain ⟨hP2, hD2⟩ := hj H1 hk hFc hP1 hD1
  exact kk H1 locs1 hP2 hD2 hS1
theorem kV_v  {q0 ci : Nat} {fs : List Value} {q : vw_C} (S : CallFix p m c cc nL s args TB own) (hM : ∀ sz, Met l y wsy rm (va_Pc (.ref b :: As) (pW D ta wc sz)) (eV D ta (va_A wc sz)  w1) 0 0 (va_A wc sz)) (h1 : Cond.methodLink own index y ∈ TB) (h2 : Cond.instanceMethod y ∈ TB) (h3 : Cond.selects C y y ∈ TB) (h4 : Cond.initialized C ∈ TB) (h5 : Cond.code y bytes maxL ret ∈ TB) (hwy : wsy = Cond.code y bytes maxL ret :: TB) (hrc : rm.cells = 0) (hrs : rm.slots = 0) (hd : y.cls = C ∧ y.cls ≠ "java/lang/invoke/MethodHandle" ∧ y.cls ≠ "java/lang/invoke/VarHandle" ∧ (parseMethodDescriptor y.desc).map (fun d => d.parameters.length) = some n) (hR : rm.frames + 1 ≤ R.frames ∧ 8 + (maxL + 11) + rm.locals ≤ R.locals) (hK : va_K D vwCl (tyL ta) s) (hN : NwS s) (hP : va_P D vwCl ws H) (hD : va_D A ws) (hS : va_S A s.heap H locs) (hA : ∀ q, s.heap.size ≤ q → A q) (sp : Spl ws wc w1 w2) (he : wc[q0]? = some (b, .inr (ci, fs))) (hc : vwCl[ci]? = some q) (hCq : q.1 = C) (hn : As.length = n) (hsize : ls.size = nL) (hstack : st0 = As.reverse ++ .ref b :: rest) (hW : (rest.map fun v => v.category).sum ≤ 8) (hf : cells ≤ R.cells ∧ slots ≤ R.slots) (hdg : decode cc pc = .ok (.invokevirtual index, 3)) (kk : ∀ (H1 : Heap) (locs1 : List Loc), va_P D vwCl w2 H1 → va_D A w2 → va_S A s.heap H1 locs1 → W p l e R s m args below meth c H1 locs1 cells slots Q (F0 m (pc + 3) ls (rest))) : W p l e R s m args below meth c H locs cells slots Q (F0 m pc ls st0) := by
  obtain ⟨hPc, hDc, hj⟩ := sp D A H hP hD
  subst hCq
  exact aft_v (va_runV (g := F0 m pc ls st0) S (hM H.size) (cwV n S.2.2.2.2 (hwy ▸ gdV h1 h2 h3 h4 h5) hwy hrc hrs hd hR) (pW_V hK hN hPc hDc he hc) rfl hn hsize hstack (lv_room hW) hdg hf) hP hD hS hA sp kk
theorem kS_v  (S : CallFix p m c cc nL s args TB own) (hM : ∀ sz, Met l y wsy rm (va_Pc (As) (pW D ta wc sz)) (eV D ta (va_A wc sz)  w1) 0 0 (va_A wc sz)) (h1 : Cond.methodLink own index y ∈ TB) (h2 : Cond.static y ∈ TB) (h4 : Cond.initialized C ∈ TB) (h5 : Cond.code y bytes maxL ret ∈ TB) (hwy : wsy = Cond.code y bytes maxL ret :: TB) (hrc : rm.cells = 0) (hrs : rm.slots = 0) (hd : y.cls = C ∧ y.cls ≠ "java/lang/invoke/MethodHandle" ∧ y.cls ≠ "java/lang/invoke/VarHandle" ∧ (parseMethodDescriptor y.desc).map (fun d => d.parameters.length) = some n) (hR : rm.frames + 1 ≤ R.frames ∧ 8 + (maxL + 11) + rm.locals ≤ R.locals) (hK : va_K D vwCl (tyL ta) s) (hN : NwS s) (hP : va_P D vwCl ws H) (hD : va_D A ws) (hS : va_S A s.heap H locs) (hA : ∀ q, s.heap.size ≤ q → A q) (sp : Spl ws wc w1 w2) (hn : As.length = n) (hsize : ls.size = nL) (hstack : st0 = As.reverse ++ rest) (hW : (rest.map fun v => v.category).sum ≤ 8) (hf : cells ≤ R.cells ∧ slots ≤ R.slots) (hdg : decode cc pc = .ok (.invokestatic index, 3)) (kk : ∀ (H1 : Heap) (locs1 : List Loc), va_P D vwCl w2 H1 → va_D A w2 → va_S A s.heap H1 locs1 → W p l e R s m args below meth c H1 locs1 cells slots Q (F0 m (pc + 3) ls (rest))) : W p l e R s m args below meth c H locs cells slots Q (F0 m pc ls st0) := by
  obtain ⟨hPc, hDc, hj⟩ := sp D A H hP hD
  exact aft_v (va_runS (g := F0 m pc ls st0) S (hM H.size) (va_cwS n S.2.2.2.2 (hwy ▸ gdS h1 h2 (hd.1.symm ▸ h4) h5) hwy hrc hrs hd.2 hR) (pW_S hK hN hPc hDc) rfl hn hsize hstack (lv_room hW) hdg hf) hP hD hS hA sp kk
theorem kT_v  (S : CallFix p m c cc nL s args TB own) (hM : ∀ sz, Met l y wsy rm (va_Pc (As) (pW D ta wc sz)) (eV D ta (va_A wc sz)  w1) 0 0 (va_A wc sz)) (h1 : va_Nw (.methodLinkNest own index y host) s) (h2 : Cond.static y ∈ TB) (h4 : Cond.initialized C ∈ TB) (h5 : Cond.code y bytes maxL ret ∈ TB) (hwy : wsy = Cond.code y bytes maxL ret :: TB) (hrc : rm.cells = 0) (hrs : rm.slots = 0) (hd : y.cls = C ∧ y.cls ≠ "java/lang/invoke/MethodHandle" ∧ y.cls ≠ "java/lang/invoke/VarHandle" ∧ (parseMethodDescriptor y.desc).map (fun d => d.parameters.length) = some n) (hR : rm.frames + 1 ≤ R.frames ∧ 8 + (maxL + 11) + rm.locals ≤ R.locals) (hK : va_K D vwCl (tyL ta) s) (hN : NwS s) (hP : va_P D vwCl ws H) (hD : va_D A ws) (hS : va_S A s.heap H locs) (hA : ∀ q, s.heap.size ≤ q → A q) (sp : Spl ws wc w1 w2) (hn : As.length = n) (hsize : ls.size = nL) (hstack : st0 = As.reverse ++ rest) (hW : (rest.map fun v => v.category).sum ≤ 8) (hf : cells ≤ R.cells ∧ slots ≤ R.slots) (hdg : decode cc pc = .ok (.invokestatic index, 3)) (kk : ∀ (H1 : Heap) (locs1 : List Loc), va_P D vwCl w2 H1 → va_D A w2 → va_S A s.heap H1 locs1 → W p l e R s m args below meth c H1 locs1 cells slots Q (F0 m (pc + 3) ls (rest))) : W p l e R s m args below meth c H locs cells slots Q (F0 m pc ls st0) := by
  obtain ⟨hPc, hDc, hj⟩ := sp D A H hP hD
  exact aft_v (va_runSN (g := F0 m pc ls st0) S (hM H.size) ⟨va_cnB n S.2.2.2.2 (hwy ▸ gdC h5) hwy hrc hrs h1 (S.2.2.2.2 _ (hd.1.symm ▸ h4)) hd.2 hR, S.2.2.2.2 _ h2, trivial⟩ (pW_S hK hN hPc hDc) rfl hn hsize hstack (lv_room hW) hdg hf) hP hD hS hA sp kk
theorem aft_r {r : Nat} {a9 : Array Value} (hr : va_Run p l e R s m args below meth c H locs cells slots 0 0 (F0 m pc ls st0) rest (eR D ta (va_A wc H.size) r w1 a9) (va_A wc H.size)) (hP : va_P D vwCl ws H) (hD : va_D A ws) (hS : va_S A s.heap H locs) (hA : ∀ q, s.heap.size ≤ q → A q) (sp : Spl ws wc w1 w2) (kk : ∀ (H1 : Heap) (locs1 : List Loc), va_P D vwCl w2 H1 → va_D A w2 → va_S A s.heap H1 locs1 → W p l e R s m args below meth c H1 locs1 cells slots Q (F0 m (pc + 3) ls (.ref r :: rest))) : W p l e R s m args below meth c H locs cells slots Q (F0 m pc ls st0) := by
  obtain ⟨hPc, hDc, hj⟩ := sp D A H hP hD
  have hFc := aN hDc hS hA
  refine va_callr hr hS (fun q _ h => hFc q h) hFc (fun u x t H1 locs1 ht hvm hw hB hz hk hS1 => ?_)
  obtain ⟨hw, hP1, hK1, hD1⟩ := hB
  subst hw
  rw [ht] at hP1
  obtain ⟨hP2, hD2⟩ := hj H1 hk hFc hP1 hD1
  exact kk H1 locs1 hP2 hD2 hS1
theorem kV_r {r : Nat} {q0 ci : Nat} {fs : List Value} {q : vw_C} (S : CallFix p m c cc nL s args TB own) (hM : ∀ sz, Met l y wsy rm (va_Pc (.ref b :: As) (pW D ta wc sz)) (eR D ta (va_A wc sz) r w1) 0 0 (va_A wc sz)) (h1 : Cond.methodLink own index y ∈ TB) (h2 : Cond.instanceMethod y ∈ TB) (h3 : Cond.selects C y y ∈ TB) (h4 : Cond.initialized C ∈ TB) (h5 : Cond.code y bytes maxL ret ∈ TB) (hwy : wsy = Cond.code y bytes maxL ret :: TB) (hrc : rm.cells = 0) (hrs : rm.slots = 0) (hd : y.cls = C ∧ y.cls ≠ "java/lang/invoke/MethodHandle" ∧ y.cls ≠ "java/lang/invoke/VarHandle" ∧ (parseMethodDescriptor y.desc).map (fun d => d.parameters.length) = some n) (hR : rm.frames + 1 ≤ R.frames ∧ 8 + (maxL + 11) + rm.locals ≤ R.locals) (hK : va_K D vwCl (tyL ta) s) (hN : NwS s) (hP : va_P D vwCl ws H) (hD : va_D A ws) (hS : va_S A s.heap H locs) (hA : ∀ q, s.heap.size ≤ q → A q) (sp : Spl ws wc w1 w2) (he : wc[q0]? = some (b, .inr (ci, fs))) (hc : vwCl[ci]? = some q) (hCq : q.1 = C) (hn : As.length = n) (hsize : ls.size = nL) (hstack : st0 = As.reverse ++ .ref b :: rest) (hW : (rest.map fun v => v.category).sum ≤ 8) (hf : cells ≤ R.cells ∧ slots ≤ R.slots) (hdg : decode cc pc = .ok (.invokevirtual index, 3)) (kk : ∀ (H1 : Heap) (locs1 : List Loc), va_P D vwCl w2 H1 → va_D A w2 → va_S A s.heap H1 locs1 → W p l e R s m args below meth c H1 locs1 cells slots Q (F0 m (pc + 3) ls (.ref r :: rest))) : W p l e R s m args below meth c H locs cells slots Q (F0 m pc ls st0) := by
  obtain ⟨hPc, hDc, hj⟩ := sp D A H hP hD
  subst hCq
  exact aft_r (va_runV (g := F0 m pc ls st0) S (hM H.size) (cwV n S.2.2.2.2 (hwy ▸ gdV h1 h2 h3 h4 h5) hwy hrc hrs hd hR) (pW_V hK hN hPc hDc he hc) rfl hn hsize hstack (lv_room hW) hdg hf) hP hD hS hA sp kk
theorem kS_r {r : Nat} (S : CallFix p m c cc nL s args TB own) (hM : ∀ sz, Met l y wsy rm (va_Pc (As) (pW D ta wc sz)) (eR D ta (va_A wc sz) r w1) 0 0 (va_A wc sz)) (h1 : Cond.methodLink own index y ∈ TB) (h2 : Cond.static y ∈ TB) (h4 : Cond.initialized C ∈ TB) (h5 : Cond.code y bytes maxL ret ∈ TB) (hwy : wsy = Cond.code y bytes maxL ret :: TB) (hrc : rm.cells = 0) (hrs : rm.slots = 0) (hd : y.cls = C ∧ y.cls ≠ "java/lang/invoke/MethodHandle" ∧ y.cls ≠ "java/lang/invoke/VarHandle" ∧ (parseMethodDescriptor y.desc).map (fun d => d.parameters.length) = some n) (hR : rm.frames + 1 ≤ R.frames ∧ 8 + (maxL + 11) + rm.locals ≤ R.locals) (hK : va_K D vwCl (tyL ta) s) (hN : NwS s) (hP : va_P D vwCl ws H) (hD : va_D A ws) (hS : va_S A s.heap H locs) (hA : ∀ q, s.heap.size ≤ q → A q) (sp : Spl ws wc w1 w2) (hn : As.length = n) (hsize : ls.size = nL) (hstack : st0 = As.reverse ++ rest) (hW : (rest.map fun v => v.category).sum ≤ 8) (hf : cells ≤ R.cells ∧ slots ≤ R.slots) (hdg : decode cc pc = .ok (.invokestatic index, 3)) (kk : ∀ (H1 : Heap) (locs1 : List Loc), va_P D vwCl w2 H1 → va_D A w2 → va_S A s.heap H1 locs1 → W p l e R s m args below meth c H1 locs1 cells slots Q (F0 m (pc + 3) ls (.ref r :: rest))) : W p l e R s m args below meth c H locs cells slots Q (F0 m pc ls st0) := by
  obtain ⟨hPc, hDc, hj⟩ := sp D A H hP hD
  exact aft_r (va_runS (g := F0 m pc ls st0) S (hM H.size) (va_cwS n S.2.2.2.2 (hwy ▸ gdS h1 h2 (hd.1.symm ▸ h4) h5) hwy hrc hrs hd.2 hR) (pW_S hK hN hPc hDc) rfl hn hsize hstack (lv_room hW) hdg hf) hP hD hS hA sp kk
theorem kT_r {r : Nat} (S : CallFix p m c cc nL s args TB own) (hM : ∀ sz, Met l y wsy rm (va_Pc (As) (pW D ta wc sz)) (eR D ta (va_A wc sz) r w1) 0 0 (va_A wc sz)) (h1 : va_Nw (.methodLinkNest own index y host) s) (h2 : Cond.static y ∈ TB) (h4 : Cond.initialized C ∈ TB) (h5 : Cond.code y bytes maxL ret ∈ TB) (hwy : wsy = Cond.code y bytes maxL ret :: TB) (hrc : rm.cells = 0) (hrs : rm.slots = 0) (hd : y.cls = C ∧ y.cls ≠ "java/lang/invoke/MethodHandle" ∧ y.cls ≠ "java/lang/invoke/VarHandle" ∧ (parseMethodDescriptor y.desc).map (fun d => d.parameters.length) = some n) (hR : rm.frames + 1 ≤ R.frames ∧ 8 + (maxL + 11) + rm.locals ≤ R.locals) (hK : va_K D vwCl (tyL ta) s) (hN : NwS s) (hP : va_P D vwCl ws H) (hD : va_D A ws) (hS : va_S A s.heap H locs) (hA : ∀ q, s.heap.size ≤ q → A q) (sp : Spl ws wc w1 w2) (hn : As.length = n) (hsize : ls.size = nL) (hstack : st0 = As.reverse ++ rest) (hW : (rest.map fun v => v.category).sum ≤ 8) (hf : cells ≤ R.cells ∧ slots ≤ R.slots) (hdg : decode cc pc = .ok (.invokestatic index, 3)) (kk : ∀ (H1 : Heap) (locs1 : List Loc), va_P D vwCl w2 H1 → va_D A w2 → va_S A s.heap H1 locs1 → W p l e R s m args below meth c H1 locs1 cells slots Q (F0 m (pc + 3) ls (.ref r :: rest))) : W p l e R s m args below meth c H locs cells slots Q (F0 m pc ls st0) := by
  obtain ⟨hPc, hDc, hj⟩ := sp D A H hP hD
  exact aft_r (va_runSN (g := F0 m pc ls st0) S (hM H.size) ⟨va_cnB n S.2.2.2.2 (hwy ▸ gdC h5) hwy hrc hrs h1 (S.2.2.2.2 _ (hd.1.symm ▸ h4)) hd.2 hR, S.2.2.2.2 _ h2, trivial⟩ (pW_S hK hN hPc hDc) rfl hn hsize hstack (lv_room hW) hdg hf) hP hD hS hA sp kk
theorem fin_i {r v : Int32} (hx : p.tables.exec = Jvm.exec) (hb : c.code = cc) (hr : meth.sig.returnType = some .int) (hlocks : meth.locks = false) (hK : va_K D vwCl (tyL ta) s) (hP : va_P D vwCl ws H) (hD : va_D A ws) (hS : va_S A s.heap H locs) (hdg : decode cc pc = .ok (.ireturn, 1)) (hv : v = r) (hw : ws = w1) : W p l e R s m args below meth c H locs cells slots (MQ below (eI D ta A r w1) args s cells slots A) (F0 m pc ls [.int v]) := by
  subst hw
  exact W.iret (v := v) hx hb hr (fun t ht hW => ⟨⟨v, (), rfl, hv, by rw [ht]; exact hP, va_K.moved hW.alike hK, hD⟩, hS.F ht⟩) hS.2.2 hdg
theorem fin_l {r v : Int64} (hx : p.tables.exec = Jvm.exec) (hb : c.code = cc) (hr : meth.sig.returnType = some .long) (hlocks : meth.locks = false) (hK : va_K D vwCl (tyL ta) s) (hP : va_P D vwCl ws H) (hD : va_D A ws) (hS : va_S A s.heap H locs) (hdg : decode cc pc = .ok (.lreturn, 1)) (hv : v = r) (hw : ws = w1) : W p l e R s m args below meth c H locs cells slots (MQ below (eL D ta A r w1) args s cells slots A) (F0 m pc ls [.long v]) := by
  subst hw
  exact W.lret (v := v) hx hb hr (fun t ht hW => ⟨⟨v, (), rfl, hv, by rw [ht]; exact hP, va_K.moved hW.alike hK, hD⟩, hS.F ht⟩) hS.2.2 hdg
theorem fin_v  (hx : p.tables.exec = Jvm.exec) (hb : c.code = cc) (hr : meth.sig.returnType = none) (hlocks : meth.locks = false) (hK : va_K D vwCl (tyL ta) s) (hP : va_P D vwCl ws H) (hD : va_D A ws) (hS : va_S A s.heap H locs) (hdg : decode cc pc = .ok (.return_, 1)) (hw : ws = w1) : W p l e R s m args below meth c H locs cells slots (MQ below (eV D ta A  w1) args s cells slots A) (F0 m pc ls []) := by
  subst hw
  exact W.vret hx hb hr (fun t ht hW => ⟨⟨(), rfl, trivial, by rw [ht]; exact hP, va_K.moved hW.alike hK, hD⟩, hS.F ht⟩) hS.2.2 hdg
theorem fin_z {r v : Int32} (hx : p.tables.exec = Jvm.exec) (hb : c.code = cc) (hr : meth.sig.returnType = some .boolean) (hlocks : meth.locks = false) (hK : va_K D vwCl (tyL ta) s) (hP : va_P D vwCl ws H) (hD : va_D A ws) (hS : va_S A s.heap H locs) (hdg : decode cc pc = .ok (.ireturn, 1)) (hn : narrow .boolean (.int v) = .int v) (hv : v = r) (hw : ws = w1) : W p l e R s m args below meth c H locs cells slots (MQ below (eI D ta A r w1) args s cells slots A) (F0 m pc ls [.int v]) := by
  subst hw
  exact W.zret (v := v) hx hb hr hn (fun t ht hW => ⟨⟨v, (), rfl, hv, by rw [ht]; exact hP, va_K.moved hW.alike hK, hD⟩, hS.F ht⟩) hS.2.2 hdg
theorem fin_r {r v : Nat} {nm : String} (hx : p.tables.exec = Jvm.exec) (hb : c.code = cc) (hr : meth.sig.returnType = some (.object nm)) (hlocks : meth.locks = false) (hK : va_K D vwCl (tyL ta) s) (hP : va_P D vwCl ws H) (hD : va_D A ws) (hS : va_S A s.heap H locs) (hdg : decode cc pc = .ok (.areturn, 1)) (hv : v = r) (hw : ws = w1) : W p l e R s m args below meth c H locs cells slots (MQ below (eR D ta A r w1) args s cells slots A) (F0 m pc ls [.ref v]) := by
  subst hw
  exact W.aret (v := .ref v) hx hb hr (Or.inl ⟨nm, rfl⟩) (Or.inr ⟨v, rfl⟩) (fun t ht hW => ⟨⟨(), v, rfl, trivial, hv, by rw [ht]; exact hP, va_K.moved hW.alike hK, hD⟩, hS.F ht⟩) hS.2.2 hdg
theorem lv_retop {v w : Value} (h : v = w) (k : W p l e R s m args below meth c H locs cells slots Q (F0 m pc ls (w :: rest))) : W p l e R s m args below meth c H locs cells slots Q (F0 m pc ls (v :: rest)) := h ▸ k
theorem lc_eq {x y : Int64} {off : Int} {tgt : Nat} (hx : p.tables.exec = Jvm.exec) (hb : c.code = cc) (d1 : decode cc pc = .ok (.lcmp, 1)) (d2 : decode cc (pc + 1) = .ok (.ifCond .eq off, 3)) (ht : ((pc + 1 : Nat) : Int) + off = (tgt : Int)) (kt : x = y → W p l e R s m args below meth c H locs cells slots Q (F0 m tgt ls rest)) (kf : ¬ x = y → W p l e R s m args below meth c H locs cells slots Q (F0 m (pc + 4) ls rest)) : W p l e R s m args below meth c H locs cells slots Q (F0 m pc ls (.long y :: .long x :: rest)) :=
  W.lcmp hx hb d1 (lv_if_eq hx hb d2 ht (fun h => kt ((lg_cmp_eq x y).mp h)) (fun h => kf (fun q => h ((lg_cmp_eq x y).mpr q))))
theorem lc_ne {x y : Int64} {off : Int} {tgt : Nat} (hx : p.tables.exec = Jvm.exec) (hb : c.code = cc) (d1 : decode cc pc = .ok (.lcmp, 1)) (d2 : decode cc (pc + 1) = .ok (.ifCond .ne off, 3)) (ht : ((pc + 1 : Nat) : Int) + off = (tgt : Int)) (kt : ¬ x = y → W p l e R s m args below meth c H locs cells slots Q (F0 m tgt ls rest)) (kf : x = y → W p l e R s m args below meth c H locs cells slots Q (F0 m (pc + 4) ls rest)) : W p l e R s m args below meth c H locs cells slots Q (F0 m pc ls (.long y :: .long x :: rest)) :=
  W.lcmp hx hb d1 (lv_if_ne hx hb d2 ht (fun h => kt (fun q => h ((lg_cmp_eq x y).mpr q))) (fun h => kf ((lg_cmp_eq x y).mp h)))
theorem lc_lt {x y : Int64} {off : Int} {tgt : Nat} (hx : p.tables.exec = Jvm.exec) (hb : c.code = cc) (d1 : decode cc pc = .ok (.lcmp, 1)) (d2 : decode cc (pc + 1) = .ok (.ifCond .lt off, 3)) (ht : ((pc + 1 : Nat) : Int) + off = (tgt : Int)) (kt : x < y → W p l e R s m args below meth c H locs cells slots Q (F0 m tgt ls rest)) (kf : ¬ x < y → W p l e R s m args below meth c H locs cells slots Q (F0 m (pc + 4) ls rest)) : W p l e R s m args below meth c H locs cells slots Q (F0 m pc ls (.long y :: .long x :: rest)) :=
  W.lcmp hx hb d1 (lv_if_lt hx hb d2 ht (fun h => kt ((lg_cmp_lt x y).mp h)) (fun h => kf (fun q => h ((lg_cmp_lt x y).mpr q))))
theorem lc_ge {x y : Int64} {off : Int} {tgt : Nat} (hx : p.tables.exec = Jvm.exec) (hb : c.code = cc) (d1 : decode cc pc = .ok (.lcmp, 1)) (d2 : decode cc (pc + 1) = .ok (.ifCond .ge off, 3)) (ht : ((pc + 1 : Nat) : Int) + off = (tgt : Int)) (kt : y ≤ x → W p l e R s m args below meth c H locs cells slots Q (F0 m tgt ls rest)) (kf : ¬ y ≤ x → W p l e R s m args below meth c H locs cells slots Q (F0 m (pc + 4) ls rest)) : W p l e R s m args below meth c H locs cells slots Q (F0 m pc ls (.long y :: .long x :: rest)) :=
  W.lcmp hx hb d1 (lv_if_ge hx hb d2 ht (fun h => kt ((lg_cmp_ge x y).mp h)) (fun h => kf (fun q => h ((lg_cmp_ge x y).mpr q))))
theorem lc_gt {x y : Int64} {off : Int} {tgt : Nat} (hx : p.tables.exec = Jvm.exec) (hb : c.code = cc) (d1 : decode cc pc = .ok (.lcmp, 1)) (d2 : decode cc (pc + 1) = .ok (.ifCond .gt off, 3)) (ht : ((pc + 1 : Nat) : Int) + off = (tgt : Int)) (kt : y < x → W p l e R s m args below meth c H locs cells slots Q (F0 m tgt ls rest)) (kf : ¬ y < x → W p l e R s m args below meth c H locs cells slots Q (F0 m (pc + 4) ls rest)) : W p l e R s m args below meth c H locs cells slots Q (F0 m pc ls (.long y :: .long x :: rest)) :=
  W.lcmp hx hb d1 (lv_if_gt hx hb d2 ht (fun h => kt ((lg_cmp_gt x y).mp h)) (fun h => kf (fun q => h ((lg_cmp_gt x y).mpr q))))
theorem lc_le {x y : Int64} {off : Int} {tgt : Nat} (hx : p.tables.exec = Jvm.exec) (hb : c.code = cc) (d1 : decode cc pc = .ok (.lcmp, 1)) (d2 : decode cc (pc + 1) = .ok (.ifCond .le off, 3)) (ht : ((pc + 1 : Nat) : Int) + off = (tgt : Int)) (kt : x ≤ y → W p l e R s m args below meth c H locs cells slots Q (F0 m tgt ls rest)) (kf : ¬ x ≤ y → W p l e R s m args below meth c H locs cells slots Q (F0 m (pc + 4) ls rest)) : W p l e R s m args below meth c H locs cells slots Q (F0 m pc ls (.long y :: .long x :: rest)) :=
  W.lcmp hx hb d1 (lv_if_le hx hb d2 ht (fun h => kt ((lg_cmp_le x y).mp h)) (fun h => kf (fun q => h ((lg_cmp_le x y).mpr q))))
theorem lb_eq {b : Bool} {off : Int} {tgt : Nat} (hx : p.tables.exec = Jvm.exec) (hb : c.code = cc) (hdg : decode cc pc = .ok (.ifCond .eq off, 3)) (ht : (pc : Int) + off = (tgt : Int)) (kt : b = false → W p l e R s m args below meth c H locs cells slots Q (F0 m tgt ls rest)) (kf : b = true → W p l e R s m args below meth c H locs cells slots Q (F0 m (pc + 3) ls rest)) : W p l e R s m args below meth c H locs cells slots Q (F0 m pc ls (.int (b2i b) :: rest)) := lv_if_eq hx hb hdg ht (fun h => kt (b2i_0.mp h)) (fun h => kf (b2i_n0.mp h))
theorem lb_ne {b : Bool} {off : Int} {tgt : Nat} (hx : p.tables.exec = Jvm.exec) (hb : c.code = cc) (hdg : decode cc pc = .ok (.ifCond .ne off, 3)) (ht : (pc : Int) + off = (tgt : Int)) (kt : b = true → W p l e R s m args below meth c H locs cells slots Q (F0 m tgt ls rest)) (kf : b = false → W p l e R s m args below meth c H locs cells slots Q (F0 m (pc + 3) ls rest)) : W p l e R s m args below meth c H locs cells slots Q (F0 m pc ls (.int (b2i b) :: rest)) := lv_if_ne hx hb hdg ht (fun h => kt (b2i_n0.mp h)) (fun h => kf (b2i_0.mp h))
end KALL
theorem opn_I {l : Launch} {y : MethodName} {ws : List Cond} {rm : Room} {D : va_G} {ta : Nat → ClassId} {av : List Value} {w0 w1 : va_W} {bytes : ByteArray} {maxL : Nat} {r : Int32} (hy : plainFor y = true) (hw : ws = Cond.code y bytes maxL (some .int) :: TB) (hle : (lg_sl av).length ≤ maxL) (body : ∀ (p : Program) (e : Env) (s : State) (m : MethodId) (below : List Frame) (meth : Method) (c : Code) (A : Nat → Prop) (ls : Array Slot), p.tables.exec = Jvm.exec → c.code = bytes → meth.sig.returnType = some .int → c.maxLocals = maxL → s.vm.findClass y.cls = some m.cls → meth.locks = false → meth.name = y.name → (∀ w ∈ TB, w.before av.toArray s = true) → va_K D vwCl (tyL ta) s → NwS s → va_P D vwCl w0 s.heap → va_D A w0 → (∀ q, s.heap.size ≤ q → A q) → va_S A s.heap s.heap [] → lv_has ls maxL (lv_args 0 av) → W p l e rm s m av.toArray below meth c s.heap [] 0 0 (MQ below (eI D ta A r w1) av.toArray s 0 0 A) (F0 m 0 ls [])) : ∀ sz, Met l y ws rm (va_Pc av (pW D ta w0 sz)) (eI D ta (va_A w0 sz) r w1) 0 0 (va_A w0 sz) := by
  intro sz
  refine va_MetF (cc := bytes) (maxL := maxL) (ret := some .int) hy hw ?_
  intro p e s m args below meth c s₁ B hml hv
  obtain ⟨rfl, hsz, hP, hK, hD0, hN⟩ := hv
  subst hsz
  rw [lg_entry_eq]
  exact body p e s m below meth c _ _ B.exec B.bytes B.returns hml (findClass_of_methodNamed B.named) B.notSynchronized (name_of_methodNamed B.named B.method).1 (fun w h => atoms_spec (ws := ws) B.pre w (by rw [hw]; exact List.mem_cons_of_mem _ h)) hK hN hP (hD0.self (sz := s.heap.size)) (fun q h => Or.inr h) va_S.rf (lv_entry av (n := maxL) hle)
theorem opn_Z {l : Launch} {y : MethodName} {ws : List Cond} {rm : Room} {D : va_G} {ta : Nat → ClassId} {av : List Value} {w0 w1 : va_W} {bytes : ByteArray} {maxL : Nat} {r : Int32} (hy : plainFor y = true) (hw : ws = Cond.code y bytes maxL (some .boolean) :: TB) (hle : (lg_sl av).length ≤ maxL) (body : ∀ (p : Program) (e : Env) (s : State) (m : MethodId) (below : List Frame) (meth : Method) (c : Code) (A : Nat → Prop) (ls : Array Slot), p.tables.exec = Jvm.exec → c.code = bytes → meth.sig.returnType = some .boolean → c.maxLocals = maxL → s.vm.findClass y.cls = some m.cls → meth.locks = false → meth.name = y.name → (∀ w ∈ TB, w.before av.toArray s = true) → va_K D vwCl (tyL ta) s → NwS s → va_P D vwCl w0 s.heap → va_D A w0 → (∀ q, s.heap.size ≤ q → A q) → va_S A s.heap s.heap [] → lv_has ls maxL (lv_args 0 av) → W p l e rm s m av.toArray below meth c s.heap [] 0 0 (MQ below (eI D ta A r w1) av.toArray s 0 0 A) (F0 m 0 ls [])) : ∀ sz, Met l y ws rm (va_Pc av (pW D ta w0 sz)) (eI D ta (va_A w0 sz) r w1) 0 0 (va_A w0 sz) := by
  intro sz
  refine va_MetF (cc := bytes) (maxL := maxL) (ret := some .boolean) hy hw ?_
  intro p e s m args below meth c s₁ B hml hv
  obtain ⟨rfl, hsz, hP, hK, hD0, hN⟩ := hv
  subst hsz
  rw [lg_entry_eq]
  exact body p e s m below meth c _ _ B.exec B.bytes B.returns hml (findClass_of_methodNamed B.named) B.notSynchronized (name_of_methodNamed B.named B.method).1 (fun w h => atoms_spec (ws := ws) B.pre w (by rw [hw]; exact List.mem_cons_of_mem _ h)) hK hN hP (hD0.self (sz := s.heap.size)) (fun q h => Or.inr h) va_S.rf (lv_entry av (n := maxL) hle)
theorem opn_L {l : Launch} {y : MethodName} {ws : List Cond} {rm : Room} {D : va_G} {ta : Nat → ClassId} {av : List Value} {w0 w1 : va_W} {bytes : ByteArray} {maxL : Nat} {r : Int64} (hy : plainFor y = true) (hw : ws = Cond.code y bytes maxL (some .long) :: TB) (hle : (lg_sl av).length ≤ maxL) (body : ∀ (p : Program) (e : Env) (s : State) (m : MethodId) (below : List Frame) (meth : Method) (c : Code) (A : Nat → Prop) (ls : Array Slot), p.tables.exec = Jvm.exec → c.code = bytes → meth.sig.returnType = some .long → c.maxLocals = maxL → s.vm.findClass y.cls = some m.cls → meth.locks = false → meth.name = y.name → (∀ w ∈ TB, w.before av.toArray s = true) → va_K D vwCl (tyL ta) s → NwS s → va_P D vwCl w0 s.heap → va_D A w0 → (∀ q, s.heap.size ≤ q → A q) → va_S A s.heap s.heap [] → lv_has ls maxL (lv_args 0 av) → W p l e rm s m av.toArray below meth c s.heap [] 0 0 (MQ below (eL D ta A r w1) av.toArray s 0 0 A) (F0 m 0 ls [])) : ∀ sz, Met l y ws rm (va_Pc av (pW D ta w0 sz)) (eL D ta (va_A w0 sz) r w1) 0 0 (va_A w0 sz) := by
  intro sz
  refine va_MetF (cc := bytes) (maxL := maxL) (ret := some .long) hy hw ?_
  intro p e s m args below meth c s₁ B hml hv
  obtain ⟨rfl, hsz, hP, hK, hD0, hN⟩ := hv
  subst hsz
  rw [lg_entry_eq]
  exact body p e s m below meth c _ _ B.exec B.bytes B.returns hml (findClass_of_methodNamed B.named) B.notSynchronized (name_of_methodNamed B.named B.method).1 (fun w h => atoms_spec (ws := ws) B.pre w (by rw [hw]; exact List.mem_cons_of_mem _ h)) hK hN hP (hD0.self (sz := s.heap.size)) (fun q h => Or.inr h) va_S.rf (lv_entry av (n := maxL) hle)
theorem opn_V {l : Launch} {y : MethodName} {ws : List Cond} {rm : Room} {D : va_G} {ta : Nat → ClassId} {av : List Value} {w0 w1 : va_W} {bytes : ByteArray} {maxL : Nat}  (hy : plainFor y = true) (hw : ws = Cond.code y bytes maxL (none) :: TB) (hle : (lg_sl av).length ≤ maxL) (body : ∀ (p : Program) (e : Env) (s : State) (m : MethodId) (below : List Frame) (meth : Method) (c : Code) (A : Nat → Prop) (ls : Array Slot), p.tables.exec = Jvm.exec → c.code = bytes → meth.sig.returnType = none → c.maxLocals = maxL → s.vm.findClass y.cls = some m.cls → meth.locks = false → meth.name = y.name → (∀ w ∈ TB, w.before av.toArray s = true) → va_K D vwCl (tyL ta) s → NwS s → va_P D vwCl w0 s.heap → va_D A w0 → (∀ q, s.heap.size ≤ q → A q) → va_S A s.heap s.heap [] → lv_has ls maxL (lv_args 0 av) → W p l e rm s m av.toArray below meth c s.heap [] 0 0 (MQ below (eV D ta A  w1) av.toArray s 0 0 A) (F0 m 0 ls [])) : ∀ sz, Met l y ws rm (va_Pc av (pW D ta w0 sz)) (eV D ta (va_A w0 sz)  w1) 0 0 (va_A w0 sz) := by
  intro sz
  refine va_MetF (cc := bytes) (maxL := maxL) (ret := none) hy hw ?_
  intro p e s m args below meth c s₁ B hml hv
  obtain ⟨rfl, hsz, hP, hK, hD0, hN⟩ := hv
  subst hsz
  rw [lg_entry_eq]
  exact body p e s m below meth c _ _ B.exec B.bytes B.returns hml (findClass_of_methodNamed B.named) B.notSynchronized (name_of_methodNamed B.named B.method).1 (fun w h => atoms_spec (ws := ws) B.pre w (by rw [hw]; exact List.mem_cons_of_mem _ h)) hK hN hP (hD0.self (sz := s.heap.size)) (fun q h => Or.inr h) va_S.rf (lv_entry av (n := maxL) hle)
theorem opn_R {l : Launch} {y : MethodName} {ws : List Cond} {rm : Room} {D : va_G} {ta : Nat → ClassId} {av : List Value} {w0 w1 : va_W} {bytes : ByteArray} {maxL : Nat} {nm : String} {r : Nat} (hy : plainFor y = true) (hw : ws = Cond.code y bytes maxL (some (.object nm)) :: TB) (hle : (lg_sl av).length ≤ maxL) (body : ∀ (p : Program) (e : Env) (s : State) (m : MethodId) (below : List Frame) (meth : Method) (c : Code) (A : Nat → Prop) (ls : Array Slot), p.tables.exec = Jvm.exec → c.code = bytes → meth.sig.returnType = some (.object nm) → c.maxLocals = maxL → s.vm.findClass y.cls = some m.cls → meth.locks = false → meth.name = y.name → (∀ w ∈ TB, w.before av.toArray s = true) → va_K D vwCl (tyL ta) s → NwS s → va_P D vwCl w0 s.heap → va_D A w0 → (∀ q, s.heap.size ≤ q → A q) → va_S A s.heap s.heap [] → lv_has ls maxL (lv_args 0 av) → W p l e rm s m av.toArray below meth c s.heap [] 0 0 (MQ below (eR D ta A r w1) av.toArray s 0 0 A) (F0 m 0 ls [])) : ∀ sz, Met l y ws rm (va_Pc av (pW D ta w0 sz)) (eR D ta (va_A w0 sz) r w1) 0 0 (va_A w0 sz) := by
  intro sz
  refine va_MetF (cc := bytes) (maxL := maxL) (ret := some (.object nm)) hy hw ?_
  intro p e s m args below meth c s₁ B hml hv
  obtain ⟨rfl, hsz, hP, hK, hD0, hN⟩ := hv
  subst hsz
  rw [lg_entry_eq]
  exact body p e s m below meth c _ _ B.exec B.bytes B.returns hml (findClass_of_methodNamed B.named) B.notSynchronized (name_of_methodNamed B.named B.method).1 (fun w h => atoms_spec (ws := ws) B.pre w (by rw [hw]; exact List.mem_cons_of_mem _ h)) hK hN hP (hD0.self (sz := s.heap.size)) (fun q h => Or.inr h) va_S.rf (lv_entry av (n := maxL) hle)
