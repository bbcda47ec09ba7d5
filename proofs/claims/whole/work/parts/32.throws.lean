/-! throws: a method that ends with a thrown object -/
theorem th_rebase {p : Program} {l : Launch} {e : Env} {R : Room} {s : State} {m : MethodId} {args : Array Value} {below : List Frame} {meth : Method} {c : Code} {T : State} {locs : List Loc} {cells slots : Nat} (X : Stand p l e R s m args below meth c T locs cells slots) (hc : cells ≤ R.cells) (hs : slots ≤ R.slots) :
    Stand p l e { frames := R.frames, cells := R.cells - cells, slots := R.slots - slots, locals := R.locals } (T.setFrames (.invoking m args :: below)) m args below meth c T [] 0 0 := by
  obtain ⟨g₀, hfr⟩ := X.frames_eq
  obtain ⟨th, hth, -⟩ := State.frames_cons hfr
  have hcur : T.cur < T.threads.size := State.cur_lt_of_frames hfr
  have hF : (T.setFrames (.invoking m args :: below)).frames = .invoking m args :: below := State.frames_setFrames _ hcur
  have hlu : (T.setFrames (.invoking m args :: below)).localsInUse = s.localsInUse := by
    rw [State.localsInUse_invoking hF (show (T.setFrames (.invoking m args :: below)).vm.method? m = some meth from X.method') X.code, State.localsInUse_invoking X.frames X.method X.code]
  have hsb : (T.setFrames (.invoking m args :: below)).me.stackBytes = s.me.stackBytes := by rw [State.stackBytes_setFrames]; exact X.bytes
  have hlim : e.platform.stackLimits (T.setFrames (.invoking m args :: below)).me = e.platform.stackLimits s.me := by
    show e.platform.limitsFor (T.setFrames (.invoking m args :: below)).me.stackBytes = e.platform.limitsFor s.me.stackBytes
    rw [hsb]
  refine ⟨X.admits, X.cas, X.clock, hF, ?_, ?_, X.method', X.code, X.here, X.tail, State.WarmedH.refl _, ?_, ?_, ?_⟩
  · have h := X.room
    have hb : T.slotsTrue = true := X.book
    have h1 := X.heapSize
    have h2 := X.used
    simp only [State.hasRoom, Bool.and_eq_true, decide_eq_true_eq] at h ⊢
    rw [hlu, hlim, hF, hsb]
    rw [X.frames] at h
    refine ⟨⟨⟨⟨h.1.1.1.1, h.1.1.1.2⟩, ?_⟩, ?_⟩, hb⟩
    · show T.heap.size + (R.cells - cells) ≤ _
      have := h.1.1.2
      omega
    · show T.slotsUsed + (R.slots - slots) ≤ _
      have := h.1.2
      omega
  · have h := X.hears
    have hal := X.warmed.alike
    cases below with
    | nil =>
      simp only [State.hears] at h ⊢
      rw [show (T.setFrames (.invoking m args :: [])).vm.method? m = s.vm.method? m from hal.method? m]
      exact h
    | cons f r =>
      have e1 : ∀ x : MethodId, (T.setFrames (.invoking m args :: f :: r)).code? x = s.code? x := fun x => by
        rw [State.code?_eq, State.code?_eq]
        rw [show (T.setFrames (.invoking m args :: f :: r)).vm.method? x = s.vm.method? x from hal.method? x]
      have e2 : (T.setFrames (.invoking m args :: f :: r)).vm.method? m = s.vm.method? m := hal.method? m
      cases f <;> simp only [State.hears] at h ⊢ <;> first | exact h | (rw [e1]; exact h) | (rw [e2]; exact h)
  · rw [hlim]; exact X.limits
  · rw [hsb]; exact X.bytes
  · have e0 : T = T.setFrames T.frames := (State.setFrames_self hth).symm
    refine ⟨?_, Nat.le_refl _, Nat.le_refl _, ?_, ?_, fun a c h => ⟨c, h, rfl, rfl, fun _ _ => rfl⟩⟩
    · show T = { (T.setFrames (.invoking m args :: below)).setFrames T.frames with heap := T.heap, slotsUsed := T.slotsUsed }
      rw [State.setFrames_setFrames, ← e0]
    · show T.slotsUsed = T.slotsUsed + ((T.heap.toList.drop T.heap.size).map (·.slots.size)).sum
      rw [List.drop_eq_nil_of_le (by simp)]; rfl
    · show ((T.heap.toList.drop T.heap.size).map (·.slots.size)).sum ≤ 0
      rw [List.drop_eq_nil_of_le (by simp)]; exact Nat.le_refl _
/-- how a method that threw leaves the state -/
def FrT (st t : State) (L : List Loc) (k n : Nat) : Prop := st.WarmedH t.vm ∧ st.sameButNew ({ t with vm := st.vm } : State) L k n
def MT (below : List Frame) (Qc : Array Value → State → Outcome → State → Prop) (a : Array Value) (s : State) (mc ms : Nat) (free : Addr → Prop) : State → Prop := fun t =>
  ∃ o, t.status = .running ∧ Ended t below o ∧ Qc a s o t ∧ ∃ L, FrT s t L mc ms ∧ ∀ q ∈ L, free q.base
def Thr (l : Launch) (y : MethodName) (ws : List Cond) (rm : Room) (Pc : Array Value → State → Prop) (Qc : Array Value → State → Outcome → State → Prop) (mc ms : Nat) (free : Addr → Prop) : Prop :=
  MetFree l y (headSpec ws rm) Pc (fun _ _ _ _ _ => True) (fun a st o t => Qc a st o t ∧ ∃ L, FrT st t L mc ms ∧ ∀ q ∈ L, free q.base)
theorem Thr.ofW {l : Launch} {y : MethodName} {ws ws' : List Cond} {rm : Room} {Pc : Array Value → State → Prop} {Qc : Array Value → State → Outcome → State → Prop} {mc ms : Nat} {free : Addr → Prop} {cc : ByteArray} {maxL : Nat} {ret : Option FieldType}
    (hy : plainName y.cls = true) (hw : ws = Cond.code y cc maxL ret :: ws')
    (body : ∀ p e s m args below meth c s₁, BodyLoose p l y (headSpec ws rm) cc maxL ret e s m args below meth c s₁ → c.maxLocals = maxL → c.exceptionTable.isEmpty = true → Pc args s →
      W p l e (headSpec ws rm).room s m args below meth c s.heap [] 0 0 (MT below Qc args s mc ms free) (entryFrame m args maxL)) : Thr l y ws rm Pc Qc mc ms free := by
  refine MetFree.of_bodyS (code := cc) (maxLocals := maxL) (ret := ret) hy ?_ ?_
  · intro args s m h hn
    obtain ⟨meth, c, h1, h2, h3, h4, h5, h6, -, -⟩ := Cond.code_spec hn (atoms_spec (ws := ws) h _ (by rw [hw]; exact List.mem_cons_self))
    exact ⟨meth, c, h1, h2, h3, h4, h5, h6⟩
  · intro p e s m args below meth c s₁ B hml hP _
    have hh0 : s₁.heap = s.heap := by rw [B.state]; rfl
    obtain ⟨meth', c', h1, h2, -, -, -, -, hx, -⟩ := Cond.code_spec B.named (atoms_spec (ws := ws) B.pre _ (by rw [hw]; exact List.mem_cons_self))
    cases B.method.symm.trans h1
    cases (Stand.of_body B).code.symm.trans h2
    obtain ⟨t, a1, o, b1, b2, b3⟩ := body p e s m args below meth c s₁ B hml hx hP s₁ hh0 (Stand.of_body B)
    exact ⟨t, o, a1, b1, b2, ⟨b3.1, b3.2⟩⟩
section THB
variable {l : Launch} {R : Room} {p : Program} {e : Env} {below : List Frame} {s : State} {sargs : Array Value} {y : MethodName} {len Wt : Nat}
/-- a callee that throws: the caller stands again, the note of the throw over its frame -/
theorem th_back {ws : List Cond} {rm : Room} {Pc : Array Value → State → Prop} {Qc : Array Value → State → Outcome → State → Prop} {mc ms : Nat} {free : Addr → Prop} {bytes : ByteArray} {maxL : Nat} {ret : Option FieldType} {m : MethodId} {meth : Method} {c : Code} {U : State} {Ls : List Loc} {c0 s0 : Nat} {g : JFrame} {ig : Instr} {mk : MethodId} {a : Array Value}
    (hM : Thr l y ws rm Pc Qc mc ms free) (hblind : FrameBlind Pc) (hrc : rm.cells = mc) (hrs : rm.slots = ms)
    (hframes : rm.frames + 1 ≤ R.frames) (hlocals : Wt + (maxL + 11) + rm.locals ≤ R.locals)
    (hws : ∀ w ∈ ws, ∀ a' U, s.WarmedH U.vm → w.before a' U = true) (hcode : Cond.code y bytes maxL ret ∈ ws) (hinit : ∀ a' U, s.WarmedH U.vm → (Cond.initialized y.cls).before a' U = true)
    (hthr : ∀ a st o t, Qc a st o t → ∃ x, o = .threw x)
    (X : Stand p l e R s m sargs below meth c U Ls c0 s0) (hg : g.method = m) (hsize : g.locals.size = c.maxLocals) (hdg : decode c.code g.pc = .ok (ig, len)) (hW : 2 * g.monitorRoom + (g.stack.map fun v => v.category).sum ≤ Wt) (hn : U.methodNamed? y = some mk)
    (hc : c0 + mc ≤ R.cells) (hs : s0 + ms ≤ R.slots) (hP : Pc a U) :
    ∃ (x : Addr) (t T' : State) (L : List Loc), Stand p l e R s m sargs below meth c T' (Ls ++ L) (c0 + mc) (s0 + ms) ∧ T'.heap = t.heap ∧ T'.vm = t.vm ∧ Qc a (U.calling g mk a) (.threw x) t ∧ (∀ q ∈ L, free q.base) ∧
      Steps p.tables e below (doInvoke e (U.setTop g) [] mk a).1 ((T'.setTop g).pushFrame (.throwing x)) := by
  obtain ⟨methY, cY, hmY, hcY, -, hlY, -, -, -, -⟩ := Cond.code_spec hn (hws _ hcode a U X.warmed)
  obtain ⟨kY, hkY, -⟩ := className_of_methodNamed hn
  have hinitY : kY.init = .initialized := Cond.initialized_spec (findClass_of_methodNamed hn) hkY (hinit a U X.warmed)
  have h : At U g.method c below := by rw [hg]; exact X.here
  have happ : (headSpec ws rm).appliesLoose y e.platform (U.calling g mk a) = true :=
    Spec.appliesLoose_calling (g := g) h hdg hn hkY hinitY
      (X.room_calling (g := g) (R' := (headSpec ws rm).room) hsize hmY hcY hframes (by rw [hlY]; show _ + rm.locals ≤ _; omega) (by rw [show (headSpec ws rm).room.cells = mc from hrc]; exact hc) (by rw [show (headSpec ws rm).room.slots = ms from hrs]; exact hs)) (atoms_intro fun w hw => hws w hw _ _ X.warmed)
  obtain ⟨mid, hmid⟩ := h.above
  have hfr : (U.setTop g).frames = (.java g :: mid) ++ below := by rw [State.frames_setTop' g h.top, hmid]; rfl
  obtain ⟨o, s₂, hsteps, -, hend, hq⟩ := Steps.callFree hM p X.admits X.cas X.clock (acts := []) hfr happ (hblind _ _ _ _ hP) trivial
  have hq' : Qc a (U.calling g mk a) o s₂ ∧ ∃ L, FrT (U.calling g mk a) s₂ L mc ms ∧ ∀ q ∈ L, free q.base := hq
  rw [State.frames_setTop' g h.top, X.tail] at hend
  obtain ⟨hq1, L, ⟨hW1, hsame⟩, hL⟩ := hq'
  obtain ⟨x, rfl⟩ := hthr _ _ _ _ hq1
  obtain ⟨T', X', hW2, hsm, ht⟩ := X.outOfThrown hg hend hW1 hsame
  have e1 : T'.heap = s₂.heap := by rw [ht]; exact (Stand.throwing_heap T' g x).symm
  have e2 : T'.vm = s₂.vm := by rw [ht]; exact (Stand.throwing_vm T' g x).symm
  exact ⟨x, s₂, T', L, X', e1, e2, hq1, hL, by rw [← ht]; exact hsteps⟩
end THB
def x_iob : String := "java/lang/IndexOutOfBoundsException"
def x_iae : String := "java/lang/IllegalArgumentException"
def x_ise : String := "java/lang/IllegalStateException"
def x_rte : String := "java/lang/RuntimeException"
def x_exn : String := "java/lang/Exception"
def thW : List Cond := [.castable x_iob x_iob, .castable x_iae x_iae, .castable x_ise x_ise, .declares (Bundle.initS x_rte), .declares (Bundle.initS x_exn), .declares (Bundle.initS Bundle.tN)]
def tZ (n d : String) (U : State) : Prop := (Cond.laysStatic Bundle.tN n d).before #[] U = true ∧ (Cond.isRef (.static Bundle.tN n d)).before #[] U = true
def thTx : List (Nat × String) := [(207, "no such fact"), (209, "below is not 1 .. 10000"), (213, "above is not -1000000 .. 1000000"), (107, "no such line"), (112, "no such part of a line"), (215, "the day is not 0 .. 10000"), (133, "the day is not behind the one before"), (139, "above or below is not 1 .. 1000"), (146, "there are 8 currency rows"), (157, "there are 8 offers"), (159, "a line is open"), (217, "no such offer"), (222, "the day is behind the offer's last one"), (175, "there are 8 invoices"), (177, "the invoice would be below 0"), (224, "no such invoice"), (188, "cents are below 0"), (194, "no such kind"), (197, "minutes are not 0 .. 100000")]
def TfS (U : State) : Prop := (∀ w ∈ thW, w.before #[] U = true) ∧ tZ "UNASSIGNED_STACK" Bundle.steD U ∧ tZ "SUPPRESSED_SENTINEL" Bundle.listD U ∧ ∀ q ∈ thTx, ∃ a : Nat, vk_R "PriceLines" q.1 q.2 a U
theorem thW_ok : ∀ w ∈ thW, w.onTables = true ∧ w.keepsFace = true := by decide +kernel
theorem th_tab {w : Cond} {s U : State} {a a' : Array Value} (h1 : w.onTables = true) (h2 : w.keepsFace = true) (hW : s.WarmedH U.vm) (h : w.before a s = true) : w.before a' U = true := by
  have h3 : w.before a (s.setVm U.vm) = true := Cond.before_shiftedFace (State.Shifted.of_warmed hW) w h2 h
  have e := Cond.onTables_vm (A := a) (A' := a') (U := s) (U' := U) U.vm w h1
  rw [e] at h3
  exact h3
theorem tZ.kept {n d : String} {U V : State} (hvm : U.vm.Alike V.vm) (hq : ∀ (a : Nat) (cell : Cell), U.heap[a]? = some cell → cell.vm.isStatics = true → V.heap[a]? = some cell) (h : tZ n d U) : tZ n d V := by
  obtain ⟨h1, h2⟩ := h
  obtain ⟨c, k, i, f, a, cell, hc, hi, hst, ha, hcell, hs, hcls, hlt, hty⟩ := Cond.laysStatic_spec h1
  obtain ⟨k', hi', he⟩ := State.fieldFound?_setVm hvm hi
  have hi2 : V.fieldFound? Bundle.tN n d = some (c, k', i, f) := hi'
  have hc2 : V.vm.findClass Bundle.tN = some c := by rw [hvm.findClass]; exact hc
  have ha2 : k'.statics = some a := by rw [he]; exact ha
  have hcell2 := hq a cell hcell hs
  have hty2 : k'.staticTypes[f.slot]? = some f.type := by rw [he]; exact hty
  refine ⟨?_, ?_⟩
  · simp [Cond.before, Cond.holds, Cond.value, hc2, hi2, hst, ha2, hcell2, hs, hcls, hlt, hty2]
  · simp only [Cond.before, Cond.holds, Cond.value] at h2 ⊢
    have ev : ∀ (W : State) (kk : Class), W.fieldFound? Bundle.tN n d = some (c, kk, i, f) → kk.statics = some a → W.heap[a]? = some cell → (Term.static Bundle.tN n d).eval #[] W none [] W = cell.slots[f.slot]? := by
      intro W kk g1 g2 g3
      simp [Term.eval, State.fieldNamed?, g1, hst, g2, g3, hs]
    rw [ev U k hi ha hcell] at h2
    rw [ev V k' hi2 ha2 hcell2]
    exact h2
theorem TfS.move {U V : State} (hW : U.WarmedH V.vm) (hq : ∀ (a : Nat) (cell : Cell), U.heap[a]? = some cell → cell.vm.isStatics = true → V.heap[a]? = some cell) (h : TfS U) : TfS V := by
  obtain ⟨h1, h2, h3, h4⟩ := h
  refine ⟨fun w hw => th_tab (thW_ok w hw).1 (thW_ok w hw).2 hW (h1 w hw), h2.kept hW.alike hq, h3.kept hW.alike hq, fun q h => ?_⟩
  obtain ⟨a, ha⟩ := h4 q h
  exact ⟨a, ha.warm hW⟩
def pT (D : va_G) (ta : Nat → ClassId) (w0 : va_W) (sz : Nat) : State → Prop := fun U => pW D ta w0 sz U ∧ TfS U
theorem pT_blind {av : List Value} {D : va_G} {ta : Nat → ClassId} {w0 : va_W} {sz : Nat} : FrameBlind (va_Pc av (pT D ta w0 sz)) := fun a U g mk q => by
  obtain ⟨q0, q1, q2⟩ := q
  obtain ⟨r0, r1⟩ := pW_blind (av := av) (D := D) (ta := ta) (w0 := w0) (sz := sz) a U g mk ⟨q0, q1⟩
  exact ⟨r0, r1, TfS.move (U := U) (V := U.calling g mk a) (State.WarmedH.refl U) (fun _ _ h _ => h) q2⟩
def xT (D : va_G) (ta : Nat → ClassId) (A : Nat → Prop) (E : String) (w1 : va_W) : Array Value → State → Outcome → State → Prop := fun _ st oc t => ∃ (x : Addr) (cell : Cell), oc = .threw x ∧ st.heap.size ≤ x ∧ t.heap[x]? = some cell ∧ cell.vm.isStatics = false ∧ t.vm.findClass E = some cell.cls ∧ qA D ta A w1 t ∧ va_F A st t
def noSt (A : Nat → Prop) (s : State) : Prop := ∀ (a : Nat) (cell : Cell), s.heap[a]? = some cell → cell.vm.isStatics = true → ¬ A a
theorem noSt_of {D : va_G} {w0 : va_W} {s : State} (hP : va_P D vwCl w0 s.heap) : noSt (va_A w0 s.heap.size) s := by
  intro a cell hc hs hA
  rcases hA with ⟨k, e, h⟩ | h
  · have := hP k _ h
    cases e with
    | inl z =>
      have h2 : s.heap[a]? = some (vp_cell z.1 z.2) := this
      cases hc.symm.trans h2
      rw [show (vp_cell z.1 z.2).vm.isStatics = false by rcases z with ⟨z1, z2, (f | f | f | f | f)⟩ <;> rfl] at hs
      cases hs
    | inr o =>
      obtain ⟨r, h1, cell2, g1, g2, g3, -⟩ := this
      cases hc.symm.trans g1
      rw [g3] at hs
      cases hs
  · have := (Array.getElem?_eq_some_iff.mp hc).1
    omega
section KTH
variable {p : Program} {l : Launch} {e : Env} {R : Room} {s : State} {m : MethodId} {args : Array Value} {below : List Frame} {meth : Method} {c : Code} {H : Heap} {locs : List Loc} {cells slots : Nat} {Q : State → Prop} {cc bytes : ByteArray} {pc nL maxL n index : Nat} {ls : Array Slot} {rest st0 As : List Value} {D : va_G} {ta : Nat → ClassId} {A : Nat → Prop} {ws wc w1 w2 : va_W} {y : MethodName} {wsy Ts : List Cond} {rm : Room} {own C host E : String} {ret : Option FieldType} {b : Addr}
theorem TfS.at {U : State} (hT : TfS s) (hZ : noSt A s) (hS : va_S A s.heap H locs) (hU : U.heap = H) (hW : s.WarmedH U.vm) : TfS U := hT.move hW fun a cell h1 h2 => by
  rw [hU, hS.2.1 a (Array.getElem?_eq_some_iff.mp h1).1 (hZ a cell h1 h2)]; exact h1
theorem pT_S {av : List Value} (hK : va_K D vwCl (tyL ta) s) (hN : NwS s) (hT : TfS s) (hZ : noSt A s) (hS : va_S A s.heap H locs) (hP : va_P D vwCl wc H) (hD : va_D A wc) : PreS s H (va_Pc av (pT D ta wc H.size)) av := ⟨pT_blind, fun U hU hW => ⟨((pW_S (av := av) hK hN hP hD).2 U hU hW).1, ((pW_S (av := av) hK hN hP hD).2 U hU hW).2, hT.at hZ hS hU hW⟩⟩
theorem pT_V {q0 ci : Nat} {fs : List Value} {q : vw_C} (hK : va_K D vwCl (tyL ta) s) (hN : NwS s) (hT : TfS s) (hZ : noSt A s) (hS : va_S A s.heap H locs) (hP : va_P D vwCl wc H) (hD : va_D A wc) (he : wc[q0]? = some (b, .inr (ci, fs))) (hc : vwCl[ci]? = some q) : PreV s H q.1 b (va_Pc (.ref b :: As) (pT D ta wc H.size)) As := ⟨pT_blind, va_recv hK hP hc he, fun U hU hW => ⟨((pW_V (As := As) hK hN hP hD he hc).2.2 U hU hW).1, ((pW_V (As := As) hK hN hP hD he hc).2.2 U hU hW).2, hT.at hZ hS hU hW⟩⟩
/-- a call that throws -/
def th_Run (p : Program) (l : Launch) (e : Env) (R : Room) (s : State) (m : MethodId) (args : Array Value) (below : List Frame) (meth : Method) (c : Code) (H : Heap) (locs : List Loc) (cells slots mc ms : Nat) (g : JFrame) (rest : List Value) (Qa : State → Outcome → State → Prop) (free : Addr → Prop) : Prop :=
  ∀ T : State, T.heap = H → Stand p l e R s m args below meth c T locs cells slots → ∃ (x : Addr) (st₀ t T' : State) (L : List Loc), st₀.heap = H ∧ Stand p l e R s m args below meth c T' (locs ++ L) (cells + mc) (slots + ms) ∧ (∀ q ∈ L, free q.base) ∧ T'.heap = t.heap ∧ T'.vm = t.vm ∧ Qa st₀ (.threw x) t ∧
    ∀ tg, Steps p.tables e below ((T'.setTop { g with stack := rest }).pushFrame (.throwing x)) tg → Steps p.tables e below (T.setTop g) tg
variable {Pc : Array Value → State → Prop} {Qc : Array Value → State → Outcome → State → Prop} {mc ms : Nat} {free : Addr → Prop} {g : JFrame}
theorem th_runV (S : CallFix p m c cc nL s args Ts own) (hM : Thr l y wsy rm Pc Qc mc ms free) (hthr : ∀ a st o t, Qc a st o t → ∃ x, o = .threw x) (cw : CallW R s args own C index y bytes maxL ret wsy rm mc ms n) (hp : PreV s H C b Pc As)
    (hg : g.method = m) (hn : As.length = n) (hsize : g.locals.size = nL) (hstack : g.stack = As.reverse ++ .ref b :: rest) (hW : 2 * g.monitorRoom + (rest.map fun v => v.category).sum ≤ 8) (hdg : decode cc g.pc = .ok (.invokevirtual index, 3)) (hf : cells + mc ≤ R.cells ∧ slots + ms ≤ R.slots) :
    th_Run p l e R s m args below meth c H locs cells slots mc ms g rest (Qc (Value.ref b :: As).toArray) free := by
  obtain ⟨⟨hrc, hrs, hfr, hlo, hws, hcw, hcode, hini, hy, hlen, hl⟩, hin, hse⟩ := cw
  obtain ⟨hx, hb, hml, ho, -⟩ := S
  obtain ⟨hbl, ⟨cellB, hcB, hoB, hclB⟩, hPc⟩ := hp
  intro T hT X
  obtain ⟨mk, methM, hnamed, hmethM, hstM, habM⟩ := Cond.instanceMethod_spec hin
  obtain ⟨methM', cM, hmethM', -, -, -, -, -, -, hsigM⟩ := Cond.code_spec hnamed hcode
  cases hmethM.symm.trans hmethM'
  obtain ⟨c2, r2, m2, q1, q2, q3, q4, kP, hkP, hkPi⟩ := Cond.selects_spec hse
  cases hclB.symm.trans q1
  cases (State.methodFound?_of_named hnamed hy).symm.trans q2
  cases hnamed.symm.trans q3
  have hselP : selectMethod e.platform s.vm cellB.cls mk = .method mk := by rw [Launch.admits_selectMethod X.admits]; exact q4
  obtain ⟨vm₁, X₁, hstep₁⟩ := X.invokevirtual hx ho hl hnamed hmethM hstM hkP hkPi hy (a := b) (cell := cellB) (by rw [hT]; exact hcB)
    (fun z h => by rw [h] at hoB; cases hoB) hselP hmethM habM hkP hkPi (g := g) hg (argsL := As) (rest := rest) (hn.trans (hlen _ hsigM)) hstack (by rw [hb]; exact hdg)
  obtain ⟨x, t, T', L, X', e1, e2, hq, hL, hsteps⟩ := th_back (g := { g with stack := rest }) (ig := .invokevirtual index) (len := 3) (Wt := 8) (mk := mk) (a := (Value.ref b :: As).toArray) hM hbl hrc hrs hfr hlo hws hcw (fun a' U hW => word_at hW (Or.inl (by first | rfl | simp [Cond.onTables, Cond.keeps, Cond.steady])) hini) hthr X₁ hg (hsize.trans hml.symm) (by rw [hb]; exact hdg) hW (X₁.named hnamed) hf.1 hf.2 (hPc (T.setVm vm₁) hT X₁.warmed)
  exact ⟨x, (T.setVm vm₁).calling { g with stack := rest } mk (Value.ref b :: As).toArray, t, T', L, hT, X', hL, e1, e2, hq, fun tg h => hstep₁ _ fun acts => by rw [doInvoke_state]; exact hsteps.trans h⟩
theorem th_runS (S : CallFix p m c cc nL s args Ts own) (hM : Thr l y wsy rm Pc Qc mc ms free) (hthr : ∀ a st o t, Qc a st o t → ∃ x, o = .threw x) (cw : CallB R s args own index y bytes maxL ret wsy rm mc ms n ∧ (Cond.static y).before args s = true) (hp : PreS s H Pc As)
    (hg : g.method = m) (hn : As.length = n) (hsize : g.locals.size = nL) (hstack : g.stack = As.reverse ++ rest) (hW : 2 * g.monitorRoom + (rest.map fun v => v.category).sum ≤ 8) (hdg : decode cc g.pc = .ok (.invokestatic index, 3)) (hf : cells + mc ≤ R.cells ∧ slots + ms ≤ R.slots) :
    th_Run p l e R s m args below meth c H locs cells slots mc ms g rest (Qc As.toArray) free := by
  obtain ⟨⟨hrc, hrs, hfr, hlo, hws, hcw, hcode, hini, hy, hlen, hl⟩, hstt⟩ := cw
  obtain ⟨hx, hb, hml, ho, -⟩ := S
  intro T hT X
  obtain ⟨mk, hnamed⟩ := Cond.code_named hcode
  obtain ⟨methM, cM, hmethM, -, -, -, -, -, -, hsigM⟩ := Cond.code_spec hnamed hcode
  have hstatic : methM.isStatic = true := Cond.static_spec hnamed hmethM hstt
  obtain ⟨kP, hkP, -⟩ := className_of_methodNamed hnamed
  have hinitP : kP.init = .initialized := Cond.initialized_spec (findClass_of_methodNamed hnamed) hkP hini
  obtain ⟨vm₁, X₁, hstep₁⟩ := X.invokestatic hx ho hl hnamed hmethM hstatic hkP hinitP hy (g := g) hg (argsL := As) (rest := rest) (hn.trans (hlen _ hsigM)) hstack (by rw [hb]; exact hdg)
  obtain ⟨x, t, T', L, X', e1, e2, hq, hL, hsteps⟩ := th_back (g := { g with stack := rest }) (ig := .invokestatic index) (len := 3) (Wt := 8) (mk := mk) (a := As.toArray) hM hp.1 hrc hrs hfr hlo hws hcw (fun a' U hW => word_at hW (Or.inl (by first | rfl | simp [Cond.onTables, Cond.keeps, Cond.steady])) hini) hthr X₁ hg (hsize.trans hml.symm) (by rw [hb]; exact hdg) hW (X₁.named hnamed) hf.1 hf.2 (hp.2 (T.setVm vm₁) hT X₁.warmed)
  exact ⟨x, (T.setVm vm₁).calling { g with stack := rest } mk As.toArray, t, T', L, hT, X', hL, e1, e2, hq, fun tg h => hstep₁ _ fun acts => by rw [doInvoke_state]; exact hsteps.trans h⟩
end KTH
section KTL
variable {p : Program} {l : Launch} {e : Env} {R : Room} {s : State} {m : MethodId} {args : Array Value} {below : List Frame} {meth : Method} {c : Code} {H : Heap} {locs : List Loc} {cells slots : Nat} {Q : State → Prop} {cc bytes : ByteArray} {pc nL maxL n index : Nat} {ls : Array Slot} {rest st0 As : List Value} {D : va_G} {ta : Nat → ClassId} {A : Nat → Prop} {ws wc w1 w2 : va_W} {y : MethodName} {wsy Ts : List Cond} {rm : Room} {own C host E : String} {ret : Option FieldType} {b : Addr}
theorem xT_thr {a : Array Value} {st : State} {o : Outcome} {t : State} (h : xT D ta A E w1 a st o t) : ∃ x, o = .threw x := by
  obtain ⟨x, -, h, -⟩ := h
  exact ⟨x, h⟩
/-- what a call that threw leaves: the caller's world, the thrown cell -/
theorem aft_t {a9 : Array Value} (hr : th_Run p l e R s m args below meth c H locs cells slots 1 6 (F0 m pc ls st0) rest (xT D ta (va_A wc H.size) E w1 a9) (va_A wc H.size)) (hP : va_P D vwCl ws H) (hD : va_D A ws) (hS : va_S A s.heap H locs) (hA : ∀ q, s.heap.size ≤ q → A q) (sp : Spl ws wc w1 w2)
    (kk : ∀ (T' : State) (locs1 : List Loc) (x : Addr) (cell : Cell), Stand p l e R s m args below meth c T' locs1 (cells + 1) (slots + 6) → va_P D vwCl w2 T'.heap → va_D A w2 → va_S A s.heap T'.heap locs1 → s.heap.size ≤ x → T'.heap[x]? = some cell → cell.vm.isStatics = false → s.vm.findClass E = some cell.cls → ∃ t, Steps p.tables e below ((T'.setTop (F0 m pc ls rest)).pushFrame (.throwing x)) t ∧ Q t) : W p l e R s m args below meth c H locs cells slots Q (F0 m pc ls st0) := by
  intro T hT X
  obtain ⟨hPc, hDc, hj⟩ := sp D A H hP hD
  have hFc := aN hDc hS hA
  obtain ⟨x, st₀, t, T', L, h0, X', hL, e1, e2, hq, st⟩ := hr T hT X
  obtain ⟨x', cell, hx, hnew, hcell, hobj, hcls, ⟨hP1, hK1, hD1⟩, hz, hk⟩ := hq
  cases hx
  rw [h0] at hz hk hnew
  rw [← e1] at hP1 hcell hz hk
  obtain ⟨hP2, hD2⟩ := hj T'.heap hk hFc hP1 hD1
  have hS1 : va_S A s.heap T'.heap (locs ++ L) := ⟨Nat.le_trans hS.1 hz, fun q h1 h2 => by rw [hk q (Nat.lt_of_lt_of_le h1 hS.1) (fun z => h2 (hFc q z))]; exact hS.2.1 q h1 h2, fun q hq => by
    rcases List.mem_append.mp hq with h | h
    · exact hS.2.2 q h
    · exact hFc _ (hL q h)⟩
  obtain ⟨t2, a1, b1⟩ := kk T' (locs ++ L) x cell X' hP2 hD2 hS1 (Nat.le_trans hS.1 hnew) hcell hobj (by rw [← X'.warmed.alike.findClass, e2]; exact hcls)
  exact ⟨t2, st t2 a1, b1⟩
theorem noTab {pc : Nat} (hx : c.exceptionTable.isEmpty = true) : ∀ x ∈ c.exceptionTable.toList, covers x pc = false := by
  intro x h
  rw [Array.isEmpty_iff] at hx
  rw [hx] at h
  cases h
/-- .. and nobody here catches it -/
theorem pass_t {a9 : Array Value} (hr : th_Run p l e R s m args below meth c H locs cells slots 1 6 (F0 m pc ls st0) rest (xT D ta (va_A wc H.size) E w1 a9) (va_A wc H.size)) (hK : va_K D vwCl (tyL ta) s) (hx : c.exceptionTable.isEmpty = true) (hlocks : meth.locks = false) (hP : va_P D vwCl ws H) (hD : va_D A ws) (hS : va_S A s.heap H locs) (hA : ∀ q, s.heap.size ≤ q → A q) (sp : Spl ws wc w1 w2) : W p l e R s m args below meth c H locs cells slots (MT below (xT D ta A E w2) args s (cells + 1) (slots + 6) A) (F0 m pc ls st0) := by
  refine aft_t hr hP hD hS hA sp fun T' locs1 x cell X' hP2 hD2 hS1 hnew hcell hobj hcls => ?_
  obtain ⟨hsteps, hrun, hend, hW, hsame⟩ := X'.leaveThrown x (g := F0 m pc ls rest) rfl rfl rfl (noTab hx) hlocks
  refine ⟨_, hsteps, _, hrun, hend, ⟨x, cell, rfl, hnew, hcell, hobj, ?_, ⟨hP2, va_K.moved hW.alike hK, hD2⟩, hS1.1, hS1.2.1⟩, locs1, ⟨hW, hsame⟩, hS1.2.2⟩
  rw [hW.alike.findClass]; exact hcls
theorem kV_t {q0 ci : Nat} {fs : List Value} {q : vw_C} (S : CallFix p m c cc nL s args TB own) (hM : ∀ sz, Thr l y wsy rm (va_Pc (.ref b :: As) (pT D ta wc sz)) (xT D ta (va_A wc sz) E w1) 1 6 (va_A wc sz)) (h1 : Cond.methodLink own index y ∈ TB) (h2 : Cond.instanceMethod y ∈ TB) (h3 : Cond.selects C y y ∈ TB) (h4 : Cond.initialized C ∈ TB) (h5 : Cond.code y bytes maxL ret ∈ TB) (hwy : wsy = Cond.code y bytes maxL ret :: TB) (hrc : rm.cells = 1) (hrs : rm.slots = 6) (hd : y.cls = C ∧ y.cls ≠ "java/lang/invoke/MethodHandle" ∧ y.cls ≠ "java/lang/invoke/VarHandle" ∧ (parseMethodDescriptor y.desc).map (fun d => d.parameters.length) = some n) (hR : rm.frames + 1 ≤ R.frames ∧ 8 + (maxL + 11) + rm.locals ≤ R.locals) (hK : va_K D vwCl (tyL ta) s) (hN : NwS s) (hT : TfS s) (hZ : noSt A s) (hP : va_P D vwCl ws H) (hD : va_D A ws) (hS : va_S A s.heap H locs) (hA : ∀ q, s.heap.size ≤ q → A q) (sp : Spl ws wc w1 w2) (he : wc[q0]? = some (b, .inr (ci, fs))) (hc : vwCl[ci]? = some q) (hCq : q.1 = C) (hn : As.length = n) (hsize : ls.size = nL) (hstack : st0 = As.reverse ++ .ref b :: rest) (hW : (rest.map fun v => v.category).sum ≤ 8) (hf : cells + 1 ≤ R.cells ∧ slots + 6 ≤ R.slots) (hdg : decode cc pc = .ok (.invokevirtual index, 3)) : th_Run p l e R s m args below meth c H locs cells slots 1 6 (F0 m pc ls st0) rest (xT D ta (va_A wc H.size) E w1 (Value.ref b :: As).toArray) (va_A wc H.size) := by
  obtain ⟨hPc, hDc, hj⟩ := sp D A H hP hD
  subst hCq
  exact th_runV (g := F0 m pc ls st0) S (hM H.size) (fun _ _ _ _ h => xT_thr h) (cwV n S.2.2.2.2 (hwy ▸ gdV h1 h2 h3 h4 h5) hwy hrc hrs hd hR) (pT_V hK hN hT hZ hS hPc hDc he hc) rfl hn hsize hstack (lv_room hW) hdg hf
theorem kS_t (S : CallFix p m c cc nL s args TB own) (hM : ∀ sz, Thr l y wsy rm (va_Pc As (pT D ta wc sz)) (xT D ta (va_A wc sz) E w1) 1 6 (va_A wc sz)) (h1 : Cond.methodLink own index y ∈ TB) (h2 : Cond.static y ∈ TB) (h4 : Cond.initialized C ∈ TB) (h5 : Cond.code y bytes maxL ret ∈ TB) (hwy : wsy = Cond.code y bytes maxL ret :: TB) (hrc : rm.cells = 1) (hrs : rm.slots = 6) (hd : y.cls = C ∧ y.cls ≠ "java/lang/invoke/MethodHandle" ∧ y.cls ≠ "java/lang/invoke/VarHandle" ∧ (parseMethodDescriptor y.desc).map (fun d => d.parameters.length) = some n) (hR : rm.frames + 1 ≤ R.frames ∧ 8 + (maxL + 11) + rm.locals ≤ R.locals) (hK : va_K D vwCl (tyL ta) s) (hN : NwS s) (hT : TfS s) (hZ : noSt A s) (hP : va_P D vwCl ws H) (hD : va_D A ws) (hS : va_S A s.heap H locs) (hA : ∀ q, s.heap.size ≤ q → A q) (sp : Spl ws wc w1 w2) (hn : As.length = n) (hsize : ls.size = nL) (hstack : st0 = As.reverse ++ rest) (hW : (rest.map fun v => v.category).sum ≤ 8) (hf : cells + 1 ≤ R.cells ∧ slots + 6 ≤ R.slots) (hdg : decode cc pc = .ok (.invokestatic index, 3)) : th_Run p l e R s m args below meth c H locs cells slots 1 6 (F0 m pc ls st0) rest (xT D ta (va_A wc H.size) E w1 As.toArray) (va_A wc H.size) := by
  obtain ⟨hPc, hDc, hj⟩ := sp D A H hP hD
  exact th_runS (g := F0 m pc ls st0) S (hM H.size) (fun _ _ _ _ h => xT_thr h) (va_cwS n S.2.2.2.2 (hwy ▸ gdS h1 h2 (hd.1.symm ▸ h4) h5) hwy hrc hrs hd.2 hR) (pT_S hK hN hT hZ hS hPc hDc) rfl hn hsize hstack (lv_room hW) hdg hf
theorem th_size {st t : State} {L : List Loc} {k n : Nat} (h : st.sameButNew t L k n) : st.heap.size ≤ t.heap.size := h.2.1
/-- throw new E("..") -/
theorem own_t {ix it ic : Nat} {tx : String} (S : CallFix p m c cc nL s args TB "PriceLines") (hl : l.stackTraces = false) (hfit : Bundle.fit E = true) (hO : ∀ w ∈ Bundle.ownAtoms "PriceLines" ic E [x_rte, x_exn], w ∈ TB ∨ w ∈ thW ∨ w = .laysStatic Bundle.tN "UNASSIGNED_STACK" Bundle.steD ∨ w = .laysStatic Bundle.tN "SUPPRESSED_SENTINEL" Bundle.listD ∨ w = .isRef (.static Bundle.tN "UNASSIGNED_STACK" Bundle.steD) ∨ w = .isRef (.static Bundle.tN "SUPPRESSED_SENTINEL" Bundle.listD))
    (hcl : Cond.classLink "PriceLines" ix E ∈ TB) (hins : Cond.instantiable E 6 ∈ TB) (hini : Cond.initialized E ∈ TB) (htx : (it, tx) ∈ thTx) (hx : c.exceptionTable.isEmpty = true) (hlocks : meth.locks = false) (hK : va_K D vwCl (tyL ta) s) (hT : TfS s) (hZ : noSt A s) (hP : va_P D vwCl ws H) (hD : va_D A ws) (hS : va_S A s.heap H locs) (hA : ∀ q, s.heap.size ≤ q → A q)
    (hsize : ls.size = nL) (hf : cells + 1 ≤ R.cells ∧ slots + 6 ≤ R.slots) (hR : 6 ≤ R.frames ∧ 90 ≤ R.locals)
    (d0 : decode cc pc = .ok (.new ix, 3)) (d1 : decode cc (pc + 3) = .ok (.dup, 1)) (d2 : decode cc (pc + 4) = .ok (.ldc it, 2)) (d3 : decode cc (pc + 6) = .ok (.invokespecial ic, 3)) (d4 : decode cc (pc + 9) = .ok (.athrow, 1)) :
    W p l e R s m args below meth c H locs cells slots (MT below (xT D ta A E ws) args s (cells + 1) (slots + 6) A) (F0 m pc ls []) := by
  intro T hT0 X
  obtain ⟨hex, hb, hml, ho, hts⟩ := S
  have X0 := th_rebase X (Nat.le_of_succ_le hf.1) (Nat.le_trans (Nat.le_add_right _ 6) hf.2)
  have hal := X.warmed.alike
  have hsH : (T.setFrames (.invoking m args :: below)).heap = H := hT0
  have hTf : TfS (T.setFrames (.invoking m args :: below)) := hT.at hZ hS hsH X.warmed
  have hts' : ∀ w ∈ TB, w.before args (T.setFrames (.invoking m args :: below)) = true := fun w hw => word_at (U := T.setFrames (.invoking m args :: below)) X.warmed (gdTB w hw).2 (hts w hw)
  have ho' : (T.setFrames (.invoking m args :: below)).vm.findClass "PriceLines" = some m.cls := by
    show T.vm.findClass _ = _
    rw [hal.findClass]; exact ho
  obtain ⟨qs, hqs⟩ := hTf.2.2.2 _ htx
  obtain ⟨cX, kX0, hcX, hkX0, -⟩ := Cond.instantiable_spec (hts' _ hins)
  have key : W p l e { frames := R.frames, cells := R.cells - cells, slots := R.slots - slots, locals := R.locals } (T.setFrames (.invoking m args :: below)) m args below meth c H [] 0 0 (fun U => U.status = .running ∧ Ended U below (.threw H.size) ∧ (T.setFrames (.invoking m args :: below)).WarmedH U.vm ∧ (T.setFrames (.invoking m args :: below)).sameButNew ({ U with vm := (T.setFrames (.invoking m args :: below)).vm } : State) [] 1 6 ∧ ∃ ce, U.heap[H.size]? = some ce ∧ Bundle.OwnCell args (T.setFrames (.invoking m args :: below)) E H.size (.ref qs) ce) (F0 m pc ls []) := by
    refine W.newcK hex hb ho' (hts' _ hcl) (hts' _ hins) (hts' _ hini) rfl d0 (by show 0 + 1 ≤ R.cells - cells; omega) (by show 0 + 6 ≤ R.slots - slots; omega) hcX rfl fun H1 kC hkC e1 z1 o1 => ?_
    refine lv_dup hex hb d1 rfl ?_
    refine va_ldcS hex hb ho' hqs d2 ?_
    intro T1 hT1 X1
    obtain ⟨U, st, g1, g2, g3, g4, ce, g5, g6⟩ := X1.ctorThrowS hex (by rw [X.admits.platform]; exact hl) (own := "PriceLines") (cls := E) (names := [x_rte, x_exn]) (ic := ic) ho' hfit (by decide +kernel) (fun w hw => by
      rcases hO w hw with h | h | rfl | rfl | rfl | rfl
      · exact hts' w h
      · exact th_tab (thW_ok w h).1 (thW_ok w h).2 (State.WarmedH.refl _) (hTf.1 w h)
      · exact hTf.2.1.1
      · exact hTf.2.2.1.1
      · exact hTf.2.1.2
      · exact hTf.2.2.1.2) (fun x h => by cases h) (a := H.size) hcX hkC (by rw [hT1]; exact e1) (by rw [hsH]; exact Nat.le_refl _) (msg := .ref qs) rfl (g := F0 m (pc + 3 + 1 + 2) ls [.ref qs, .ref H.size, .ref H.size]) rfl (hsize.trans hml.symm) rfl rfl (rest := []) rfl (by rw [hb]; exact d3) (by rw [hb]; exact d4) (noTab hx) (by show 2 + 3 < R.frames; omega) (by show 2 * 0 + (1 + 0) + (13 * (2 + 1) + 42) ≤ R.locals; omega) hlocks
    exact ⟨U, st, g1, g2, g3, g4, ce, g5, g6⟩
  obtain ⟨U, st, g1, g2, g3, g4, ce, g5, g6⟩ := key T hT0 X0
  have hW2 : T.WarmedH U.vm := g3
  have hkept : ∀ q : Nat, q < H.size → U.heap[q]? = H[q]? := by
    intro q hq
    have h1 : (T.setFrames (.invoking m args :: below)).heap[q]? = some H[q] := by rw [hsH]; exact Array.getElem?_eq_getElem hq
    have h2 := State.sameButNew.old_cell g4 h1
    rw [Array.getElem?_eq_getElem hq]
    exact h2
  have hsz : H.size ≤ U.heap.size := by
    have h2 := th_size g4
    rw [hsH] at h2
    exact h2
  have hWU : s.WarmedH U.vm := State.WarmedH.trans X.warmed hW2
  have hsame : s.sameButNew ({ U with vm := s.vm } : State) locs (cells + 1) (slots + 6) := by
    have h1 : T.sameButNew ({ U with vm := T.vm } : State) [] 1 6 := by
      obtain ⟨r1, r2⟩ := g4
      refine ⟨?_, r2⟩
      have r3 : ({ U with vm := T.vm } : State) = { (T.setFrames (.invoking m args :: below)).setFrames U.frames with heap := U.heap, slotsUsed := U.slotsUsed } := r1
      rw [State.setFrames_setFrames] at r3
      exact r3
    have h2 := X.same.trans (h1.setVm s.vm)
    rw [List.append_nil] at h2
    exact h2
  have hP1 : va_P D vwCl ws U.heap := hP.kept fun k q h => hkept q.1 (hP k q h).lt
  refine ⟨U, st, _, g1, g2, ⟨H.size, ce, rfl, hS.1, g5, by rw [g6.vm]; rfl, ?_, ⟨hP1, va_K.moved hWU.alike hK, hD⟩, Nat.le_trans hS.1 hsz, fun q h1 h2 => ?_⟩, locs, ⟨hWU, hsame⟩, hS.2.2⟩
  · rw [hW2.alike.findClass]; exact g6.cls
  · rw [hkept q (Nat.lt_of_lt_of_le h1 hS.1)]; exact hS.2.1 q h1 h2
end KTL
def thX : List Cond := thW ++ [.laysStatic Bundle.tN "UNASSIGNED_STACK" Bundle.steD, .laysStatic Bundle.tN "SUPPRESSED_SENTINEL" Bundle.listD, .isRef (.static Bundle.tN "UNASSIGNED_STACK" Bundle.steD), .isRef (.static Bundle.tN "SUPPRESSED_SENTINEL" Bundle.listD)]
def owT (q : Nat × Nat) : Option Cond := if q.1 = 0 then thX[q.2]? else if q.1 = 1 then tables_1_1[q.2]? else if q.1 = 2 then tables_1_2[q.2]? else tables_1_3[q.2]?
def owOK (q : Nat × Nat) : Bool := decide (q.1 = 0) || ((owT q).any goodWord)
theorem ow_one {q : Nat × Nat} {w : Cond} (h : owT q = some w) (hg : owOK q = true) : w ∈ TB ∨ w ∈ thW ∨ w = .laysStatic Bundle.tN "UNASSIGNED_STACK" Bundle.steD ∨ w = .laysStatic Bundle.tN "SUPPRESSED_SENTINEL" Bundle.listD ∨ w = .isRef (.static Bundle.tN "UNASSIGNED_STACK" Bundle.steD) ∨ w = .isRef (.static Bundle.tN "SUPPRESSED_SENTINEL" Bundle.listD) := by
  by_cases h0 : q.1 = 0
  · rw [owT, if_pos h0] at h
    have hm := List.mem_of_getElem? h
    rcases List.mem_append.mp hm with h1 | h1
    · exact Or.inr (Or.inl h1)
    · simp only [List.mem_cons, List.not_mem_nil, or_false] at h1
      exact Or.inr (Or.inr h1)
  · have hg2 : goodWord w = true := by
      simp only [owOK, h, h0, Option.any_some, decide_false, Bool.false_or] at hg
      exact hg
    left
    rw [owT, if_neg h0] at h
    by_cases h1 : q.1 = 1
    · rw [if_pos h1] at h; exact inT1 _ h hg2
    · rw [if_neg h1] at h
      by_cases h2 : q.1 = 2
      · rw [if_pos h2] at h; exact inT2 _ h hg2
      · rw [if_neg h2] at h; exact inT3 _ h hg2
theorem ow_all {L : List Cond} (is : List (Nat × Nat)) (h : L.map some = is.map owT) (hg : ∀ q ∈ is, owOK q = true) : ∀ w ∈ L, w ∈ TB ∨ w ∈ thW ∨ w = .laysStatic Bundle.tN "UNASSIGNED_STACK" Bundle.steD ∨ w = .laysStatic Bundle.tN "SUPPRESSED_SENTINEL" Bundle.listD ∨ w = .isRef (.static Bundle.tN "UNASSIGNED_STACK" Bundle.steD) ∨ w = .isRef (.static Bundle.tN "SUPPRESSED_SENTINEL" Bundle.listD) := by
  intro w hw
  have h1 : some w ∈ is.map owT := by rw [← h]; exact List.mem_map.mpr ⟨w, hw, rfl⟩
  obtain ⟨q, hq, he⟩ := List.mem_map.mp h1
  exact ow_one he (hg q hq)
def ow_iobI : List (Nat × Nat) := [(1, 12), (2, 206), (2, 215), (2, 219), (2, 222), (2, 224), (2, 207), (2, 208), (1, 25), (1, 26), (2, 209), (2, 214), (2, 220), (3, 0), (2, 196), (3, 1), (2, 198), (3, 2), (2, 200), (2, 210), (0, 6), (2, 212), (0, 7), (2, 202), (2, 236), (2, 237), (2, 239), (2, 202), (2, 227), (2, 228), (2, 229), (2, 230), (0, 3), (2, 230), (2, 231), (2, 232), (2, 233), (0, 4), (2, 233), (2, 234), (2, 235), (2, 236), (0, 5), (2, 226), (2, 185), (0, 0), (2, 193), (2, 194), (2, 195), (2, 197), (2, 199), (2, 201), (0, 8), (0, 9), (2, 205), (2, 204), (2, 203)]
theorem ow_iob : ∀ w ∈ Bundle.ownAtoms "PriceLines" 109 x_iob [x_rte, x_exn], w ∈ TB ∨ w ∈ thW ∨ w = .laysStatic Bundle.tN "UNASSIGNED_STACK" Bundle.steD ∨ w = .laysStatic Bundle.tN "SUPPRESSED_SENTINEL" Bundle.listD ∨ w = .isRef (.static Bundle.tN "UNASSIGNED_STACK" Bundle.steD) ∨ w = .isRef (.static Bundle.tN "SUPPRESSED_SENTINEL" Bundle.listD) := ow_all ow_iobI (by decide +kernel) (by decide +kernel)
theorem fit_iob : Bundle.fit x_iob = true := by decide +kernel
def ow_iaeI : List (Nat × Nat) := [(1, 12), (2, 206), (2, 215), (2, 219), (2, 222), (2, 224), (2, 207), (2, 208), (1, 25), (1, 26), (2, 209), (2, 214), (2, 220), (3, 0), (2, 196), (3, 1), (2, 198), (3, 2), (2, 200), (2, 210), (0, 6), (2, 212), (0, 7), (2, 202), (2, 236), (2, 237), (2, 239), (2, 202), (3, 26), (3, 27), (3, 28), (2, 230), (0, 3), (2, 230), (2, 231), (2, 232), (2, 233), (0, 4), (2, 233), (2, 234), (2, 235), (2, 236), (0, 5), (3, 25), (3, 16), (0, 1), (3, 18), (2, 217), (3, 19), (3, 20), (3, 21), (3, 22), (0, 8), (0, 9), (2, 205), (2, 204), (3, 23)]
theorem ow_iae : ∀ w ∈ Bundle.ownAtoms "PriceLines" 135 x_iae [x_rte, x_exn], w ∈ TB ∨ w ∈ thW ∨ w = .laysStatic Bundle.tN "UNASSIGNED_STACK" Bundle.steD ∨ w = .laysStatic Bundle.tN "SUPPRESSED_SENTINEL" Bundle.listD ∨ w = .isRef (.static Bundle.tN "UNASSIGNED_STACK" Bundle.steD) ∨ w = .isRef (.static Bundle.tN "SUPPRESSED_SENTINEL" Bundle.listD) := ow_all ow_iaeI (by decide +kernel) (by decide +kernel)
theorem fit_iae : Bundle.fit x_iae = true := by decide +kernel
def ow_iseI : List (Nat × Nat) := [(1, 12), (2, 206), (2, 215), (2, 219), (2, 222), (2, 224), (2, 207), (2, 208), (1, 25), (1, 26), (2, 209), (2, 214), (2, 220), (3, 0), (2, 196), (3, 1), (2, 198), (3, 2), (2, 200), (2, 210), (0, 6), (2, 212), (0, 7), (2, 202), (2, 236), (2, 237), (2, 239), (2, 202), (3, 106), (3, 107), (3, 108), (2, 230), (0, 3), (2, 230), (2, 231), (2, 232), (2, 233), (0, 4), (2, 233), (2, 234), (2, 235), (2, 236), (0, 5), (3, 105), (3, 96), (0, 2), (3, 98), (2, 218), (3, 99), (3, 100), (3, 101), (3, 102), (0, 8), (0, 9), (2, 205), (2, 204), (3, 103)]
theorem ow_ise : ∀ w ∈ Bundle.ownAtoms "PriceLines" 148 x_ise [x_rte, x_exn], w ∈ TB ∨ w ∈ thW ∨ w = .laysStatic Bundle.tN "UNASSIGNED_STACK" Bundle.steD ∨ w = .laysStatic Bundle.tN "SUPPRESSED_SENTINEL" Bundle.listD ∨ w = .isRef (.static Bundle.tN "UNASSIGNED_STACK" Bundle.steD) ∨ w = .isRef (.static Bundle.tN "SUPPRESSED_SENTINEL" Bundle.listD) := ow_all ow_iseI (by decide +kernel) (by decide +kernel)
theorem fit_ise : Bundle.fit x_ise = true := by decide +kernel
theorem opn_X {l : Launch} {y : MethodName} {ws : List Cond} {rm : Room} {D : va_G} {ta : Nat → ClassId} {av : List Value} {w0 w1 : va_W} {bytes : ByteArray} {maxL : Nat} {ret : Option FieldType} {E : String} (hy : plainName y.cls = true) (hw : ws = Cond.code y bytes maxL ret :: TB) (hle : (lg_sl av).length ≤ maxL) (body : ∀ (p : Program) (e : Env) (s : State) (m : MethodId) (below : List Frame) (meth : Method) (c : Code) (A : Nat → Prop) (ls : Array Slot), p.tables.exec = Jvm.exec → c.code = bytes → c.maxLocals = maxL → s.vm.findClass y.cls = some m.cls → meth.locks = false → c.exceptionTable.isEmpty = true → (∀ w ∈ TB, w.before av.toArray s = true) → va_K D vwCl (tyL ta) s → NwS s → TfS s → noSt A s → va_P D vwCl w0 s.heap → va_D A w0 → (∀ q, s.heap.size ≤ q → A q) → va_S A s.heap s.heap [] → lv_has ls maxL (lv_args 0 av) → W p l e rm s m av.toArray below meth c s.heap [] 0 0 (MT below (xT D ta A E w1) av.toArray s 1 6 A) (F0 m 0 ls [])) : ∀ sz, Thr l y ws rm (va_Pc av (pT D ta w0 sz)) (xT D ta (va_A w0 sz) E w1) 1 6 (va_A w0 sz) := by
  intro sz
  refine Thr.ofW (cc := bytes) (maxL := maxL) (ret := ret) hy hw ?_
  intro p e s m args below meth c s₁ B hml hxt hv
  obtain ⟨rfl, ⟨hsz, hP, hK, hD0, hN⟩, hT⟩ := hv
  subst hsz
  rw [lg_entry_eq]
  exact body p e s m below meth c _ _ B.exec B.bytes hml (findClass_of_methodNamed B.named) B.notSynchronized hxt (fun w h => atoms_spec (ws := ws) B.pre w (by rw [hw]; exact List.mem_cons_of_mem _ h)) hK hN hT (noSt_of hP) hP (hD0.self (sz := s.heap.size)) (fun q h => Or.inr h) va_S.rf (lv_entry av (n := maxL) hle)
