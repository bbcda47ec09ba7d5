/-! catches: the search through a method's table, its classes linked as it goes -/
theorem ct_go {e : Env} {s : State} {f : JFrame} {a : Addr} {Q : Handler → Pre} {E : CtlPost} {d : Bool} {acts : List Action} {x : ExceptionTableEntry} {t : List ExceptionTableEntry} {c : ClassId} {cell : Cell} (hx : covers x f.pc = true) (h0 : x.catchType ≠ 0)
    (hl : s.vm.ClassLinks e.platform f.method.cls x.catchType c) (hcell : s.heap[a]? = some cell) (hobj : ∀ k, cell.vm ≠ .statics k) (hk : ∃ k, s.vm.classes[cell.cls]? = some k) (hc : ∃ k, s.vm.classes[c]? = some k) :
    wp (findHandler.go f a (x :: t)) Q E e d acts s ↔ if s.vm.assignable cell.cls c = true then Q (.found x.handlerPc) d acts (s.setVm (s.vm.noted f.method.cls x.catchType (.cls c))) else wp (findHandler.go f a t) Q E e d acts (s.setVm (s.vm.noted f.method.cls x.catchType (.cls c))) := by
  simp only [covers] at hx
  obtain ⟨h1, h2⟩ := (resolveClass_links e.toSetting hl).op (op := VmOp.resolveClass f.method.cls x.catchType) rfl
  have hal : s.vm.Alike (s.vm.noted f.method.cls x.catchType (.cls c)) := (Vm.Alike.refl s.vm).noted _ _ _
  obtain ⟨k1, g1⟩ := hk
  obtain ⟨k2, g2⟩ := hc
  obtain ⟨k1', g1', -⟩ := hal.2.2 _ _ g1
  obtain ⟨k2', g2', -⟩ := hal.2.2 _ _ g2
  have hasg := hal.assignable cell.cls c
  cases hfit : s.vm.assignable cell.cls c <;> rw [hfit] at hasg <;> simp [findHandler.go, hx, h0, h1, h2, hcell, hobj, g1', g2', hasg, VmOp.dirties, VmOp.acts]
theorem ct_self (vm : Vm) (c : ClassId) : vm.assignable c c = true := by
  show vm.assignableAux (255 + 1) c c = true
  rw [Vm.assignableAux, beq_self_eq_true, Bool.true_or]
/-- which entry of a table takes the thrown thing -/
def ctAt (args : Array Value) (s : State) (own E : String) (pc : Nat) : List (Nat × Nat × Nat × Nat) → Nat → Prop
  | [], _ => False
  | q :: r, hpc => (q.1 ≤ pc ∧ pc < q.2.1) ∧ q.2.2.2 ≠ 0 ∧ ((q.2.2.1 = hpc ∧ (Cond.classLink own q.2.2.2 E).before args s = true) ∨ ∃ T, (Cond.classLink own q.2.2.2 T).before args s = true ∧ va_Nc E T s ∧ ctAt args s own E pc r hpc)
theorem ct_find {e : Env} {s : State} {args : Array Value} {f : JFrame} {a : Addr} {own E : String} {cell : Cell} {hpc : Nat} (hpl : e.platform.magicAccessors = ({} : Platform).magicAccessors) (hown : s.vm.findClass own = some f.method.cls) (hobj : ∀ k, cell.vm ≠ .statics k) (hcls : s.vm.findClass E = some cell.cls) :
    ∀ (tab : List ExceptionTableEntry) (S : State), s.WarmedH S.vm → S.heap[a]? = some cell → ctAt args s own E f.pc (tab.map fun h => (h.startPc, h.endPc, h.handlerPc, h.catchType)) hpc →
      ∃ vm', s.WarmedH vm' ∧ ∀ (Q : Handler → Pre) (E' : CtlPost) (d : Bool) (acts : List Action), wp (findHandler.go f a tab) Q E' e d acts S ↔ Q (.found hpc) d acts (S.setVm vm') := by
  intro tab
  induction tab with
  | nil => intro S _ _ h; exact h.elim
  | cons x t ih =>
    intro S hW hc h
    obtain ⟨⟨h1, h2⟩, h0, h⟩ := h
    have hx : covers x f.pc = true := by simp only [covers, Bool.and_eq_true, decide_eq_true_eq]; exact ⟨h1, h2⟩
    have hal := hW.alike
    have hk0 : ∃ k, S.vm.classes[cell.cls]? = some k := by
      obtain ⟨k, hk⟩ := Vm.classAt_of_findClass hcls
      obtain ⟨k', hk', -⟩ := hal.2.2 _ _ hk
      exact ⟨k', hk'⟩
    have one : ∀ T, (Cond.classLink own x.catchType T).before args s = true → ∃ c, s.vm.findClass T = some c ∧ S.vm.ClassLinks e.platform f.method.cls x.catchType c ∧ s.WarmedH (S.vm.noted f.method.cls x.catchType (.cls c)) ∧ ∃ k, S.vm.classes[c]? = some k := by
      intro T hT
      obtain ⟨c, hc', hcl⟩ := Cond.classLink_spec hown hT e.platform hpl
      obtain ⟨dk, _, _, kt, hd, _, _, _, _, hkt, _, hopen⟩ := hcl.here
      obtain ⟨kt', hkt', -⟩ := hal.2.2 _ _ hkt
      exact ⟨c, hc', hW.classLinks hcl, hW.noted hd hopen (State.rightAt_cls hcl), kt', hkt'⟩
    rcases h with ⟨rfl, hl⟩ | ⟨T, hl, hno, hr⟩
    · obtain ⟨c, g1, g2, g3, g4⟩ := one E hl
      cases hcls.symm.trans g1
      refine ⟨_, g3, fun Q E' d acts => ?_⟩
      rw [ct_go hx h0 g2 hc hobj hk0 g4, if_pos (ct_self _ _)]
    · obtain ⟨c, g1, g2, g3, g4⟩ := one T hl
      obtain ⟨c1, c2, n1, n2, n3⟩ := hno
      cases hcls.symm.trans n1
      cases g1.symm.trans n2
      obtain ⟨vm', w1, w2⟩ := ih (S.setVm (S.vm.noted f.method.cls x.catchType (.cls c))) g3 hc hr
      refine ⟨vm', w1, fun Q E' d acts => ?_⟩
      rw [ct_go hx h0 g2 hc hobj hk0 g4, if_neg (by rw [hal.assignable, n3]; decide)]
      exact w2 Q E' d acts
section CAT
variable {p : Program} {l : Launch} {e : Env} {R : Room} {s : State} {m : MethodId} {args : Array Value} {below : List Frame} {meth : Method} {c : Code} {H : Heap} {locs : List Loc} {cells slots : Nat} {Q : State → Prop} {pc : Nat} {ls : Array Slot} {rest st0 : List Value} {D : va_G} {A : Nat → Prop} {ta : Nat → ClassId} {ws wc w1 w2 : va_W} {own E : String}
theorem ct_step {T : State} {a : Addr} {g : JFrame} {hpc : Nat} {cell : Cell} {hh : List (Nat × Nat × Nat × Nat)} (X : Stand p l e R s m args below meth c T locs cells slots) (hg : g.method = m) (hown : s.vm.findClass own = some m.cls) (hobj : cell.vm.isStatics = false) (hcls : s.vm.findClass E = some cell.cls) (hcell : T.heap[a]? = some cell)
    (htab : c.exceptionTable.toList.map (fun h => (h.startPc, h.endPc, h.handlerPc, h.catchType)) = hh) (hat : ctAt args s own E g.pc hh hpc) :
    ∃ vm', Stand p l e R s m args below meth c (T.setVm vm') locs cells slots ∧ ∀ tg, Steps p.tables e below ((T.setVm vm').setTop { g with pc := hpc, stack := [.ref a] }) tg → Steps p.tables e below ((T.setTop g).pushFrame (.throwing a)) tg := by
  subst hg
  have hpl : e.platform.magicAccessors = ({} : Platform).magicAccessors := by rw [X.admits.platform]
  obtain ⟨vm', hW, hf⟩ := ct_find (e := e) (f := g) (a := a) hpl hown (VmData.ne_statics_of hobj) hcls c.exceptionTable.toList ((T.setTop g).pushFrame (.throwing a)) X.warmed hcell (by rw [htab]; exact hat)
  refine ⟨vm', X.noted hW, fun tg hrest => ?_⟩
  have h := X.here
  obtain ⟨hgo, hw⟩ := h.throwing a
  refine Steps.head hgo hw ?_
  have hst : (stepThrowing e ((T.setTop g).pushFrame (.throwing a)) a (.java g :: T.frames.tail)).Is ((((T.setTop g).pushFrame (.throwing a)).setVm vm').setFrames (.java { g with pc := hpc, stack := [.ref a] } :: T.frames.tail)) [] := by
    simp only [stepThrowing, searchFrame, vmDo]
    generalize hr : Sem.go _ e false [] _ = res
    obtain ⟨as, rfl, ha⟩ := Sem.eq_ok_of hr (a := Handler.found hpc) (s' := ((T.setTop g).pushFrame (.throwing a)).setVm vm') (acts' := []) (by
      have hfe : ∀ (Q : Handler → Pre) (E' : CtlPost) (d : Bool) (acts : List Action), wp (findHandler g a) Q E' e d acts ((T.setTop g).pushFrame (.throwing a)) ↔ Q (.found hpc) d acts (((T.setTop g).pushFrame (.throwing a)).setVm vm') := fun Q E' d acts => by
        rw [W.findHandler_eq (s := (T.setTop g).pushFrame (.throwing a)) (meth := meth) (code := c) X.method' X.code]; exact hf Q E' d acts
      simp [hfe])
    exact ⟨rfl, ha⟩
  rw [stepThread_throwing (frames_entered h.top _), hst.1]
  obtain ⟨g₀, hg0⟩ := Option.isSome_iff_exists.mp h.top
  obtain ⟨r, hr⟩ := State.topJava?_eq_some.mp hg0
  have hr' : (T.setVm vm').frames = .java g₀ :: r := hr
  rw [State.setTop_of_frames _ hr'] at hrest
  have e1 : ((((T.setTop g).pushFrame (.throwing a)).setVm vm').setFrames (.java { g with pc := hpc, stack := [.ref a] } :: T.frames.tail)) = (T.setVm vm').setFrames (.java { g with pc := hpc, stack := [.ref a] } :: T.frames.tail) := by
    rw [State.pushFrame, State.setTop_of_frames _ hr]
    show ((((T.setVm vm').setFrames _).setFrames _).setFrames _) = _
    rw [State.setFrames_setFrames, State.setFrames_setFrames]
  rw [e1, hr]
  exact hrest
/-- a call that throws, caught here -/
theorem catch_t {a9 : Array Value} {hpc : Nat} {hh : List (Nat × Nat × Nat × Nat)} (hr : th_Run p l e R s m args below meth c H locs cells slots 1 6 (F0 m pc ls st0) rest (xT D ta (va_A wc H.size) E w1 a9) (va_A wc H.size)) (hown : s.vm.findClass own = some m.cls) (htab : c.exceptionTable.toList.map (fun h => (h.startPc, h.endPc, h.handlerPc, h.catchType)) = hh) (hat : ctAt args s own E pc hh hpc) (hP : va_P D vwCl ws H) (hD : va_D A ws) (hS : va_S A s.heap H locs) (hA : ∀ q, s.heap.size ≤ q → A q) (sp : Spl ws wc w1 w2)
    (kk : ∀ (H1 : Heap) (locs1 : List Loc) (x : Nat), va_P D vwCl w2 H1 → va_D A w2 → va_S A s.heap H1 locs1 → W p l e R s m args below meth c H1 locs1 (cells + 1) (slots + 6) Q (F0 m hpc ls [.ref x])) : W p l e R s m args below meth c H locs cells slots Q (F0 m pc ls st0) := by
  refine aft_t hr hP hD hS hA sp fun T' locs1 x cell X' hP2 hD2 hS1 hnew hcell hobj hcls => ?_
  obtain ⟨vm', X2, st⟩ := ct_step (g := F0 m pc ls rest) (hpc := hpc) X' rfl hown hobj hcls hcell htab hat
  obtain ⟨t, a1, b1⟩ := kk T'.heap locs1 x hP2 hD2 hS1 (T'.setVm vm') rfl X2
  exact ⟨t, st t a1, b1⟩
end CAT
/-! methods with handlers: their bodies, their calls -/
def ncL : List (String × String) := [(x_iae, x_iob), (x_ise, x_iob), (x_ise, x_iae)]
def NcS (U : State) : Prop := ∀ q ∈ ncL, va_Nc q.1 q.2 U
def pH (D : va_G) (ta : Nat → ClassId) (w0 : va_W) (sz : Nat) : State → Prop := fun U => pT D ta w0 sz U ∧ NcS U
theorem NcS.moved {u U : State} (h : u.vm.Alike U.vm) (q : NcS u) : NcS U := fun z hz => va_Nc.moved h (q z hz)
theorem pH_blind {av : List Value} {D : va_G} {ta : Nat → ClassId} {w0 : va_W} {sz : Nat} : FrameBlind (va_Pc av (pH D ta w0 sz)) := fun a U g mk q => by
  obtain ⟨q0, q1, q2⟩ := q
  obtain ⟨r0, r1⟩ := pT_blind (av := av) (D := D) (ta := ta) (w0 := w0) (sz := sz) a U g mk ⟨q0, q1⟩
  exact ⟨r0, r1, NcS.moved (u := U) (U := U.calling g mk a) (Vm.Alike.refl U.vm) q2⟩
theorem MQ_wide {below : List Frame} {Qc : Array Value → State → Outcome → State → Prop} {a : Array Value} {s : State} {mc ms mc' ms' : Nat} {free : Addr → Prop} {t : State} (h1 : mc ≤ mc') (h2 : ms ≤ ms') (h : MQ below Qc a s mc ms free t) : MQ below Qc a s mc' ms' free t := by
  obtain ⟨o, r1, r2, r3, L, ⟨r4, r5, r6⟩, r7⟩ := h
  exact ⟨o, r1, r2, r3, L, ⟨r4, r5, r6.mono h1 h2⟩, r7⟩
theorem opn_H {l : Launch} {y : MethodName} {ws : List Cond} {rm : Room} {D : va_G} {ta : Nat → ClassId} {av : List Value} {w0 w1 : va_W} {bytes : ByteArray} {maxL : Nat} {r : Int32} {hh : List (Nat × Nat × Nat × Nat)} (hy : plainName y.cls = true) (hw : ws = Cond.codeWith y bytes maxL (some .int) hh :: TB) (hle : (lg_sl av).length ≤ maxL) (body : ∀ (p : Program) (e : Env) (s : State) (m : MethodId) (below : List Frame) (meth : Method) (c : Code) (A : Nat → Prop) (ls : Array Slot), p.tables.exec = Jvm.exec → c.code = bytes → meth.sig.returnType = some .int → c.maxLocals = maxL → s.vm.findClass y.cls = some m.cls → meth.locks = false → c.exceptionTable.toList.map (fun h => (h.startPc, h.endPc, h.handlerPc, h.catchType)) = hh → (∀ w ∈ TB, w.before av.toArray s = true) → va_K D vwCl (tyL ta) s → NwS s → TfS s → NcS s → noSt A s → va_P D vwCl w0 s.heap → va_D A w0 → (∀ q, s.heap.size ≤ q → A q) → va_S A s.heap s.heap [] → lv_has ls maxL (lv_args 0 av) → W p l e rm s m av.toArray below meth c s.heap [] 0 0 (MQ below (eI D ta A r w1) av.toArray s 1 6 A) (F0 m 0 ls [])) : ∀ sz, Met l y ws rm (va_Pc av (pH D ta w0 sz)) (eI D ta (va_A w0 sz) r w1) 1 6 (va_A w0 sz) := by
  intro sz
  refine va_MetW (cc := bytes) (maxL := maxL) (ret := some .int) (hh := hh) hy hw ?_
  intro p e s m args below meth c s₁ B hml hv
  obtain ⟨rfl, ⟨⟨hsz, hP, hK, hD0, hN⟩, hT⟩, hNc⟩ := hv
  subst hsz
  rw [lg_entry_eq]
  have htab : c.exceptionTable.toList.map (fun h => (h.startPc, h.endPc, h.handlerPc, h.catchType)) = hh := by
    obtain ⟨m9, meth', c', hn9, h1, h2, -, -, h3, -⟩ := Cond.codeWith_spec (atoms_spec (ws := ws) B.pre _ (by rw [hw]; exact List.mem_cons_self))
    cases B.named.symm.trans hn9
    cases B.method.symm.trans h1
    cases (Stand.of_body B).code.symm.trans h2
    exact h3
  exact body p e s m below meth c _ _ B.exec B.bytes B.returns hml (findClass_of_methodNamed B.named) B.notSynchronized htab (fun w h => atoms_spec (ws := ws) B.pre w (by rw [hw]; exact List.mem_cons_of_mem _ h)) hK hN hT hNc (noSt_of hP) hP (hD0.self (sz := s.heap.size)) (fun q h => Or.inr h) va_S.rf (lv_entry av (n := maxL) hle)
section KH
variable {p : Program} {l : Launch} {e : Env} {R : Room} {s : State} {m : MethodId} {args : Array Value} {below : List Frame} {meth : Method} {c : Code} {H : Heap} {locs : List Loc} {cells slots : Nat} {Q : State → Prop} {cc bytes : ByteArray} {pc nL maxL n index : Nat} {ls : Array Slot} {rest st0 As : List Value} {D : va_G} {ta : Nat → ClassId} {A : Nat → Prop} {ws wc w1 w2 : va_W} {y : MethodName} {wsy Ts : List Cond} {rm : Room} {own C host E : String} {ret : Option FieldType} {b : Addr} {hh : List (Nat × Nat × Nat × Nat)}
theorem W.wide {g : JFrame} {a : Array Value} {Qc : Array Value → State → Outcome → State → Prop} {mc ms mc' ms' : Nat} {free : Addr → Prop} (h1 : mc ≤ mc') (h2 : ms ≤ ms') (h : W p l e R s m args below meth c H locs cells slots (MQ below Qc a s mc ms free) g) : W p l e R s m args below meth c H locs cells slots (MQ below Qc a s mc' ms' free) g := by
  intro T hT X
  obtain ⟨t, a1, b1⟩ := h T hT X
  exact ⟨t, a1, MQ_wide h1 h2 b1⟩
theorem kH_i {r : Int32} (S : CallFix p m c cc nL s args TB own) (hM : ∀ sz, Met l y wsy rm (va_Pc As (pH D ta wc sz)) (eI D ta (va_A wc sz) r w1) 1 6 (va_A wc sz)) (h1 : Cond.methodLink own index y ∈ TB) (h2 : Cond.static y ∈ TB) (h4 : Cond.initialized y.cls ∈ TB) (h5 : Cond.codeWith y bytes maxL ret hh ∈ TB) (hwy : wsy = Cond.codeWith y bytes maxL ret hh :: TB) (hrc : rm.cells = 1) (hrs : rm.slots = 6) (hd : y.cls ≠ "java/lang/invoke/MethodHandle" ∧ y.cls ≠ "java/lang/invoke/VarHandle" ∧ (parseMethodDescriptor y.desc).map (fun d => d.parameters.length) = some n) (hR : rm.frames + 1 ≤ R.frames ∧ 8 + (maxL + 11) + rm.locals ≤ R.locals) (hK : va_K D vwCl (tyL ta) s) (hN : NwS s) (hT : TfS s) (hNc : NcS s) (hZ : noSt A s) (hP : va_P D vwCl ws H) (hD : va_D A ws) (hS : va_S A s.heap H locs) (hA : ∀ q, s.heap.size ≤ q → A q) (sp : Spl ws wc w1 w2) (hn : As.length = n) (hsize : ls.size = nL) (hstack : st0 = As.reverse ++ rest) (hW : (rest.map fun v => v.category).sum ≤ 8) (hf : cells + 1 ≤ R.cells ∧ slots + 6 ≤ R.slots) (hdg : decode cc pc = .ok (.invokestatic index, 3)) (kk : ∀ (H1 : Heap) (locs1 : List Loc), va_P D vwCl w2 H1 → va_D A w2 → va_S A s.heap H1 locs1 → W p l e R s m args below meth c H1 locs1 (cells + 1) (slots + 6) Q (F0 m (pc + 3) ls (.int r :: rest))) : W p l e R s m args below meth c H locs cells slots Q (F0 m pc ls st0) := by
  obtain ⟨hPc, hDc, hj⟩ := sp D A H hP hD
  obtain ⟨hx, hb, hml, ho, hts⟩ := S
  have hws : ∀ w ∈ wsy, ∀ (a' : Array Value) (U : State), s.WarmedH U.vm → w.before a' U = true := fun w hw a' U hW => by
    rw [hwy] at hw
    rcases List.mem_cons.mp hw with rfl | hw
    · exact word_at hW (gdTB _ h5).2 (hts _ h5)
    · exact word_at hW (gdTB w hw).2 (hts w hw)
  have hK8 : Back l R p e below s args y 3 8 (PreOf R 1 6 (va_Pc As (pH D ta wc H.size))) (PostOf (eI D ta (va_A wc H.size) r w1) 1 6 (va_A wc H.size)) :=
    va_backW (bytes := bytes) (maxL := maxL) (ret := ret) (hh := hh) (hM H.size) pH_blind hrc hrs hR.1 hR.2 hws (by rw [hwy]; exact List.mem_cons_self) (fun a' U hW => word_at hW (gdTB _ h4).2 (hts _ h4))
  have hFc := aN hDc hS hA
  have hrun : va_Run p l e R s m args below meth c H locs cells slots 1 6 (F0 m pc ls st0) rest (eI D ta (va_A wc H.size) r w1 As.toArray) (va_A wc H.size) := by
    intro T hT0 X
    obtain ⟨mk, methM, cM, hnamed, hmethM, -, -, -, -, -, -, hsigM⟩ := Cond.codeWith_spec (hts _ h5)
    have hstatic : methM.isStatic = true := Cond.static_spec hnamed hmethM (hts _ h2)
    obtain ⟨kP, hkP, -⟩ := className_of_methodNamed hnamed
    have hinitP : kP.init = .initialized := Cond.initialized_spec (findClass_of_methodNamed hnamed) hkP (hts _ h4)
    have hlen : As.length = methM.sig.parameters.length := by
      have h := hd.2.2
      rw [hsigM] at h
      rw [hn]; exact (Option.some.inj h).symm
    obtain ⟨vm₁, X₁, hstep₁⟩ := X.invokestatic hx ho (hts _ h1) hnamed hmethM hstatic hkP hinitP ⟨hd.1, hd.2.1⟩ (g := F0 m pc ls st0) rfl (argsL := As) (rest := rest) hlen hstack (by rw [hb]; exact hdg)
    obtain ⟨v, ⟨U', l2, c2, s2⟩, X', ⟨g', mk', t, L, e1, e2, hq, q1, hL, q2, q3⟩, hsteps⟩ := hK8 m meth c ⟨T.setVm vm₁, locs, cells, slots⟩ (F0 m pc ls rest) (.invokestatic index) mk As.toArray X₁ rfl (hsize.trans hml.symm) (by rw [hb]; exact hdg) (lv_room hW) (X₁.named hnamed) ⟨hf.1, hf.2, rfl, ⟨((pT_S (av := As) hK hN hT hZ hS hPc hDc).2 (T.setVm vm₁) hT0 X₁.warmed).2, hNc.moved X₁.warmed.alike⟩⟩
    dsimp only [Pt.U, Pt.locs, Pt.cells, Pt.slots] at X' e1 e2 q1 q2 q3 hsteps
    subst q1; subst q2; subst q3
    exact ⟨v, (T.setVm vm₁).calling g' mk' As.toArray, t, U', L, hT0, X', hL, e1, e2, hq, fun tg h => hstep₁ _ fun acts => by rw [doInvoke_state]; exact hsteps.trans h⟩
  refine va_calli hrun hS (fun q _ h => hFc q h) hFc (fun x u t H1 locs1 ht hvm hw hB hz hk hS1 => ?_)
  obtain ⟨hP1, hK1, hD1⟩ := hB
  rw [ht] at hP1
  obtain ⟨hP2, hD2⟩ := hj H1 hk hFc hP1 hD1
  subst hw
  exact kk H1 locs1 hP2 hD2 hS1
end KH
