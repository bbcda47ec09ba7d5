/-! a call's cells, written back where they stood -/
def lkA : Nat → List Nat → va_W → Option (Nat × va_E)
  | k, i :: is, c :: cs => if k = i then some c else lkA k is cs
  | _, _, _ => none
def stA : Nat → va_W → List Nat → va_W → va_W
  | _, [], _, _ => []
  | k, q :: X, is, w => (lkA k is w).getD q :: stA (k + 1) X is w
theorem lkA_none {k : Nat} : ∀ {is : List Nat} {w : va_W}, w.length = is.length → lkA k is w = none → k ∉ is := by
  intro is
  induction is with
  | nil => intro w _ _; simp
  | cons i is ih =>
    intro w hl h
    cases w with
    | nil => simp at hl
    | cons c cs =>
      rw [lkA] at h
      by_cases e : k = i
      · rw [if_pos e] at h; exact absurd h (by simp)
      · rw [if_neg e] at h
        have := ih (by simpa using hl) h
        simp [e, this]
theorem lkA_some {k : Nat} {c : Nat × va_E} : ∀ {is : List Nat} {w : va_W}, lkA k is w = some c → c ∈ w := by
  intro is
  induction is with
  | nil => intro w h; cases w <;> exact absurd h (by simp [lkA])
  | cons i is ih =>
    intro w h
    cases w with
    | nil => exact absurd h (by simp [lkA])
    | cons d cs =>
      rw [lkA] at h
      by_cases e : k = i
      · rw [if_pos e] at h; cases h; exact List.mem_cons_self
      · rw [if_neg e] at h; exact List.mem_cons_of_mem _ (ih h)
theorem lkA_adr {k : Nat} {c : Nat × va_E} {F : Nat → Option Nat} : ∀ {is : List Nat} {w : va_W}, is.map F = w.map (fun q => some q.1) → lkA k is w = some c → F k = some c.1 := by
  intro is
  induction is with
  | nil => intro w _ h; cases w <;> exact absurd h (by simp [lkA])
  | cons i is ih =>
    intro w hf h
    cases w with
    | nil => exact absurd h (by simp [lkA])
    | cons d cs =>
      rw [lkA] at h
      simp only [List.map_cons, List.cons.injEq] at hf
      by_cases e : k = i
      · rw [if_pos e] at h; cases h; rw [e]; exact hf.1
      · rw [if_neg e] at h; exact ih hf.2 h
theorem stA_mem {q : Nat × va_E} {is : List Nat} {w1 : va_W} (hl : w1.length = is.length) : ∀ {X : va_W} {k0 : Nat}, q ∈ stA k0 X is w1 → q ∈ w1 ∨ ∃ k : Nat, X[k]? = some q ∧ k0 + k ∉ is := by
  intro X
  induction X with
  | nil => intro k0 h; exact absurd h (by simp [stA])
  | cons x X ih =>
    intro k0 h
    rw [stA] at h
    rcases List.mem_cons.mp h with h | h
    · cases hk : lkA k0 is w1 with
      | none =>
        rw [hk] at h
        exact Or.inr ⟨0, by rw [h]; rfl, lkA_none hl hk⟩
      | some c =>
        rw [hk] at h
        rw [h]
        exact Or.inl (lkA_some hk)
    · rcases ih h with h | ⟨k, hk, hn⟩
      · exact Or.inl h
      · exact Or.inr ⟨k + 1, by simpa using hk, by rw [show k0 + (k + 1) = k0 + 1 + k by omega]; exact hn⟩
theorem stA_fst0 {is : List Nat} {w1 : va_W} {F : Nat → Option Nat} (hf : is.map F = w1.map (fun q => some q.1)) : ∀ {X : va_W} {k0 : Nat}, (∀ (k : Nat) (x : Nat × va_E), X[k]? = some x → F (k0 + k) = some x.1) → (stA k0 X is w1).map Prod.fst = X.map Prod.fst := by
  intro X
  induction X with
  | nil => intro k0 _; rfl
  | cons x X ih =>
    intro k0 hF
    rw [stA, List.map_cons, List.map_cons, ih (fun k y hk => by rw [show k0 + 1 + k = k0 + (k + 1) by omega]; exact hF (k + 1) y (by simpa using hk))]
    congr 1
    cases hk : lkA k0 is w1 with
    | none => rfl
    | some c =>
      have h1 := lkA_adr hf hk
      have h2 := hF 0 x rfl
      rw [Nat.add_zero, h1] at h2
      exact Option.some.inj h2
theorem stA_fst {is : List Nat} {X w1 : va_W} (h : is.map (fun i => (X.map Prod.fst)[i]?) = w1.map (fun q => some q.1)) : (stA 0 X is w1).map Prod.fst = X.map Prod.fst :=
  stA_fst0 h (fun k x hk => by rw [Nat.zero_add, List.getElem?_map, hk]; rfl)
theorem D_fst {A : Nat → Prop} {ws ws' : va_W} (h : ws'.map Prod.fst = ws.map Prod.fst) (hD : va_D A ws) : va_D A ws' := by
  rw [va_D_iff] at hD ⊢
  rw [h]
  refine ⟨hD.1, fun q hq => ?_⟩
  have : q.1 ∈ ws.map Prod.fst := by rw [← h]; exact List.mem_map_of_mem hq
  obtain ⟨r, hr, e⟩ := List.mem_map.mp this
  rw [← e]; exact hD.2 r hr
theorem stA_adr {X wc w1 : va_W} {is : List Nat} (hC : is.map (fun i => X[i]?) = wc.map some) (hA : w1.map Prod.fst = wc.map Prod.fst) : w1.length = is.length ∧ is.map (fun i => (X.map Prod.fst)[i]?) = w1.map (fun q => some q.1) := by
  have l1 : wc.length = is.length := by have := congrArg List.length hC; simpa using this.symm
  have l2 : w1.length = wc.length := by have := congrArg List.length hA; simpa using this
  refine ⟨by omega, ?_⟩
  have e1 : is.map (fun i => (X.map Prod.fst)[i]?) = (is.map (fun i => X[i]?)).map (Option.map Prod.fst) := by
    rw [List.map_map]
    apply List.map_congr_left
    intro i _
    simp
  rw [e1, hC, List.map_map]
  have e2 : w1.map (fun q => some q.1) = (w1.map Prod.fst).map some := by rw [List.map_map]; rfl
  rw [e2, hA, List.map_map]
  rfl
theorem Spl.sp {X cx rx X2 pl pl1 : va_W} (is : List Nat) (hC : is.map (fun i => X[i]?) = cx.map some) (hnC : va_nd is = true) (hA : rx.map Prod.fst = cx.map Prod.fst) (hX : stA 0 X is rx = X2) (hpl : pl1.map Prod.fst = pl.map Prod.fst) : Spl (X ++ pl) (cx ++ pl) (rx ++ pl1) (X2 ++ pl1) := by
  subst hX
  intro D A H hP hD
  refine ⟨hP.part is hC, hD.part is hnC hC, fun H1 hk hF hP1 hD1 => ?_⟩
  obtain ⟨hl, hf⟩ := stA_adr hC hA
  refine ⟨?_, D_fst (by rw [List.map_append, List.map_append, stA_fst hf, hpl]) hD⟩
  rw [va_P_iff] at hP1 ⊢
  intro q hq
  rcases List.mem_append.mp hq with hq | hq
  · rcases stA_mem hl hq with h | ⟨k, h, hn'⟩
    · exact hP1 q (List.mem_append_left _ h)
    · have hn : k ∉ is := by rw [Nat.zero_add] at hn'; exact hn'
      have h2 : (X ++ pl)[k]? = some q := by rw [List.getElem?_append_left (List.getElem?_eq_some_iff.mp h).1]; exact h
      have hlt := (hP k q h2).lt
      refine (hP k q h2).kept (hk q.1 hlt (fun hh => ?_))
      rcases hh with ⟨t, e, ht⟩ | hh
      · have hcase : (q.1, e) ∈ cx ∨ ∃ j : Nat, pl[j]? = some (q.1, e) := by
          rcases List.mem_append.mp (List.mem_of_getElem? ht) with z | z
          · exact Or.inl z
          · exact Or.inr (List.mem_iff_getElem?.mp z)
        rcases hcase with z | ⟨j, z⟩
        · have z2 : some (q.1, e) ∈ is.map (fun i => X[i]?) := by rw [hC]; exact List.mem_map_of_mem z
          obtain ⟨i, hi, ei⟩ := List.mem_map.mp z2
          have h3 : (X ++ pl)[i]? = some (q.1, e) := by rw [List.getElem?_append_left (List.getElem?_eq_some_iff.mp ei).1]; exact ei
          have := hD.1 k i q (q.1, e) h2 h3 rfl
          exact hn (this ▸ hi)
        · have h3 : (X ++ pl)[X.length + j]? = some (q.1, e) := by rw [List.getElem?_append_right (by omega), Nat.add_sub_cancel_left]; exact z
          have := hD.1 k _ q (q.1, e) h2 h3 rfl
          have := (List.getElem?_eq_some_iff.mp h).1
          omega
      · omega
  · exact hP1 q (List.mem_append_right _ hq)
theorem Spl.sq {X cx rx X2 pl : va_W} (is : List Nat) (hC : is.map (fun i => X[i]?) = cx.map some) (hnC : va_nd is = true) (hA : rx.map Prod.fst = cx.map Prod.fst) (hX : stA 0 X is rx = X2) : Spl (X ++ pl) cx rx (X2 ++ pl) := by
  subst hX
  intro D A H hP hD
  have hpp := hP.part is hC
  have hdd := hD.part is hnC hC
  have e0 : ∀ (k : Nat) (q : Nat × va_E), cx[k]? = some q → (cx ++ pl)[k]? = some q := fun k q h => by rw [List.getElem?_append_left (List.getElem?_eq_some_iff.mp h).1]; exact h
  refine ⟨fun k q h => hpp k q (e0 k q h), ⟨fun i j x y hx hy => hdd.1 i j x y (e0 i x hx) (e0 j y hy), fun k q h => hdd.2 k q (e0 k q h)⟩, fun H1 hk hF hP1 hD1 => ?_⟩
  obtain ⟨hl, hf⟩ := stA_adr hC hA
  refine ⟨?_, D_fst (by rw [List.map_append, List.map_append, stA_fst hf]) hD⟩
  rw [va_P_iff] at hP1 ⊢
  have hno : ∀ (k : Nat) (q : Nat × va_E), (X ++ pl)[k]? = some q → k ∉ is → va_at D vwCl q H1 := by
    intro k q h2 hn
    have hlt := (hP k q h2).lt
    refine (hP k q h2).kept (hk q.1 hlt (fun hh => ?_))
    rcases hh with ⟨t, e, ht⟩ | hh
    · have z2 : some (q.1, e) ∈ is.map (fun i => X[i]?) := by rw [hC]; exact List.mem_map_of_mem (List.mem_of_getElem? ht)
      obtain ⟨i, hi, ei⟩ := List.mem_map.mp z2
      have h3 : (X ++ pl)[i]? = some (q.1, e) := by rw [List.getElem?_append_left (List.getElem?_eq_some_iff.mp ei).1]; exact ei
      have := hD.1 k i q (q.1, e) h2 h3 rfl
      exact hn (this ▸ hi)
    · omega
  intro q hq
  rcases List.mem_append.mp hq with hq | hq
  · rcases stA_mem hl hq with h | ⟨k, h, hn'⟩
    · exact hP1 q h
    · exact hno k q (by rw [List.getElem?_append_left (List.getElem?_eq_some_iff.mp h).1]; exact h) (by rw [Nat.zero_add] at hn'; exact hn')
  · obtain ⟨j, hj⟩ := List.mem_iff_getElem?.mp hq
    refine hno (X.length + j) q (by rw [List.getElem?_append_right (by omega), Nat.add_sub_cancel_left]; exact hj) (fun hin => ?_)
    have z : X[X.length + j]? ∈ cx.map some := by rw [← hC]; exact List.mem_map_of_mem hin
    rw [List.getElem?_eq_none (by omega)] at z
    obtain ⟨r, _, hr⟩ := List.mem_map.mp z
    exact absurd hr (by simp)
theorem fp_fst {fa : Nat → Nat} {fn fd gn gd : Nat → Int64} {n : Nat} : (fpool fa gn gd n).map Prod.fst = (fpool fa fn fd n).map Prod.fst := by
  unfold fpool
  rw [List.map_map, List.map_map]
  rfl
/-! the law: its world, what is fixed, what goes on from call to call -/
structure LAd where
  z0 : Nat
  r0 : Nat
  f0 : Nat
  h0 : Nat
  u0 : Nat
  o0 : Nat
  v0 : Nat
  q0 : Nat
  g0 : Nat
  w0 : Nat
  r1 : Nat
  f1 : Nat
  f2 : Nat
  h1 : Nat
  h2 : Nat
  h3 : Nat
  h4 : Nat
  u1 : Nat
  u2 : Nat
  u3 : Nat
  o1 : Nat
  o2 : Nat
  v1 : Nat
  q1 : Nat
  q2 : Nat
  g1 : Nat
  g2 : Nat
  w1 : Nat
  w2 : Nat
  y0 : Nat
  m0 : Nat
  p_text : Nat
  p_signs : Nat
  p_begins : Nat
  p_draft : Nat
  p_draftBegins : Nat
  p_above : Nat
  p_below : Nat
  p_told : Nat
  p_tops : Nat
  p_bottoms : Nat
  p_addedTop : Nat
  p_addedBottom : Nat
  p_reasons : Nat
  p_places : Nat
  p_days : Nat
  p_rowAbove : Nat
  p_rowBelow : Nat
  p_offerCents : Nat
  p_untils : Nat
  p_lefts : Nat
  p_many : Nat
  p_sums : Nat
  fa : Nat → Nat
structure LCs where
  tx : Nat → Int32
  ln : Int32
  hR : Int32
  dR : Int32
  fA : Nat → Int32
  fB : Nat → Int32
  rs : Nat → Int32
  pl : Nat → Int32
  ht : Int32
  op : Int32
  fn : Nat → Int64
  fd : Nat → Int64
  cD : Nat → Int32
  cA : Nat → Int32
  cB : Nat → Int32
  cn : Int32
  oC : Nat → Int64
  oL : Nat → Int32
  on : Int32
  iL : Nat → Int64
  vn : Int32
  mS : Nat → Int64
  mC : Nat → Int64
  sg : Nat → Int32
  en : Nat → Int32
  sc : Int32
  lc : Int32
  sg2 : Nat → Int32
  en2 : Nat → Int32
  sc2 : Int32
  lc2 : Int32
  oV : Nat → Int64
structure LMs where
  x_thrown : Int32
  x_size : Int32
  x_lines : Int32
  x_high : Int32
  x_totalTop : Int64
  x_totalBottom : Int64
  x_reason : Int32
  x_top : Int64
  x_bottom : Int64
  x_rows : Int32
  x_offers : Int32
  x_invoices : Int32
  x_draftLines : Int32
  x_text : Nat → Int32
  x_signs : Nat → Int32
  x_begins : Nat → Int32
  x_draft : Nat → Int32
  x_draftBegins : Nat → Int32
  x_above : Nat → Int64
  x_below : Nat → Int64
  x_told : Nat → Int32
  x_tops : Nat → Int64
  x_bottoms : Nat → Int64
  x_addedTop : Nat → Int64
  x_addedBottom : Nat → Int64
  x_reasons : Nat → Int32
  x_places : Nat → Int32
  x_days : Nat → Int32
  x_rowAbove : Nat → Int32
  x_rowBelow : Nat → Int32
  x_offerCents : Nat → Int64
  x_untils : Nat → Int32
  x_lefts : Nat → Int64
  x_many : Nat → Int64
  x_sums : Nat → Int64
def wl (ta : Nat → ClassId) (ad : LAd) (cs : LCs) (ms : LMs) : va_W := ([(ad.z0, .inr (9, [.ref ad.r0, .ref ad.f0, .ref ad.h0, .ref ad.u0, .ref ad.o0, .ref ad.v0, .ref ad.q0, .ref ad.g0, .ref ad.w0])), (ad.r0, .inr (6, [.ref ad.r1, .int cs.ln, .int cs.hR, .int cs.dR])), (ad.r1, .inl (ta 1, 240, .inl cs.tx)), (ad.f0, .inr (1, [.ref ad.f1, .ref ad.f2])), (ad.f1, .inl (ta 0, 26, .inl cs.fA)), (ad.f2, .inl (ta 0, 26, .inl cs.fB)), (ad.h0, .inr (7, [.ref (ad.fa 0), .ref ad.h1, .ref ad.h2, .ref ad.h3, .ref ad.h4, .int cs.ht, .int cs.op])), (ad.h1, .inl (ta 4, 6, .inr (.inr (.inr (.inr (stF ad.fa)))))), (ad.h2, .inl (ta 4, 16, .inr (.inr (.inr (.inr (adF ad.fa)))))), (ad.h3, .inl (ta 0, 16, .inl cs.rs)), (ad.h4, .inl (ta 0, 16, .inl cs.pl)), (ad.u0, .inr (0, [.ref ad.u1, .ref ad.u2, .ref ad.u3, .int cs.cn])), (ad.u1, .inl (ta 0, 8, .inl cs.cD)), (ad.u2, .inl (ta 0, 8, .inl cs.cA)), (ad.u3, .inl (ta 0, 8, .inl cs.cB)), (ad.o0, .inr (5, [.ref ad.o1, .ref ad.o2, .int cs.on])), (ad.o1, .inl (ta 2, 8, .inr (.inl cs.oC))), (ad.o2, .inl (ta 0, 8, .inl cs.oL)), (ad.v0, .inr (3, [.ref ad.v1, .int cs.vn])), (ad.v1, .inl (ta 2, 8, .inr (.inl cs.iL))), (ad.q0, .inr (4, [.ref ad.q1, .ref ad.q2])), (ad.q1, .inl (ta 2, 8, .inr (.inl cs.mS))), (ad.q2, .inl (ta 2, 8, .inr (.inl cs.mC))), (ad.g0, .inr (8, [.ref ad.g1, .ref ad.g2, .int cs.sc, .int cs.lc])), (ad.g1, .inl (ta 0, 240, .inl cs.sg)), (ad.g2, .inl (ta 0, 16, .inl cs.en)), (ad.w0, .inr (8, [.ref ad.w1, .ref ad.w2, .int cs.sc2, .int cs.lc2])), (ad.w1, .inl (ta 0, 240, .inl cs.sg2)), (ad.w2, .inl (ta 0, 16, .inl cs.en2)), (ad.m0, .inr (10, [.int ms.x_thrown, .ref ad.p_text, .int ms.x_size, .ref ad.p_signs, .ref ad.p_begins, .int ms.x_lines, .ref ad.p_draft, .ref ad.p_draftBegins, .ref ad.p_above, .ref ad.p_below, .ref ad.p_told, .ref ad.p_tops, .ref ad.p_bottoms, .int ms.x_high, .long ms.x_totalTop, .long ms.x_totalBottom, .int ms.x_reason, .ref ad.p_addedTop, .ref ad.p_addedBottom, .ref ad.p_reasons, .ref ad.p_places, .long ms.x_top, .long ms.x_bottom, .int ms.x_rows, .ref ad.p_days, .ref ad.p_rowAbove, .ref ad.p_rowBelow, .int ms.x_offers, .ref ad.p_offerCents, .ref ad.p_untils, .int ms.x_invoices, .ref ad.p_lefts, .ref ad.p_many, .ref ad.p_sums, .int ms.x_draftLines])), (ad.p_text, .inl (ta 0, 240, .inl ms.x_text)), (ad.p_signs, .inl (ta 0, 240, .inl ms.x_signs)), (ad.p_begins, .inl (ta 0, 18, .inl ms.x_begins)), (ad.p_draft, .inl (ta 0, 240, .inl ms.x_draft)), (ad.p_draftBegins, .inl (ta 0, 18, .inl ms.x_draftBegins)), (ad.p_above, .inl (ta 2, 26, .inr (.inl ms.x_above))), (ad.p_below, .inl (ta 2, 26, .inr (.inl ms.x_below))), (ad.p_told, .inl (ta 3, 26, .inl ms.x_told)), (ad.p_tops, .inl (ta 2, 8, .inr (.inl ms.x_tops))), (ad.p_bottoms, .inl (ta 2, 8, .inr (.inl ms.x_bottoms))), (ad.p_addedTop, .inl (ta 2, 16, .inr (.inl ms.x_addedTop))), (ad.p_addedBottom, .inl (ta 2, 16, .inr (.inl ms.x_addedBottom))), (ad.p_reasons, .inl (ta 0, 16, .inl ms.x_reasons)), (ad.p_places, .inl (ta 0, 16, .inl ms.x_places)), (ad.p_days, .inl (ta 0, 8, .inl ms.x_days)), (ad.p_rowAbove, .inl (ta 0, 8, .inl ms.x_rowAbove)), (ad.p_rowBelow, .inl (ta 0, 8, .inl ms.x_rowBelow)), (ad.p_offerCents, .inl (ta 2, 8, .inr (.inl ms.x_offerCents))), (ad.p_untils, .inl (ta 0, 8, .inl ms.x_untils)), (ad.p_lefts, .inl (ta 2, 8, .inr (.inl ms.x_lefts))), (ad.p_many, .inl (ta 2, 8, .inr (.inl ms.x_many))), (ad.p_sums, .inl (ta 2, 8, .inr (.inl ms.x_sums))), (ad.y0, .inl (ta 2, 1, .inr (.inl cs.oV)))] ++ fpool ad.fa cs.fn cs.fd 23)
structure SIM (n : Nat) (cs : LCs) (ms : LMs) : Prop where
  tx : TxR cs.tx cs.ln ms.x_text ms.x_size
  fc : FcR cs.fA cs.fB ms.x_above ms.x_below ms.x_told
  sh : ShX cs.sg cs.en cs.lc ms.x_signs ms.x_begins ms.x_lines
  cu : CuR cs.cD cs.cA cs.cB cs.cn ms.x_days ms.x_rowAbove ms.x_rowBelow ms.x_rows
  of : OfR cs.oC cs.oL cs.on ms.x_offerCents ms.x_untils ms.x_offers
  iv : IvR cs.iL cs.vn ms.x_lefts ms.x_invoices
  le : LeR n cs.mS cs.mC ms.x_sums ms.x_many
def llv (ad : LAd) (b : Nat) (ix : Int32) : List (Nat × Value) := [(0, .ref b), (1, .ref ad.z0), (2, .ref ad.m0), (3, .ref ad.y0), (4, .int ix)]
def LFix (p : Program) (l : Launch) (s : State) (m : MethodId) (meth : Method) (c : Code) (b L : Nat) (xs : Nat → Int32) (D : va_G) (ta : Nat → ClassId) (A : Nat → Prop) : Prop :=
  p.tables.exec = Jvm.exec ∧ c.code = code ∧ meth.sig.returnType = ret ∧ c.maxLocals = 8 ∧ s.vm.findClass "PriceLinesLaw" = some m.cls ∧ meth.locks = false ∧ (∀ w ∈ TB, w.before #[Value.ref b] s = true) ∧ va_K D vwCl (tyL ta) s ∧ NwS s ∧ TfS s ∧ NcS s ∧ noSt A s ∧ (∀ q, s.heap.size ≤ q → A q) ∧ va_X b L xs s s.heap ∧ b < s.heap.size ∧ ¬ A b ∧ l.stackTraces = false
def LGo (p : Program) (l : Launch) (e : Env) (s : State) (m : MethodId) (below : List Frame) (meth : Method) (c : Code) (b : Nat) (D : va_G) (ta : Nat → ClassId) (A : Nat → Prop) (Q : State → Prop) (n cells slots pc : Nat) (ix : Int32) : Prop :=
  ∀ (ad : LAd) (cs : LCs) (ms : LMs) (H : Heap) (locs : List Loc) (ls : Array Slot), SIM n cs ms → va_P D vwCl (wl ta ad cs ms) H → va_D A (wl ta ad cs ms) → va_S A s.heap H locs → lv_has ls 8 (llv ad b ix) → W p l e room_1 s m #[Value.ref b] below meth c H locs cells slots Q (F0 m pc ls [])
theorem lb_0 {b : Bool} {t : Int32} (e : t = b2i b) (h : t = 0) : lb b = 0 := by
  cases b
  · rfl
  · rw [e] at h; exact absurd h (by decide)
theorem lb_1 {b : Bool} {t : Int32} (e : t = b2i b) (h : ¬ t = 0) : lb b = 1 := by
  cases b
  · exact absurd e h
  · rfl
theorem lb_f {b c : Bool} (e : b = c) (h : c = false) : lb b = 0 := by rw [e, h]; rfl
theorem lb_t {b c : Bool} (e : b = c) (h : c = true) : lb b = 1 := by rw [e, h]; rfl
theorem sb2 {a b c d : Int64} (h1 : a = c) (h2 : b = d) : a - b = c - d := by rw [h1, h2]
theorem sm_at2 {cD cA cB : Nat → Int32} {cn : Int32} {ds ra rb : Nat → Int32} {rw' : Int32} {x y : Int64} {d : Int32} (h : CuR cD cA cB cn ds ra rb rw') (e : x = y) : cuC cD cA cB cn x d = atL y d ds ra rb rw' 8 y := by rw [e]; exact sm_at h
theorem op_le {a b : Int32} (e : a = b) (h : decide (a ≤ 0) = true) : b ≤ 0 := by rw [← e]; exact of_decide_eq_true h
theorem op_nle {a b : Int32} (e : a = b) (h : decide (a ≤ 0) = false) : ¬ b ≤ 0 := by rw [← e]; exact of_decide_eq_false h
theorem n8_eq {a x : Int32} (e : decide (a < 8) = !decide (x = 8)) (h : decide (a < 8) = false) : x = 8 := by
  rw [h] at e
  by_cases q : x = 8
  · exact q
  · rw [decide_eq_false q] at e; exact Bool.noConfusion e
theorem v0_le {a b : Int64} (e : a = b) (h : decide (0 ≤ a) = true) : 0 ≤ b := by rw [← e]; exact of_decide_eq_true h
theorem v0_f {a b : Int64} (e : a = b) (h : decide (0 ≤ a) = false) : decide (0 ≤ b) = false := by rw [← e]; exact h
theorem sm_lk {sg en : Nat → Int32} {lc : Int32} {xs xb : Nat → Int32} {xl : Int32} {fA fB : Nat → Int32} {ab be : Nat → Int64} {td : Nat → Int32} (h : ShX sg en lc xs xb xl) (hf : FcR fA fB ab be td) {k pt : Int32} (hk : lnOK k lc pt = true) : vp_in k 16 ∧ isIn9 k.toInt64 0 (xl.toInt64 - 1) = true ∧ isIn9 pt.toInt64 0 3 = true := (sm_line (ht := 0) (rs := fun _ => 0) (pl := fun _ => 0) (fn := fun _ => 0) (fd := fun _ => 0) (rs' := fun _ => 0) (pl' := fun _ => 0) (aT := fun _ => 0) (aB := fun _ => 0) (hi := 0) (tp := fun _ => 0) (bt := fun _ => 0) (top := 0) (bot := 0) h hf hk).2
