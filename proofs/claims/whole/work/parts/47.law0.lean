/-! a call's cells, written back where they stood -/
def lkA : Nat → List Nat → va_W → Option (Nat × va_E)
  | k, i :: is, c :: cs => if k = i then some c else lkA k is cs
  | _, _, _ => none
def stA : Nat → va_W → List Nat → va_W → va_W
  | _, [], _, _ => []
  | k, q :: X, is, w => (lkA k is w).getD q :: stA (k + 1) X is w
theorem lkA_none {k : Nat} : ∀ {is : List Nat} {w : va_W}, w.length = is.length → lkA k is w = none → k ∉ is := by
  intro is
  induction is with
  | nil => intro w _ _; simp
  | cons i is ih =>
    intro w hl h
    cases w with
    | nil => simp at hl
    | cons c cs =>
      rw [lkA] at h
      by_cases e : k = i
      · rw [if_pos e] at h; exact absurd h (by simp)
      · rw [if_neg e] at h
        have := ih (by simpa using hl) h
        simp [e, this]
theorem lkA_some {k : Nat} {c : Nat × va_E} : ∀ {is : List Nat} {w : va_W}, lkA k is w = some c → c ∈ w := by
  intro is
  induction is with
  | nil => intro w h; cases w <;> exact absurd h (by simp [lkA])
  | cons i is ih =>
    intro w h
    cases w with
    | nil => exact absurd h (by simp [lkA])
    | cons d cs =>
      rw [lkA] at h
      by_cases e : k = i
      · rw [if_pos e] at h; cases h; exact List.mem_cons_self
      · rw [if_neg e] at h; exact List.mem_cons_of_mem _ (ih h)
theorem lkA_adr {k : Nat} {c : Nat × va_E} {F : Nat → Option Nat} : ∀ {is : List Nat} {w : va_W}, is.map F = w.map (fun q => some q.1) → lkA k is w = some c → F k = some c.1 := by
  intro is
  induction is with
  | nil => intro w _ h; cases w <;> exact absurd h (by simp [lkA])
  | cons i is ih =>
    intro w hf h
    cases w with
    | nil => exact absurd h (by simp [lkA])
    | cons d cs =>
      rw [lkA] at h
      simp only [List.map_cons, List.cons.injEq] at hf
      by_cases e : k = i
      · rw [if_pos e] at h; cases h; rw [e]; exact hf.1
      · rw [if_neg e] at h; exact ih hf.2 h
theorem stA_mem {q : Nat × va_E} {is : List Nat} {w1 : va_W} (hl : w1.length = is.length) : ∀ {X : va_W} {k0 : Nat}, q ∈ stA k0 X is w1 → q ∈ w1 ∨ ∃ k : Nat, X[k]? = some q ∧ k0 + k ∉ is := by
  intro X
  induction X with
  | nil => intro k0 h; exact absurd h (by simp [stA])
  | cons x X ih =>
    intro k0 h
    rw [stA] at h
    rcases List.mem_cons.mp h with h | h
    · cases hk : lkA k0 is w1 with
      | none =>
        rw [hk] at h
        exact Or.inr ⟨0, by rw [h]; rfl, lkA_none hl hk⟩
      | some c =>
        rw [hk] at h
        rw [h]
        exact Or.inl (lkA_some hk)
    · rcases ih h with h | ⟨k, hk, hn⟩
      · exact Or.inl h
      · exact Or.inr ⟨k + 1, by simpa using hk, by rw [show k0 + (k + 1) = k0 + 1 + k by omega]; exact hn⟩
theorem stA_fst0 {is : List Nat} {w1 : va_W} {F : Nat → Option Nat} (hf : is.map F = w1.map (fun q => some q.1)) : ∀ {X : va_W} {k0 : Nat}, (∀ (k : Nat) (x : Nat × va_E), X[k]? = some x → F (k0 + k) = some x.1) → (stA k0 X is w1).map Prod.fst = X.map Prod.fst := by
  intro X
  induction X with
  | nil => intro k0 _; rfl
  | cons x X ih =>
    intro k0 hF
    rw [stA, List.map_cons, List.map_cons, ih (fun k y hk => by rw [show k0 + 1 + k = k0 + (k + 1) by omega]; exact hF (k + 1) y (by simpa using hk))]
    congr 1
    cases hk : lkA k0 is w1 with
    | none => rfl
    | some c =>
      have h1 := lkA_adr hf hk
      have h2 := hF 0 x rfl
      rw [Nat.add_zero, h1] at h2
      exact Option.some.inj h2
theorem stA_fst {is : List Nat} {X w1 : va_W} (h : is.map (fun i => (X.map Prod.fst)[i]?) = w1.map (fun q => some q.1)) : (stA 0 X is w1).map Prod.fst = X.map Prod.fst :=
  stA_fst0 h (fun k x hk => by rw [Nat.zero_add, List.getElem?_map, hk]; rfl)
theorem D_fst {A : Nat → Prop} {ws ws' : va_W} (h : ws'.map Prod.fst = ws.map Prod.fst) (hD : va_D A ws) : va_D A ws' := by
  rw [va_D_iff] at hD ⊢
  rw [h]
  refine ⟨hD.1, fun q hq => ?_⟩
  have : q.1 ∈ ws.map Prod.fst := by rw [← h]; exact List.mem_map_of_mem hq
  obtain ⟨r, hr, e⟩ := List.mem_map.mp this
  rw [← e]; exact hD.2 r hr
theorem stA_adr {X wc w1 : va_W} {is : List Nat} (hC : is.map (fun i => X[i]?) = wc.map some) (hA : w1.map Prod.fst = wc.map Prod.fst) : w1.length = is.length ∧ is.map (fun i => (X.map Prod.fst)[i]?) = w1.map (fun q => some q.1) := by
  have l1 : wc.length = is.length := by have := congrArg List.length hC; simpa using this.symm
  have l2 : w1.length = wc.length := by have := congrArg List.length hA; simpa using this
  refine ⟨by omega, ?_⟩
  have e1 : is.map (fun i => (X.map Prod.fst)[i]?) = (is.map (fun i => X[i]?)).map (Option.map Prod.fst) := by
    rw [List.map_map]
    apply List.map_congr_left
    intro i _
    simp
  rw [e1, hC, List.map_map]
  have e2 : w1.map (fun q => some q.1) = (w1.map Prod.fst).map some := by rw [List.map_map]; rfl
  rw [e2, hA, List.map_map]
  rfl
theorem Spl.sp {X cx rx X2 pl pl1 : va_W} (is : List Nat) (hC : is.map (fun i => X[i]?) = cx.map some) (hnC : va_nd is = true) (hA : rx.map Prod.fst = cx.map Prod.fst) (hX : stA 0 X is rx = X2) (hpl : pl1.map Prod.fst = pl.map Prod.fst) : Spl (X ++ pl) (cx ++ pl) (rx ++ pl1) (X2 ++ pl1) := by
  subst hX
  intro D A H hP hD
  refine ⟨hP.part is hC, hD.part is hnC hC, fun H1 hk hF hP1 hD1 => ?_⟩
  obtain ⟨hl, hf⟩ := stA_adr hC hA
  refine ⟨?_, D_fst (by rw [List.map_append, List.map_append, stA_fst hf, hpl]) hD⟩
  rw [va_P_iff] at hP1 ⊢
  intro q hq
  rcases List.mem_append.mp hq with hq | hq
  · rcases stA_mem hl hq with h | ⟨k, h, hn'⟩
    · exact hP1 q (List.mem_append_left _ h)
    · have hn : k ∉ is := by rw [Nat.zero_add] at hn'; exact hn'
      have h2 : (X ++ pl)[k]? = some q := by rw [List.getElem?_append_left (List.getElem?_eq_some_iff.mp h).1]; exact h
      have hlt := (hP k q h2).lt
      refine (hP k q h2).kept (hk q.1 hlt (fun hh => ?_))
      rcases hh with ⟨t, e, ht⟩ | hh
      · have hcase : (q.1, e) ∈ cx ∨ ∃ j : Nat, pl[j]? = some (q.1, e) := by
          rcases List.mem_append.mp (List.mem_of_getElem? ht) with z | z
          · exact Or.inl z
          · exact Or.inr (List.mem_iff_getElem?.mp z)
        rcases hcase with z | ⟨j, z⟩
        · have z2 : some (q.1, e) ∈ is.map (fun i => X[i]?) := by rw [hC]; exact List.mem_map_of_mem z
          obtain ⟨i, hi, ei⟩ := List.mem_map.mp z2
          have h3 : (X ++ pl)[i]? = some (q.1, e) := by rw [List.getElem?_append_left (List.getElem?_eq_some_iff.mp ei).1]; exact ei
          have := hD.1 k i q (q.1, e) h2 h3 rfl
          exact hn (this ▸ hi)
        · have h3 : (X ++ pl)[X.length + j]? = some (q.1, e) := by rw [List.getElem?_append_right (by omega), Nat.add_sub_cancel_left]; exact z
          have := hD.1 k _ q (q.1, e) h2 h3 rfl
          have := (List.getElem?_eq_some_iff.mp h).1
          omega
      · omega
  · exact hP1 q (List.mem_append_right _ hq)
theorem Spl.sq {X cx rx X2 pl : va_W} (is : List Nat) (hC : is.map (fun i => X[i]?) = cx.map some) (hnC : va_nd is = true) (hA : rx.map Prod.fst = cx.map Prod.fst) (hX : stA 0 X is rx = X2) : Spl (X ++ pl) cx rx (X2 ++ pl) := by
  subst hX
  intro D A H hP hD
  have hpp := hP.part is hC
  have hdd := hD.part is hnC hC
  have e0 : ∀ (k : Nat) (q : Nat × va_E), cx[k]? = some q → (cx ++ pl)[k]? = some q := fun k q h => by rw [List.getElem?_append_left (List.getElem?_eq_some_iff.mp h).1]; exact h
  refine ⟨fun k q h => hpp k q (e0 k q h), ⟨fun i j x y hx hy => hdd.1 i j x y (e0 i x hx) (e0 j y hy), fun k q h => hdd.2 k q (e0 k q h)⟩, fun H1 hk hF hP1 hD1 => ?_⟩
  obtain ⟨hl, hf⟩ := stA_adr hC hA
  refine ⟨?_, D_fst (by rw [List.map_append, List.map_append, stA_fst hf]) hD⟩
  rw [va_P_iff] at hP1 ⊢
  have hno : ∀ (k : Nat) (q : Nat × va_E), (X ++ pl)[k]? = some q → k ∉ is → va_at D vwCl q H1 := by
    intro k q h2 hn
    have hlt := (hP k q h2).lt
    refine (hP k q h2).kept (hk q.1 hlt (fun hh => ?_))
    rcases hh with ⟨t, e, ht⟩ | hh
    · have z2 : some (q.1, e) ∈ is.map (fun i => X[i]?) := by rw [hC]; exact List.mem_map_of_mem (List.mem_of_getElem? ht)
      obtain ⟨i, hi, ei⟩ := List.mem_map.mp z2
      have h3 : (X ++ pl)[i]? = some (q.1, e) := by rw [List.getElem?_append_left (List.getElem?_eq_some_iff.mp ei).1]; exact ei
      have := hD.1 k i q (q.1, e) h2 h3 rfl
      exact hn (this ▸ hi)
    · omega
  intro q hq
  rcases List.mem_append.mp hq with hq | hq
  · rcases stA_mem hl hq with h | ⟨k, h, hn'⟩
    · exact hP1 q h
    · exact hno k q (by rw [List.getElem?_append_left (List.getElem?_eq_some_iff.mp h).1]; exact h) (by rw [Nat.zero_add] at hn'; exact hn')
  · obtain ⟨j, hj⟩ := List.mem_iff_getElem?.mp hq
    refine hno (X.length + j) q (by rw [List.getElem?_append_right (by omega), Nat.add_sub_cancel_left]; exact hj) (fun hin => ?_)
    have z : X[X.length + j]? ∈ cx.map some := by rw [← hC]; exact List.mem_map_of_mem hin
    rw [List.getElem?_eq_none (by omega)] at z
    obtain ⟨r, _, hr⟩ := List.mem_map.mp z
    exact absurd hr (by simp)
theorem fp_fst {fa : Nat → Nat} {fn fd gn gd : Nat → Int64} {n : Nat} : (fpool fa gn gd n).map Prod.fst = (fpool fa fn fd n).map Prod.fst := by
  unfold fpool
  rw [List.map_map, List.map_map]
  rfl
/-! the law: its world, what is fixed, what goes on from call to call -/
abbrev LAd : Type := Nat × Nat × Nat × Nat × Nat × Nat × Nat × Nat × Nat × Nat × Nat × Nat × Nat × Nat × Nat × Nat × Nat × Nat × Nat × Nat × Nat × Nat × Nat × Nat × Nat × Nat × Nat × Nat × Nat × Nat × Nat × Nat × Nat × Nat × Nat × Nat × Nat × Nat × Nat × Nat × Nat × Nat × Nat × Nat × Nat × Nat × Nat × Nat × Nat × Nat × Nat × Nat × Nat × (Nat → Nat)
def LAd.z0 (a : LAd) : Nat := a.1
def LAd.r0 (a : LAd) : Nat := a.2.1
def LAd.f0 (a : LAd) : Nat := a.2.2.1
def LAd.h0 (a : LAd) : Nat := a.2.2.2.1
def LAd.u0 (a : LAd) : Nat := a.2.2.2.2.1
def LAd.o0 (a : LAd) : Nat := a.2.2.2.2.2.1
def LAd.v0 (a : LAd) : Nat := a.2.2.2.2.2.2.1
def LAd.q0 (a : LAd) : Nat := a.2.2.2.2.2.2.2.1
def LAd.g0 (a : LAd) : Nat := a.2.2.2.2.2.2.2.2.1
def LAd.w0 (a : LAd) : Nat := a.2.2.2.2.2.2.2.2.2.1
def LAd.r1 (a : LAd) : Nat := a.2.2.2.2.2.2.2.2.2.2.1
def LAd.f1 (a : LAd) : Nat := a.2.2.2.2.2.2.2.2.2.2.2.1
def LAd.f2 (a : LAd) : Nat := a.2.2.2.2.2.2.2.2.2.2.2.2.1
def LAd.h1 (a : LAd) : Nat := a.2.2.2.2.2.2.2.2.2.2.2.2.2.1
def LAd.h2 (a : LAd) : Nat := a.2.2.2.2.2.2.2.2.2.2.2.2.2.2.1
def LAd.h3 (a : LAd) : Nat := a.2.2.2.2.2.2.2.2.2.2.2.2.2.2.2.1
def LAd.h4 (a : LAd) : Nat := a.2.2.2.2.2.2.2.2.2.2.2.2.2.2.2.2.1
def LAd.u1 (a : LAd) : Nat := a.2.2.2.2.2.2.2.2.2.2.2.2.2.2.2.2.2.1
def LAd.u2 (a : LAd) : Nat := a.2.2.2.2.2.2.2.2.2.2.2.2.2.2.2.2.2.2.1
def LAd.u3 (a : LAd) : Nat := a.2.2.2.2.2.2.2.2.2.2.2.2.2.2.2.2.2.2.2.1
def LAd.o1 (a : LAd) : Nat := a.2.2.2.2.2.2.2.2.2.2.2.2.2.2.2.2.2.2.2.2.1
def LAd.o2 (a : LAd) : Nat := a.2.2.2.2.2.2.2.2.2.2.2.2.2.2.2.2.2.2.2.2.2.1
def LAd.v1 (a : LAd) : Nat := a.2.2.2.2.2.2.2.2.2.2.2.2.2.2.2.2.2.2.2.2.2.2.1
def LAd.q1 (a : LAd) : Nat := a.2.2.2.2.2.2.2.2.2.2.2.2.2.2.2.2.2.2.2.2.2.2.2.1
def LAd.q2 (a : LAd) : Nat := a.2.2.2.2.2.2.2.2.2.2.2.2.2.2.2.2.2.2.2.2.2.2.2.2.1
def LAd.g1 (a : LAd) : Nat := a.2.2.2.2.2.2.2.2.2.2.2.2.2.2.2.2.2.2.2.2.2.2.2.2.2.1
def LAd.g2 (a : LAd) : Nat := a.2.2.2.2.2.2.2.2.2.2.2.2.2.2.2.2.2.2.2.2.2.2.2.2.2.2.1
def LAd.w1 (a : LAd) : Nat := a.2.2.2.2.2.2.2.2.2.2.2.2.2.2.2.2.2.2.2.2.2.2.2.2.2.2.2.1
def LAd.w2 (a : LAd) : Nat := a.2.2.2.2.2.2.2.2.2.2.2.2.2.2.2.2.2.2.2.2.2.2.2.2.2.2.2.2.1
def LAd.y0 (a : LAd) : Nat := a.2.2.2.2.2.2.2.2.2.2.2.2.2.2.2.2.2.2.2.2.2.2.2.2.2.2.2.2.2.1
def LAd.m0 (a : LAd) : Nat := a.2.2.2.2.2.2.2.2.2.2.2.2.2.2.2.2.2.2.2.2.2.2.2.2.2.2.2.2.2.2.1
def LAd.p_text (a : LAd) : Nat := a.2.2.2.2.2.2.2.2.2.2.2.2.2.2.2.2.2.2.2.2.2.2.2.2.2.2.2.2.2.2.2.1
def LAd.p_signs (a : LAd) : Nat := a.2.2.2.2.2.2.2.2.2.2.2.2.2.2.2.2.2.2.2.2.2.2.2.2.2.2.2.2.2.2.2.2.1
def LAd.p_begins (a : LAd) : Nat := a.2.2.2.2.2.2.2.2.2.2.2.2.2.2.2.2.2.2.2.2.2.2.2.2.2.2.2.2.2.2.2.2.2.1
def LAd.p_draft (a : LAd) : Nat := a.2.2.2.2.2.2.2.2.2.2.2.2.2.2.2.2.2.2.2.2.2.2.2.2.2.2.2.2.2.2.2.2.2.2.1
def LAd.p_draftBegins (a : LAd) : Nat := a.2.2.2.2.2.2.2.2.2.2.2.2.2.2.2.2.2.2.2.2.2.2.2.2.2.2.2.2.2.2.2.2.2.2.2.1
def LAd.p_above (a : LAd) : Nat := a.2.2.2.2.2.2.2.2.2.2.2.2.2.2.2.2.2.2.2.2.2.2.2.2.2.2.2.2.2.2.2.2.2.2.2.2.1
def LAd.p_below (a : LAd) : Nat := a.2.2.2.2.2.2.2.2.2.2.2.2.2.2.2.2.2.2.2.2.2.2.2.2.2.2.2.2.2.2.2.2.2.2.2.2.2.1
def LAd.p_told (a : LAd) : Nat := a.2.2.2.2.2.2.2.2.2.2.2.2.2.2.2.2.2.2.2.2.2.2.2.2.2.2.2.2.2.2.2.2.2.2.2.2.2.2.1
def LAd.p_tops (a : LAd) : Nat := a.2.2.2.2.2.2.2.2.2.2.2.2.2.2.2.2.2.2.2.2.2.2.2.2.2.2.2.2.2.2.2.2.2.2.2.2.2.2.2.1
def LAd.p_bottoms (a : LAd) : Nat := a.2.2.2.2.2.2.2.2.2.2.2.2.2.2.2.2.2.2.2.2.2.2.2.2.2.2.2.2.2.2.2.2.2.2.2.2.2.2.2.2.1
def LAd.p_addedTop (a : LAd) : Nat := a.2.2.2.2.2.2.2.2.2.2.2.2.2.2.2.2.2.2.2.2.2.2.2.2.2.2.2.2.2.2.2.2.2.2.2.2.2.2.2.2.2.1
def LAd.p_addedBottom (a : LAd) : Nat := a.2.2.2.2.2.2.2.2.2.2.2.2.2.2.2.2.2.2.2.2.2.2.2.2.2.2.2.2.2.2.2.2.2.2.2.2.2.2.2.2.2.2.1
def LAd.p_reasons (a : LAd) : Nat := a.2.2.2.2.2.2.2.2.2.2.2.2.2.2.2.2.2.2.2.2.2.2.2.2.2.2.2.2.2.2.2.2.2.2.2.2.2.2.2.2.2.2.2.1
def LAd.p_places (a : LAd) : Nat := a.2.2.2.2.2.2.2.2.2.2.2.2.2.2.2.2.2.2.2.2.2.2.2.2.2.2.2.2.2.2.2.2.2.2.2.2.2.2.2.2.2.2.2.2.1
def LAd.p_days (a : LAd) : Nat := a.2.2.2.2.2.2.2.2.2.2.2.2.2.2.2.2.2.2.2.2.2.2.2.2.2.2.2.2.2.2.2.2.2.2.2.2.2.2.2.2.2.2.2.2.2.1
def LAd.p_rowAbove (a : LAd) : Nat := a.2.2.2.2.2.2.2.2.2.2.2.2.2.2.2.2.2.2.2.2.2.2.2.2.2.2.2.2.2.2.2.2.2.2.2.2.2.2.2.2.2.2.2.2.2.2.1
def LAd.p_rowBelow (a : LAd) : Nat := a.2.2.2.2.2.2.2.2.2.2.2.2.2.2.2.2.2.2.2.2.2.2.2.2.2.2.2.2.2.2.2.2.2.2.2.2.2.2.2.2.2.2.2.2.2.2.2.1
def LAd.p_offerCents (a : LAd) : Nat := a.2.2.2.2.2.2.2.2.2.2.2.2.2.2.2.2.2.2.2.2.2.2.2.2.2.2.2.2.2.2.2.2.2.2.2.2.2.2.2.2.2.2.2.2.2.2.2.2.1
def LAd.p_untils (a : LAd) : Nat := a.2.2.2.2.2.2.2.2.2.2.2.2.2.2.2.2.2.2.2.2.2.2.2.2.2.2.2.2.2.2.2.2.2.2.2.2.2.2.2.2.2.2.2.2.2.2.2.2.2.1
def LAd.p_lefts (a : LAd) : Nat := a.2.2.2.2.2.2.2.2.2.2.2.2.2.2.2.2.2.2.2.2.2.2.2.2.2.2.2.2.2.2.2.2.2.2.2.2.2.2.2.2.2.2.2.2.2.2.2.2.2.2.1
def LAd.p_many (a : LAd) : Nat := a.2.2.2.2.2.2.2.2.2.2.2.2.2.2.2.2.2.2.2.2.2.2.2.2.2.2.2.2.2.2.2.2.2.2.2.2.2.2.2.2.2.2.2.2.2.2.2.2.2.2.2.1
def LAd.p_sums (a : LAd) : Nat := a.2.2.2.2.2.2.2.2.2.2.2.2.2.2.2.2.2.2.2.2.2.2.2.2.2.2.2.2.2.2.2.2.2.2.2.2.2.2.2.2.2.2.2.2.2.2.2.2.2.2.2.2.1
def LAd.fa (a : LAd) : Nat → Nat := a.2.2.2.2.2.2.2.2.2.2.2.2.2.2.2.2.2.2.2.2.2.2.2.2.2.2.2.2.2.2.2.2.2.2.2.2.2.2.2.2.2.2.2.2.2.2.2.2.2.2.2.2.2
def mkAd (z0 : Nat) (r0 : Nat) (f0 : Nat) (h0 : Nat) (u0 : Nat) (o0 : Nat) (v0 : Nat) (q0 : Nat) (g0 : Nat) (w0 : Nat) (r1 : Nat) (f1 : Nat) (f2 : Nat) (h1 : Nat) (h2 : Nat) (h3 : Nat) (h4 : Nat) (u1 : Nat) (u2 : Nat) (u3 : Nat) (o1 : Nat) (o2 : Nat) (v1 : Nat) (q1 : Nat) (q2 : Nat) (g1 : Nat) (g2 : Nat) (w1 : Nat) (w2 : Nat) (y0 : Nat) (m0 : Nat) (p_text : Nat) (p_signs : Nat) (p_begins : Nat) (p_draft : Nat) (p_draftBegins : Nat) (p_above : Nat) (p_below : Nat) (p_told : Nat) (p_tops : Nat) (p_bottoms : Nat) (p_addedTop : Nat) (p_addedBottom : Nat) (p_reasons : Nat) (p_places : Nat) (p_days : Nat) (p_rowAbove : Nat) (p_rowBelow : Nat) (p_offerCents : Nat) (p_untils : Nat) (p_lefts : Nat) (p_many : Nat) (p_sums : Nat) (fa : Nat → Nat) : LAd := (z0, r0, f0, h0, u0, o0, v0, q0, g0, w0, r1, f1, f2, h1, h2, h3, h4, u1, u2, u3, o1, o2, v1, q1, q2, g1, g2, w1, w2, y0, m0, p_text, p_signs, p_begins, p_draft, p_draftBegins, p_above, p_below, p_told, p_tops, p_bottoms, p_addedTop, p_addedBottom, p_reasons, p_places, p_days, p_rowAbove, p_rowBelow, p_offerCents, p_untils, p_lefts, p_many, p_sums, fa)
abbrev LCs : Type := (Nat → Int32) × Int32 × Int32 × Int32 × (Nat → Int32) × (Nat → Int32) × (Nat → Int32) × (Nat → Int32) × Int32 × Int32 × (Nat → Int64) × (Nat → Int64) × (Nat → Int32) × (Nat → Int32) × (Nat → Int32) × Int32 × (Nat → Int64) × (Nat → Int32) × Int32 × (Nat → Int64) × Int32 × (Nat → Int64) × (Nat → Int64) × (Nat → Int32) × (Nat → Int32) × Int32 × Int32 × (Nat → Int32) × (Nat → Int32) × Int32 × Int32 × (Nat → Int64)
def LCs.tx (a : LCs) : Nat → Int32 := a.1
def LCs.ln (a : LCs) : Int32 := a.2.1
def LCs.hR (a : LCs) : Int32 := a.2.2.1
def LCs.dR (a : LCs) : Int32 := a.2.2.2.1
def LCs.fA (a : LCs) : Nat → Int32 := a.2.2.2.2.1
def LCs.fB (a : LCs) : Nat → Int32 := a.2.2.2.2.2.1
def LCs.rs (a : LCs) : Nat → Int32 := a.2.2.2.2.2.2.1
def LCs.pl (a : LCs) : Nat → Int32 := a.2.2.2.2.2.2.2.1
def LCs.ht (a : LCs) : Int32 := a.2.2.2.2.2.2.2.2.1
def LCs.op (a : LCs) : Int32 := a.2.2.2.2.2.2.2.2.2.1
def LCs.fn (a : LCs) : Nat → Int64 := a.2.2.2.2.2.2.2.2.2.2.1
def LCs.fd (a : LCs) : Nat → Int64 := a.2.2.2.2.2.2.2.2.2.2.2.1
def LCs.cD (a : LCs) : Nat → Int32 := a.2.2.2.2.2.2.2.2.2.2.2.2.1
def LCs.cA (a : LCs) : Nat → Int32 := a.2.2.2.2.2.2.2.2.2.2.2.2.2.1
def LCs.cB (a : LCs) : Nat → Int32 := a.2.2.2.2.2.2.2.2.2.2.2.2.2.2.1
def LCs.cn (a : LCs) : Int32 := a.2.2.2.2.2.2.2.2.2.2.2.2.2.2.2.1
def LCs.oC (a : LCs) : Nat → Int64 := a.2.2.2.2.2.2.2.2.2.2.2.2.2.2.2.2.1
def LCs.oL (a : LCs) : Nat → Int32 := a.2.2.2.2.2.2.2.2.2.2.2.2.2.2.2.2.2.1
def LCs.on (a : LCs) : Int32 := a.2.2.2.2.2.2.2.2.2.2.2.2.2.2.2.2.2.2.1
def LCs.iL (a : LCs) : Nat → Int64 := a.2.2.2.2.2.2.2.2.2.2.2.2.2.2.2.2.2.2.2.1
def LCs.vn (a : LCs) : Int32 := a.2.2.2.2.2.2.2.2.2.2.2.2.2.2.2.2.2.2.2.2.1
def LCs.mS (a : LCs) : Nat → Int64 := a.2.2.2.2.2.2.2.2.2.2.2.2.2.2.2.2.2.2.2.2.2.1
def LCs.mC (a : LCs) : Nat → Int64 := a.2.2.2.2.2.2.2.2.2.2.2.2.2.2.2.2.2.2.2.2.2.2.1
def LCs.sg (a : LCs) : Nat → Int32 := a.2.2.2.2.2.2.2.2.2.2.2.2.2.2.2.2.2.2.2.2.2.2.2.1
def LCs.en (a : LCs) : Nat → Int32 := a.2.2.2.2.2.2.2.2.2.2.2.2.2.2.2.2.2.2.2.2.2.2.2.2.1
def LCs.sc (a : LCs) : Int32 := a.2.2.2.2.2.2.2.2.2.2.2.2.2.2.2.2.2.2.2.2.2.2.2.2.2.1
def LCs.lc (a : LCs) : Int32 := a.2.2.2.2.2.2.2.2.2.2.2.2.2.2.2.2.2.2.2.2.2.2.2.2.2.2.1
def LCs.sg2 (a : LCs) : Nat → Int32 := a.2.2.2.2.2.2.2.2.2.2.2.2.2.2.2.2.2.2.2.2.2.2.2.2.2.2.2.1
def LCs.en2 (a : LCs) : Nat → Int32 := a.2.2.2.2.2.2.2.2.2.2.2.2.2.2.2.2.2.2.2.2.2.2.2.2.2.2.2.2.1
def LCs.sc2 (a : LCs) : Int32 := a.2.2.2.2.2.2.2.2.2.2.2.2.2.2.2.2.2.2.2.2.2.2.2.2.2.2.2.2.2.1
def LCs.lc2 (a : LCs) : Int32 := a.2.2.2.2.2.2.2.2.2.2.2.2.2.2.2.2.2.2.2.2.2.2.2.2.2.2.2.2.2.2.1
def LCs.oV (a : LCs) : Nat → Int64 := a.2.2.2.2.2.2.2.2.2.2.2.2.2.2.2.2.2.2.2.2.2.2.2.2.2.2.2.2.2.2.2
def mkCs (tx : Nat → Int32) (ln : Int32) (hR : Int32) (dR : Int32) (fA : Nat → Int32) (fB : Nat → Int32) (rs : Nat → Int32) (pl : Nat → Int32) (ht : Int32) (op : Int32) (fn : Nat → Int64) (fd : Nat → Int64) (cD : Nat → Int32) (cA : Nat → Int32) (cB : Nat → Int32) (cn : Int32) (oC : Nat → Int64) (oL : Nat → Int32) (on : Int32) (iL : Nat → Int64) (vn : Int32) (mS : Nat → Int64) (mC : Nat → Int64) (sg : Nat → Int32) (en : Nat → Int32) (sc : Int32) (lc : Int32) (sg2 : Nat → Int32) (en2 : Nat → Int32) (sc2 : Int32) (lc2 : Int32) (oV : Nat → Int64) : LCs := (tx, ln, hR, dR, fA, fB, rs, pl, ht, op, fn, fd, cD, cA, cB, cn, oC, oL, on, iL, vn, mS, mC, sg, en, sc, lc, sg2, en2, sc2, lc2, oV)
abbrev LMs : Type := Int32 × Int32 × Int32 × Int32 × Int64 × Int64 × Int32 × Int64 × Int64 × Int32 × Int32 × Int32 × Int32 × (Nat → Int32) × (Nat → Int32) × (Nat → Int32) × (Nat → Int32) × (Nat → Int32) × (Nat → Int64) × (Nat → Int64) × (Nat → Int32) × (Nat → Int64) × (Nat → Int64) × (Nat → Int64) × (Nat → Int64) × (Nat → Int32) × (Nat → Int32) × (Nat → Int32) × (Nat → Int32) × (Nat → Int32) × (Nat → Int64) × (Nat → Int32) × (Nat → Int64) × (Nat → Int64) × (Nat → Int64)
def LMs.x_thrown (a : LMs) : Int32 := a.1
def LMs.x_size (a : LMs) : Int32 := a.2.1
def LMs.x_lines (a : LMs) : Int32 := a.2.2.1
def LMs.x_high (a : LMs) : Int32 := a.2.2.2.1
def LMs.x_totalTop (a : LMs) : Int64 := a.2.2.2.2.1
def LMs.x_totalBottom (a : LMs) : Int64 := a.2.2.2.2.2.1
def LMs.x_reason (a : LMs) : Int32 := a.2.2.2.2.2.2.1
def LMs.x_top (a : LMs) : Int64 := a.2.2.2.2.2.2.2.1
def LMs.x_bottom (a : LMs) : Int64 := a.2.2.2.2.2.2.2.2.1
def LMs.x_rows (a : LMs) : Int32 := a.2.2.2.2.2.2.2.2.2.1
def LMs.x_offers (a : LMs) : Int32 := a.2.2.2.2.2.2.2.2.2.2.1
def LMs.x_invoices (a : LMs) : Int32 := a.2.2.2.2.2.2.2.2.2.2.2.1
def LMs.x_draftLines (a : LMs) : Int32 := a.2.2.2.2.2.2.2.2.2.2.2.2.1
def LMs.x_text (a : LMs) : Nat → Int32 := a.2.2.2.2.2.2.2.2.2.2.2.2.2.1
def LMs.x_signs (a : LMs) : Nat → Int32 := a.2.2.2.2.2.2.2.2.2.2.2.2.2.2.1
def LMs.x_begins (a : LMs) : Nat → Int32 := a.2.2.2.2.2.2.2.2.2.2.2.2.2.2.2.1
def LMs.x_draft (a : LMs) : Nat → Int32 := a.2.2.2.2.2.2.2.2.2.2.2.2.2.2.2.2.1
def LMs.x_draftBegins (a : LMs) : Nat → Int32 := a.2.2.2.2.2.2.2.2.2.2.2.2.2.2.2.2.2.1
def LMs.x_above (a : LMs) : Nat → Int64 := a.2.2.2.2.2.2.2.2.2.2.2.2.2.2.2.2.2.2.1
def LMs.x_below (a : LMs) : Nat → Int64 := a.2.2.2.2.2.2.2.2.2.2.2.2.2.2.2.2.2.2.2.1
def LMs.x_told (a : LMs) : Nat → Int32 := a.2.2.2.2.2.2.2.2.2.2.2.2.2.2.2.2.2.2.2.2.1
def LMs.x_tops (a : LMs) : Nat → Int64 := a.2.2.2.2.2.2.2.2.2.2.2.2.2.2.2.2.2.2.2.2.2.1
def LMs.x_bottoms (a : LMs) : Nat → Int64 := a.2.2.2.2.2.2.2.2.2.2.2.2.2.2.2.2.2.2.2.2.2.2.1
def LMs.x_addedTop (a : LMs) : Nat → Int64 := a.2.2.2.2.2.2.2.2.2.2.2.2.2.2.2.2.2.2.2.2.2.2.2.1
def LMs.x_addedBottom (a : LMs) : Nat → Int64 := a.2.2.2.2.2.2.2.2.2.2.2.2.2.2.2.2.2.2.2.2.2.2.2.2.1
def LMs.x_reasons (a : LMs) : Nat → Int32 := a.2.2.2.2.2.2.2.2.2.2.2.2.2.2.2.2.2.2.2.2.2.2.2.2.2.1
def LMs.x_places (a : LMs) : Nat → Int32 := a.2.2.2.2.2.2.2.2.2.2.2.2.2.2.2.2.2.2.2.2.2.2.2.2.2.2.1
def LMs.x_days (a : LMs) : Nat → Int32 := a.2.2.2.2.2.2.2.2.2.2.2.2.2.2.2.2.2.2.2.2.2.2.2.2.2.2.2.1
def LMs.x_rowAbove (a : LMs) : Nat → Int32 := a.2.2.2.2.2.2.2.2.2.2.2.2.2.2.2.2.2.2.2.2.2.2.2.2.2.2.2.2.1
def LMs.x_rowBelow (a : LMs) : Nat → Int32 := a.2.2.2.2.2.2.2.2.2.2.2.2.2.2.2.2.2.2.2.2.2.2.2.2.2.2.2.2.2.1
def LMs.x_offerCents (a : LMs) : Nat → Int64 := a.2.2.2.2.2.2.2.2.2.2.2.2.2.2.2.2.2.2.2.2.2.2.2.2.2.2.2.2.2.2.1
def LMs.x_untils (a : LMs) : Nat → Int32 := a.2.2.2.2.2.2.2.2.2.2.2.2.2.2.2.2.2.2.2.2.2.2.2.2.2.2.2.2.2.2.2.1
def LMs.x_lefts (a : LMs) : Nat → Int64 := a.2.2.2.2.2.2.2.2.2.2.2.2.2.2.2.2.2.2.2.2.2.2.2.2.2.2.2.2.2.2.2.2.1
def LMs.x_many (a : LMs) : Nat → Int64 := a.2.2.2.2.2.2.2.2.2.2.2.2.2.2.2.2.2.2.2.2.2.2.2.2.2.2.2.2.2.2.2.2.2.1
def LMs.x_sums (a : LMs) : Nat → Int64 := a.2.2.2.2.2.2.2.2.2.2.2.2.2.2.2.2.2.2.2.2.2.2.2.2.2.2.2.2.2.2.2.2.2.2
def mkMs (x_thrown : Int32) (x_size : Int32) (x_lines : Int32) (x_high : Int32) (x_totalTop : Int64) (x_totalBottom : Int64) (x_reason : Int32) (x_top : Int64) (x_bottom : Int64) (x_rows : Int32) (x_offers : Int32) (x_invoices : Int32) (x_draftLines : Int32) (x_text : Nat → Int32) (x_signs : Nat → Int32) (x_begins : Nat → Int32) (x_draft : Nat → Int32) (x_draftBegins : Nat → Int32) (x_above : Nat → Int64) (x_below : Nat → Int64) (x_told : Nat → Int32) (x_tops : Nat → Int64) (x_bottoms : Nat → Int64) (x_addedTop : Nat → Int64) (x_addedBottom : Nat → Int64) (x_reasons : Nat → Int32) (x_places : Nat → Int32) (x_days : Nat → Int32) (x_rowAbove : Nat → Int32) (x_rowBelow : Nat → Int32) (x_offerCents : Nat → Int64) (x_untils : Nat → Int32) (x_lefts : Nat → Int64) (x_many : Nat → Int64) (x_sums : Nat → Int64) : LMs := (x_thrown, x_size, x_lines, x_high, x_totalTop, x_totalBottom, x_reason, x_top, x_bottom, x_rows, x_offers, x_invoices, x_draftLines, x_text, x_signs, x_begins, x_draft, x_draftBegins, x_above, x_below, x_told, x_tops, x_bottoms, x_addedTop, x_addedBottom, x_reasons, x_places, x_days, x_rowAbove, x_rowBelow, x_offerCents, x_untils, x_lefts, x_many, x_sums)
def wl (ta : Nat → ClassId) (ad : LAd) (cs : LCs) (ms : LMs) : va_W := ([(ad.z0, .inr (9, [.ref ad.r0, .ref ad.f0, .ref ad.h0, .ref ad.u0, .ref ad.o0, .ref ad.v0, .ref ad.q0, .ref ad.g0, .ref ad.w0])), (ad.r0, .inr (6, [.ref ad.r1, .int cs.ln, .int cs.hR, .int cs.dR])), (ad.r1, .inl (ta 1, 240, .inl cs.tx)), (ad.f0, .inr (1, [.ref ad.f1, .ref ad.f2])), (ad.f1, .inl (ta 0, 26, .inl cs.fA)), (ad.f2, .inl (ta 0, 26, .inl cs.fB)), (ad.h0, .inr (7, [.ref (ad.fa 0), .ref ad.h1, .ref ad.h2, .ref ad.h3, .ref ad.h4, .int cs.ht, .int cs.op])), (ad.h1, .inl (ta 4, 6, .inr (.inr (.inr (.inr (stF ad.fa)))))), (ad.h2, .inl (ta 4, 16, .inr (.inr (.inr (.inr (adF ad.fa)))))), (ad.h3, .inl (ta 0, 16, .inl cs.rs)), (ad.h4, .inl (ta 0, 16, .inl cs.pl)), (ad.u0, .inr (0, [.ref ad.u1, .ref ad.u2, .ref ad.u3, .int cs.cn])), (ad.u1, .inl (ta 0, 8, .inl cs.cD)), (ad.u2, .inl (ta 0, 8, .inl cs.cA)), (ad.u3, .inl (ta 0, 8, .inl cs.cB)), (ad.o0, .inr (5, [.ref ad.o1, .ref ad.o2, .int cs.on])), (ad.o1, .inl (ta 2, 8, .inr (.inl cs.oC))), (ad.o2, .inl (ta 0, 8, .inl cs.oL)), (ad.v0, .inr (3, [.ref ad.v1, .int cs.vn])), (ad.v1, .inl (ta 2, 8, .inr (.inl cs.iL))), (ad.q0, .inr (4, [.ref ad.q1, .ref ad.q2])), (ad.q1, .inl (ta 2, 8, .inr (.inl cs.mS))), (ad.q2, .inl (ta 2, 8, .inr (.inl cs.mC))), (ad.g0, .inr (8, [.ref ad.g1, .ref ad.g2, .int cs.sc, .int cs.lc])), (ad.g1, .inl (ta 0, 240, .inl cs.sg)), (ad.g2, .inl (ta 0, 16, .inl cs.en)), (ad.w0, .inr (8, [.ref ad.w1, .ref ad.w2, .int cs.sc2, .int cs.lc2])), (ad.w1, .inl (ta 0, 240, .inl cs.sg2)), (ad.w2, .inl (ta 0, 16, .inl cs.en2)), (ad.m0, .inr (10, [.int ms.x_thrown, .ref ad.p_text, .int ms.x_size, .ref ad.p_signs, .ref ad.p_begins, .int ms.x_lines, .ref ad.p_draft, .ref ad.p_draftBegins, .ref ad.p_above, .ref ad.p_below, .ref ad.p_told, .ref ad.p_tops, .ref ad.p_bottoms, .int ms.x_high, .long ms.x_totalTop, .long ms.x_totalBottom, .int ms.x_reason, .ref ad.p_addedTop, .ref ad.p_addedBottom, .ref ad.p_reasons, .ref ad.p_places, .long ms.x_top, .long ms.x_bottom, .int ms.x_rows, .ref ad.p_days, .ref ad.p_rowAbove, .ref ad.p_rowBelow, .int ms.x_offers, .ref ad.p_offerCents, .ref ad.p_untils, .int ms.x_invoices, .ref ad.p_lefts, .ref ad.p_many, .ref ad.p_sums, .int ms.x_draftLines])), (ad.p_text, .inl (ta 0, 240, .inl ms.x_text)), (ad.p_signs, .inl (ta 0, 240, .inl ms.x_signs)), (ad.p_begins, .inl (ta 0, 18, .inl ms.x_begins)), (ad.p_draft, .inl (ta 0, 240, .inl ms.x_draft)), (ad.p_draftBegins, .inl (ta 0, 18, .inl ms.x_draftBegins)), (ad.p_above, .inl (ta 2, 26, .inr (.inl ms.x_above))), (ad.p_below, .inl (ta 2, 26, .inr (.inl ms.x_below))), (ad.p_told, .inl (ta 3, 26, .inl ms.x_told)), (ad.p_tops, .inl (ta 2, 8, .inr (.inl ms.x_tops))), (ad.p_bottoms, .inl (ta 2, 8, .inr (.inl ms.x_bottoms))), (ad.p_addedTop, .inl (ta 2, 16, .inr (.inl ms.x_addedTop))), (ad.p_addedBottom, .inl (ta 2, 16, .inr (.inl ms.x_addedBottom))), (ad.p_reasons, .inl (ta 0, 16, .inl ms.x_reasons)), (ad.p_places, .inl (ta 0, 16, .inl ms.x_places)), (ad.p_days, .inl (ta 0, 8, .inl ms.x_days)), (ad.p_rowAbove, .inl (ta 0, 8, .inl ms.x_rowAbove)), (ad.p_rowBelow, .inl (ta 0, 8, .inl ms.x_rowBelow)), (ad.p_offerCents, .inl (ta 2, 8, .inr (.inl ms.x_offerCents))), (ad.p_untils, .inl (ta 0, 8, .inl ms.x_untils)), (ad.p_lefts, .inl (ta 2, 8, .inr (.inl ms.x_lefts))), (ad.p_many, .inl (ta 2, 8, .inr (.inl ms.x_many))), (ad.p_sums, .inl (ta 2, 8, .inr (.inl ms.x_sums))), (ad.y0, .inl (ta 2, 1, .inr (.inl cs.oV)))] ++ fpool ad.fa cs.fn cs.fd 23)
abbrev SIM (n : Nat) (cs : LCs) (ms : LMs) : Prop := TxR cs.tx cs.ln ms.x_text ms.x_size ∧ FcR cs.fA cs.fB ms.x_above ms.x_below ms.x_told ∧ ShX cs.sg cs.en cs.lc ms.x_signs ms.x_begins ms.x_lines ∧ CuR cs.cD cs.cA cs.cB cs.cn ms.x_days ms.x_rowAbove ms.x_rowBelow ms.x_rows ∧ OfR cs.oC cs.oL cs.on ms.x_offerCents ms.x_untils ms.x_offers ∧ IvR cs.iL cs.vn ms.x_lefts ms.x_invoices ∧ LeR n cs.mS cs.mC ms.x_sums ms.x_many
theorem SIM.tx {n : Nat} {cs : LCs} {ms : LMs} (h : SIM n cs ms) : TxR cs.tx cs.ln ms.x_text ms.x_size := h.1
theorem SIM.fc {n : Nat} {cs : LCs} {ms : LMs} (h : SIM n cs ms) : FcR cs.fA cs.fB ms.x_above ms.x_below ms.x_told := h.2.1
theorem SIM.sh {n : Nat} {cs : LCs} {ms : LMs} (h : SIM n cs ms) : ShX cs.sg cs.en cs.lc ms.x_signs ms.x_begins ms.x_lines := h.2.2.1
theorem SIM.cu {n : Nat} {cs : LCs} {ms : LMs} (h : SIM n cs ms) : CuR cs.cD cs.cA cs.cB cs.cn ms.x_days ms.x_rowAbove ms.x_rowBelow ms.x_rows := h.2.2.2.1
theorem SIM.of {n : Nat} {cs : LCs} {ms : LMs} (h : SIM n cs ms) : OfR cs.oC cs.oL cs.on ms.x_offerCents ms.x_untils ms.x_offers := h.2.2.2.2.1
theorem SIM.iv {n : Nat} {cs : LCs} {ms : LMs} (h : SIM n cs ms) : IvR cs.iL cs.vn ms.x_lefts ms.x_invoices := h.2.2.2.2.2.1
theorem SIM.le {n : Nat} {cs : LCs} {ms : LMs} (h : SIM n cs ms) : LeR n cs.mS cs.mC ms.x_sums ms.x_many := h.2.2.2.2.2.2
def llv (ad : LAd) (b : Nat) (ix : Int32) : List (Nat × Value) := [(0, .ref b), (1, .ref ad.z0), (2, .ref ad.m0), (3, .ref ad.y0), (4, .int ix)]
def LFix (p : Program) (l : Launch) (s : State) (m : MethodId) (meth : Method) (c : Code) (b L : Nat) (xs : Nat → Int32) (D : va_G) (ta : Nat → ClassId) (A : Nat → Prop) : Prop :=
  p.tables.exec = Jvm.exec ∧ c.code = code ∧ meth.sig.returnType = ret ∧ c.maxLocals = 8 ∧ s.vm.findClass "PriceLinesLaw" = some m.cls ∧ meth.locks = false ∧ (∀ w ∈ TB, w.before #[Value.ref b] s = true) ∧ va_K D vwCl (tyL ta) s ∧ NwS s ∧ TfS s ∧ NcS s ∧ noSt A s ∧ (∀ q, s.heap.size ≤ q → A q) ∧ va_X b L xs s s.heap ∧ b < s.heap.size ∧ ¬ A b ∧ l.stackTraces = false
def LGo (p : Program) (l : Launch) (e : Env) (s : State) (m : MethodId) (below : List Frame) (meth : Method) (c : Code) (b : Nat) (D : va_G) (ta : Nat → ClassId) (A : Nat → Prop) (Q : State → Prop) (n cells slots pc : Nat) (ix : Int32) : Prop :=
  ∀ (ad : LAd) (cs : LCs) (ms : LMs) (H : Heap) (locs : List Loc) (ls : Array Slot), SIM n cs ms → va_P D vwCl (wl ta ad cs ms) H → va_D A (wl ta ad cs ms) → va_S A s.heap H locs → lv_has ls 8 (llv ad b ix) → W p l e room_1 s m #[Value.ref b] below meth c H locs cells slots Q (F0 m pc ls [])
theorem LGo_ex {p : Program} {l : Launch} {e : Env} {s : State} {m : MethodId} {below : List Frame} {meth : Method} {c : Code} {b : Nat} {D : va_G} {ta : Nat → ClassId} {A : Nat → Prop} {Q : State → Prop} {n cells slots pc : Nat} {ix : Int32} (N9 : LGo p l e s m below meth c b D ta A Q n cells slots pc ix) (z0 : Nat) (r0 : Nat) (f0 : Nat) (h0 : Nat) (u0 : Nat) (o0 : Nat) (v0 : Nat) (q0 : Nat) (g0 : Nat) (w0 : Nat) (r1 : Nat) (f1 : Nat) (f2 : Nat) (h1 : Nat) (h2 : Nat) (h3 : Nat) (h4 : Nat) (u1 : Nat) (u2 : Nat) (u3 : Nat) (o1 : Nat) (o2 : Nat) (v1 : Nat) (q1 : Nat) (q2 : Nat) (g1 : Nat) (g2 : Nat) (w1 : Nat) (w2 : Nat) (y0 : Nat) (m0 : Nat) (p_text : Nat) (p_signs : Nat) (p_begins : Nat) (p_draft : Nat) (p_draftBegins : Nat) (p_above : Nat) (p_below : Nat) (p_told : Nat) (p_tops : Nat) (p_bottoms : Nat) (p_addedTop : Nat) (p_addedBottom : Nat) (p_reasons : Nat) (p_places : Nat) (p_days : Nat) (p_rowAbove : Nat) (p_rowBelow : Nat) (p_offerCents : Nat) (p_untils : Nat) (p_lefts : Nat) (p_many : Nat) (p_sums : Nat) (fa : Nat → Nat) (tx : Nat → Int32) (ln : Int32) (hR : Int32) (dR : Int32) (fA : Nat → Int32) (fB : Nat → Int32) (rs : Nat → Int32) (pl : Nat → Int32) (ht : Int32) (op : Int32) (fn : Nat → Int64) (fd : Nat → Int64) (cD : Nat → Int32) (cA : Nat → Int32) (cB : Nat → Int32) (cn : Int32) (oC : Nat → Int64) (oL : Nat → Int32) (on : Int32) (iL : Nat → Int64) (vn : Int32) (mS : Nat → Int64) (mC : Nat → Int64) (sg : Nat → Int32) (en : Nat → Int32) (sc : Int32) (lc : Int32) (sg2 : Nat → Int32) (en2 : Nat → Int32) (sc2 : Int32) (lc2 : Int32) (oV : Nat → Int64) (x_thrown : Int32) (x_size : Int32) (x_lines : Int32) (x_high : Int32) (x_totalTop : Int64) (x_totalBottom : Int64) (x_reason : Int32) (x_top : Int64) (x_bottom : Int64) (x_rows : Int32) (x_offers : Int32) (x_invoices : Int32) (x_draftLines : Int32) (x_text : Nat → Int32) (x_signs : Nat → Int32) (x_begins : Nat → Int32) (x_draft : Nat → Int32) (x_draftBegins : Nat → Int32) (x_above : Nat → Int64) (x_below : Nat → Int64) (x_told : Nat → Int32) (x_tops : Nat → Int64) (x_bottoms : Nat → Int64) (x_addedTop : Nat → Int64) (x_addedBottom : Nat → Int64) (x_reasons : Nat → Int32) (x_places : Nat → Int32) (x_days : Nat → Int32) (x_rowAbove : Nat → Int32) (x_rowBelow : Nat → Int32) (x_offerCents : Nat → Int64) (x_untils : Nat → Int32) (x_lefts : Nat → Int64) (x_many : Nat → Int64) (x_sums : Nat → Int64) (H : Heap) (locs : List Loc) (ls : Array Slot) (hs : TxR tx ln x_text x_size ∧ FcR fA fB x_above x_below x_told ∧ ShX sg en lc x_signs x_begins x_lines ∧ CuR cD cA cB cn x_days x_rowAbove x_rowBelow x_rows ∧ OfR oC oL on x_offerCents x_untils x_offers ∧ IvR iL vn x_lefts x_invoices ∧ LeR n mS mC x_sums x_many) (hP : va_P D vwCl ([(z0, .inr (9, [.ref r0, .ref f0, .ref h0, .ref u0, .ref o0, .ref v0, .ref q0, .ref g0, .ref w0])), (r0, .inr (6, [.ref r1, .int ln, .int hR, .int dR])), (r1, .inl (ta 1, 240, .inl tx)), (f0, .inr (1, [.ref f1, .ref f2])), (f1, .inl (ta 0, 26, .inl fA)), (f2, .inl (ta 0, 26, .inl fB)), (h0, .inr (7, [.ref (fa 0), .ref h1, .ref h2, .ref h3, .ref h4, .int ht, .int op])), (h1, .inl (ta 4, 6, .inr (.inr (.inr (.inr (stF fa)))))), (h2, .inl (ta 4, 16, .inr (.inr (.inr (.inr (adF fa)))))), (h3, .inl (ta 0, 16, .inl rs)), (h4, .inl (ta 0, 16, .inl pl)), (u0, .inr (0, [.ref u1, .ref u2, .ref u3, .int cn])), (u1, .inl (ta 0, 8, .inl cD)), (u2, .inl (ta 0, 8, .inl cA)), (u3, .inl (ta 0, 8, .inl cB)), (o0, .inr (5, [.ref o1, .ref o2, .int on])), (o1, .inl (ta 2, 8, .inr (.inl oC))), (o2, .inl (ta 0, 8, .inl oL)), (v0, .inr (3, [.ref v1, .int vn])), (v1, .inl (ta 2, 8, .inr (.inl iL))), (q0, .inr (4, [.ref q1, .ref q2])), (q1, .inl (ta 2, 8, .inr (.inl mS))), (q2, .inl (ta 2, 8, .inr (.inl mC))), (g0, .inr (8, [.ref g1, .ref g2, .int sc, .int lc])), (g1, .inl (ta 0, 240, .inl sg)), (g2, .inl (ta 0, 16, .inl en)), (w0, .inr (8, [.ref w1, .ref w2, .int sc2, .int lc2])), (w1, .inl (ta 0, 240, .inl sg2)), (w2, .inl (ta 0, 16, .inl en2)), (m0, .inr (10, [.int x_thrown, .ref p_text, .int x_size, .ref p_signs, .ref p_begins, .int x_lines, .ref p_draft, .ref p_draftBegins, .ref p_above, .ref p_below, .ref p_told, .ref p_tops, .ref p_bottoms, .int x_high, .long x_totalTop, .long x_totalBottom, .int x_reason, .ref p_addedTop, .ref p_addedBottom, .ref p_reasons, .ref p_places, .long x_top, .long x_bottom, .int x_rows, .ref p_days, .ref p_rowAbove, .ref p_rowBelow, .int x_offers, .ref p_offerCents, .ref p_untils, .int x_invoices, .ref p_lefts, .ref p_many, .ref p_sums, .int x_draftLines])), (p_text, .inl (ta 0, 240, .inl x_text)), (p_signs, .inl (ta 0, 240, .inl x_signs)), (p_begins, .inl (ta 0, 18, .inl x_begins)), (p_draft, .inl (ta 0, 240, .inl x_draft)), (p_draftBegins, .inl (ta 0, 18, .inl x_draftBegins)), (p_above, .inl (ta 2, 26, .inr (.inl x_above))), (p_below, .inl (ta 2, 26, .inr (.inl x_below))), (p_told, .inl (ta 3, 26, .inl x_told)), (p_tops, .inl (ta 2, 8, .inr (.inl x_tops))), (p_bottoms, .inl (ta 2, 8, .inr (.inl x_bottoms))), (p_addedTop, .inl (ta 2, 16, .inr (.inl x_addedTop))), (p_addedBottom, .inl (ta 2, 16, .inr (.inl x_addedBottom))), (p_reasons, .inl (ta 0, 16, .inl x_reasons)), (p_places, .inl (ta 0, 16, .inl x_places)), (p_days, .inl (ta 0, 8, .inl x_days)), (p_rowAbove, .inl (ta 0, 8, .inl x_rowAbove)), (p_rowBelow, .inl (ta 0, 8, .inl x_rowBelow)), (p_offerCents, .inl (ta 2, 8, .inr (.inl x_offerCents))), (p_untils, .inl (ta 0, 8, .inl x_untils)), (p_lefts, .inl (ta 2, 8, .inr (.inl x_lefts))), (p_many, .inl (ta 2, 8, .inr (.inl x_many))), (p_sums, .inl (ta 2, 8, .inr (.inl x_sums))), (y0, .inl (ta 2, 1, .inr (.inl oV)))] ++ fpool fa fn fd 23) H) (hD : va_D A ([(z0, .inr (9, [.ref r0, .ref f0, .ref h0, .ref u0, .ref o0, .ref v0, .ref q0, .ref g0, .ref w0])), (r0, .inr (6, [.ref r1, .int ln, .int hR, .int dR])), (r1, .inl (ta 1, 240, .inl tx)), (f0, .inr (1, [.ref f1, .ref f2])), (f1, .inl (ta 0, 26, .inl fA)), (f2, .inl (ta 0, 26, .inl fB)), (h0, .inr (7, [.ref (fa 0), .ref h1, .ref h2, .ref h3, .ref h4, .int ht, .int op])), (h1, .inl (ta 4, 6, .inr (.inr (.inr (.inr (stF fa)))))), (h2, .inl (ta 4, 16, .inr (.inr (.inr (.inr (adF fa)))))), (h3, .inl (ta 0, 16, .inl rs)), (h4, .inl (ta 0, 16, .inl pl)), (u0, .inr (0, [.ref u1, .ref u2, .ref u3, .int cn])), (u1, .inl (ta 0, 8, .inl cD)), (u2, .inl (ta 0, 8, .inl cA)), (u3, .inl (ta 0, 8, .inl cB)), (o0, .inr (5, [.ref o1, .ref o2, .int on])), (o1, .inl (ta 2, 8, .inr (.inl oC))), (o2, .inl (ta 0, 8, .inl oL)), (v0, .inr (3, [.ref v1, .int vn])), (v1, .inl (ta 2, 8, .inr (.inl iL))), (q0, .inr (4, [.ref q1, .ref q2])), (q1, .inl (ta 2, 8, .inr (.inl mS))), (q2, .inl (ta 2, 8, .inr (.inl mC))), (g0, .inr (8, [.ref g1, .ref g2, .int sc, .int lc])), (g1, .inl (ta 0, 240, .inl sg)), (g2, .inl (ta 0, 16, .inl en)), (w0, .inr (8, [.ref w1, .ref w2, .int sc2, .int lc2])), (w1, .inl (ta 0, 240, .inl sg2)), (w2, .inl (ta 0, 16, .inl en2)), (m0, .inr (10, [.int x_thrown, .ref p_text, .int x_size, .ref p_signs, .ref p_begins, .int x_lines, .ref p_draft, .ref p_draftBegins, .ref p_above, .ref p_below, .ref p_told, .ref p_tops, .ref p_bottoms, .int x_high, .long x_totalTop, .long x_totalBottom, .int x_reason, .ref p_addedTop, .ref p_addedBottom, .ref p_reasons, .ref p_places, .long x_top, .long x_bottom, .int x_rows, .ref p_days, .ref p_rowAbove, .ref p_rowBelow, .int x_offers, .ref p_offerCents, .ref p_untils, .int x_invoices, .ref p_lefts, .ref p_many, .ref p_sums, .int x_draftLines])), (p_text, .inl (ta 0, 240, .inl x_text)), (p_signs, .inl (ta 0, 240, .inl x_signs)), (p_begins, .inl (ta 0, 18, .inl x_begins)), (p_draft, .inl (ta 0, 240, .inl x_draft)), (p_draftBegins, .inl (ta 0, 18, .inl x_draftBegins)), (p_above, .inl (ta 2, 26, .inr (.inl x_above))), (p_below, .inl (ta 2, 26, .inr (.inl x_below))), (p_told, .inl (ta 3, 26, .inl x_told)), (p_tops, .inl (ta 2, 8, .inr (.inl x_tops))), (p_bottoms, .inl (ta 2, 8, .inr (.inl x_bottoms))), (p_addedTop, .inl (ta 2, 16, .inr (.inl x_addedTop))), (p_addedBottom, .inl (ta 2, 16, .inr (.inl x_addedBottom))), (p_reasons, .inl (ta 0, 16, .inl x_reasons)), (p_places, .inl (ta 0, 16, .inl x_places)), (p_days, .inl (ta 0, 8, .inl x_days)), (p_rowAbove, .inl (ta 0, 8, .inl x_rowAbove)), (p_rowBelow, .inl (ta 0, 8, .inl x_rowBelow)), (p_offerCents, .inl (ta 2, 8, .inr (.inl x_offerCents))), (p_untils, .inl (ta 0, 8, .inl x_untils)), (p_lefts, .inl (ta 2, 8, .inr (.inl x_lefts))), (p_many, .inl (ta 2, 8, .inr (.inl x_many))), (p_sums, .inl (ta 2, 8, .inr (.inl x_sums))), (y0, .inl (ta 2, 1, .inr (.inl oV)))] ++ fpool fa fn fd 23)) (hS : va_S A s.heap H locs) (hl : lv_has ls 8 [(0, .ref b), (1, .ref z0), (2, .ref m0), (3, .ref y0), (4, .int ix)]) : W p l e room_1 s m #[Value.ref b] below meth c H locs cells slots Q (F0 m pc ls []) :=
  N9 (mkAd z0 r0 f0 h0 u0 o0 v0 q0 g0 w0 r1 f1 f2 h1 h2 h3 h4 u1 u2 u3 o1 o2 v1 q1 q2 g1 g2 w1 w2 y0 m0 p_text p_signs p_begins p_draft p_draftBegins p_above p_below p_told p_tops p_bottoms p_addedTop p_addedBottom p_reasons p_places p_days p_rowAbove p_rowBelow p_offerCents p_untils p_lefts p_many p_sums fa) (mkCs tx ln hR dR fA fB rs pl ht op fn fd cD cA cB cn oC oL on iL vn mS mC sg en sc lc sg2 en2 sc2 lc2 oV) (mkMs x_thrown x_size x_lines x_high x_totalTop x_totalBottom x_reason x_top x_bottom x_rows x_offers x_invoices x_draftLines x_text x_signs x_begins x_draft x_draftBegins x_above x_below x_told x_tops x_bottoms x_addedTop x_addedBottom x_reasons x_places x_days x_rowAbove x_rowBelow x_offerCents x_untils x_lefts x_many x_sums) H locs ls hs hP hD hS hl
theorem lb_0 {b : Bool} {t : Int32} (e : t = b2i b) (h : t = 0) : lb b = 0 := by
  cases b
  · rfl
  · rw [e] at h; exact absurd h (by decide)
theorem lb_1 {b : Bool} {t : Int32} (e : t = b2i b) (h : ¬ t = 0) : lb b = 1 := by
  cases b
  · exact absurd e h
  · rfl
theorem lb_f {b c : Bool} (e : b = c) (h : c = false) : lb b = 0 := by rw [e, h]; rfl
theorem lb_t {b c : Bool} (e : b = c) (h : c = true) : lb b = 1 := by rw [e, h]; rfl
theorem sb2 {a b c d : Int64} (h1 : a = c) (h2 : b = d) : a - b = c - d := by rw [h1, h2]
theorem sm_at2 {cD cA cB : Nat → Int32} {cn : Int32} {ds ra rb : Nat → Int32} {rw' : Int32} {x y : Int64} {d : Int32} (h : CuR cD cA cB cn ds ra rb rw') (e : x = y) : cuC cD cA cB cn x d = atL y d ds ra rb rw' 8 y := by rw [e]; exact sm_at h
theorem op_le {a b : Int32} (e : a = b) (h : decide (a ≤ 0) = true) : b ≤ 0 := by rw [← e]; exact of_decide_eq_true h
theorem op_nle {a b : Int32} (e : a = b) (h : decide (a ≤ 0) = false) : ¬ b ≤ 0 := by rw [← e]; exact of_decide_eq_false h
theorem n8_eq {a x : Int32} (e : decide (a < 8) = !decide (x = 8)) (h : decide (a < 8) = false) : x = 8 := by
  rw [h] at e
  by_cases q : x = 8
  · exact q
  · rw [decide_eq_false q] at e; exact Bool.noConfusion e
theorem v0_le {a b : Int64} (e : a = b) (h : decide (0 ≤ a) = true) : 0 ≤ b := by rw [← e]; exact of_decide_eq_true h
theorem v0_f {a b : Int64} (e : a = b) (h : decide (0 ≤ a) = false) : decide (0 ≤ b) = false := by rw [← e]; exact h
theorem sm_lk {sg en : Nat → Int32} {lc : Int32} {xs xb : Nat → Int32} {xl : Int32} {fA fB : Nat → Int32} {ab be : Nat → Int64} {td : Nat → Int32} (h : ShX sg en lc xs xb xl) (hf : FcR fA fB ab be td) {k pt : Int32} (hk : lnOK k lc pt = true) : vp_in k 16 ∧ isIn9 k.toInt64 0 (xl.toInt64 - 1) = true ∧ isIn9 pt.toInt64 0 3 = true := (sm_line (ht := 0) (rs := fun _ => 0) (pl := fun _ => 0) (fn := fun _ => 0) (fd := fun _ => 0) (rs' := fun _ => 0) (pl' := fun _ => 0) (aT := fun _ => 0) (aB := fun _ => 0) (hi := 0) (tp := fun _ => 0) (bt := fun _ => 0) (top := 0) (bot := 0) h hf hk).2
