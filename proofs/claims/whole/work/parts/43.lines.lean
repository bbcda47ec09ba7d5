/-! all lines -/
def ShR (sgc en sgm bg : Nat → Int32) (LL : Nat) (B : Nat → Nat) : Prop := LL ≤ 16 ∧ B 0 = 0 ∧ bg 0 = 0 ∧ ∀ j, j < LL → en j = nI (B (j + 1) - 1) ∧ bg (j + 1) = nI (B (j + 1)) ∧ B j < B (j + 1) ∧ B (j + 1) ≤ 240 ∧ (∀ s, B j ≤ s → s < B (j + 1) - 1 → sgB (sgm s) (sgc s)) ∧ sgE (sgm (B (j + 1) - 1)) (sgc (B (j + 1) - 1)) ∧ lnV sgm (B (j + 1) - B j) (B j) 0
def LR (k : Nat) (rs pl : Nat → Int32) (fn fd : Nat → Int64) (rs' pl' : Nat → Int32) (aT aB : Nat → Int64) : Prop := rs k = rs' k ∧ pl k = pl' k ∧ fn (7 + k) = aT k ∧ fd (7 + k) = aB k
theorem sh_b {sgc en sgm bg : Nat → Int32} {LL : Nat} {B : Nat → Nat} (h : ShR sgc en sgm bg LL B) {j : Nat} (hj : j ≤ LL) : bg j = nI (B j) ∧ B j ≤ 240 := by
  obtain ⟨_, h0, h1, h2⟩ := h
  cases j with
  | zero => rw [h1, h0]; exact ⟨nI_0.symm, by omega⟩
  | succ j => exact ⟨(h2 j (by omega)).2.1, (h2 j (by omega)).2.2.2.1⟩
theorem sh_f {sgc en sgm bg : Nat → Int32} {LL : Nat} {B : Nat → Nat} (h : ShR sgc en sgm bg LL B) {j : Nat} (hj : j < LL) : shF en (nI j) = nI (B j) := by
  obtain ⟨h16, h0, h1, h2⟩ := h
  unfold shF
  cases j with
  | zero => rw [if_pos nI_0, h0, nI_0]
  | succ j =>
    have k := h2 j (by omega)
    rw [if_neg (nI_ne0 (by omega) (by omega)), nI_pred, ixG_n (N := 16) (M := 16) rfl (by omega) (by decide), k.1, nI_1]
    congr 1
    have := k.2.2.1
    omega
theorem sh_e {sgc en sgm bg : Nat → Int32} {LL : Nat} {B : Nat → Nat} (h : ShR sgc en sgm bg LL B) {j : Nat} (hj : j < LL) : ixG en 16 (nI j) = nI (B (j + 1) - 1) := by
  rw [ixG_n (N := 16) (M := 16) rfl (by have := h.1; omega) (by decide)]
  exact (h.2.2.2 j hj).1
/-- what the contracts ask of a sheet -/
theorem sh_OK {sgc en sgm bg : Nat → Int32} {LL : Nat} {B : Nat → Nat} (h : ShR sgc en sgm bg LL B) : shOK en (nI LL) := by
  intro j hj hl
  have hj' : j < LL := by
    have := h.1
    rcases Nat.lt_or_ge j LL with q | q
    · exact q
    · exact absurd (nI_le q (by omega)) hl
  have k := h.2.2.2 j hj'
  have hb := sh_b h (Nat.le_of_lt hj')
  rw [sh_f h hj', sh_e h hj', nI_toInt (by omega), nI_toInt (by omega)]
  omega
theorem sh_bg {sgc en sgm bg : Nat → Int32} {LL : Nat} {B : Nat → Nat} (h : ShR sgc en sgm bg LL B) : bgOK sgm bg LL := by
  refine ⟨h.1, fun j hj => ⟨B j, B (j + 1), (sh_b h (by omega)).1, (sh_b h (by omega)).1, ?_, (sh_b h (by omega)).2, ?_⟩⟩
  · have := (h.2.2.2 j hj).2.2.1; omega
  · exact (h.2.2.2 j hj).2.2.2.2.2.2
theorem fc_OK {fA fB : Nat → Int32} {ab be : Nat → Int64} {td : Nat → Int32} (h : FcR fA fB ab be td) : fcOK ab be td := by
  intro j hj ht
  rcases h j hj with ⟨t0, _⟩ | ⟨_, ok, ea, eb⟩
  · exact absurd t0 ht
  · rw [ea, eb]
    exact mk_nb3 (nb_self (fn_ok ok)) (mk_in (fn_ok ok))
theorem nbz1 : nbP 0 1 := ⟨by decide, by decide, by decide⟩
theorem cn01 : cnP 0 1 := cn_of (nb_self nbz1).1 (by decide) (by decide)
theorem fr01n (f : Nat → Int64) (i : Nat) : fr_n f i 0 1 = vp_updL f i 0 := by
  rw [fr_n_ok (nb_self nbz1) (ok_nb nbz1 cn01), cn01.1]
theorem fr01d (f : Nat → Int64) (i : Nat) : fr_d f i 0 1 = vp_updL f i 1 := by
  rw [fr_d_ok (nb_self nbz1) (ok_nb nbz1 cn01), cn01.2]
theorem lx_st {sgc en sgm bg fA fB : Nat → Int32} {ab be : Nat → Int64} {td : Nat → Int32} {LL : Nat} {B : Nat → Nat} (h : ShR sgc en sgm bg LL B) (hf : FcR fA fB ab be td) {j : Nat} (hj : j < LL) {fn fd tp bt : Nat → Int64} {tt tb top bot : Int64} (h0 : fn 0 = tt) (h1 : fd 0 = tb) (hT : nbP tt tb) :
    lnR (7 + j) fn fd (rlL sgc fA fB (7 + (nI j).toNatClampNeg) (shF en (nI j)) (ixG en 16 (nI j)) 240 (shF en (nI j)) 0 (-1) 0 fn fd) (miX sgm bg ab be td (nI j) tp bt tt tb top bot) := by
  have h16 := h.1
  obtain ⟨_, _, k3, k4, k5, k6, k7⟩ := h.2.2.2 j hj
  rw [nI_clamp (by omega), sh_f h hj, sh_e h hj]
  unfold miX
  rw [nI_clamp (by omega), nI_1, nI_clamp (by omega), (sh_b h (j := j) (by omega)).1, (sh_b h (j := j + 1) (by omega)).1]
  have := ln_st (b := B j) hf (show 7 ≤ 7 + j by omega) (show B (j + 1) - 1 < 240 by omega) k6 (B (j + 1) - 1 - B j) (B j) 0 240 240 (-1) (-1) 0 0 fn fd tp bt tt tb top bot (by omega) (by omega) (by omega) ⟨nI_0.symm, nI_0.symm, by omega, fun j hj => by omega, h0, h1, hT⟩ k5 (by rw [show B (j + 1) - 1 - B j + 1 = B (j + 1) - B j by omega]; exact k7)
  rw [show B (j + 1) - 1 + 1 = B (j + 1) by omega] at this
  exact this
def rkR (LL f : Nat) (op : Int32) (rs' : Nat → Int32) (C : RL) (M : R11) : Prop := (∀ k, k < LL → LR k C.2.2.1 C.2.2.2.1 C.2.2.2.2.1 C.2.2.2.2.2 M.1 M.2.1 M.2.2.1 M.2.2.2.1) ∧ C.2.2.2.2.1 0 = M.2.2.2.2.2.2.2.1 ∧ C.2.2.2.2.2 0 = M.2.2.2.2.2.2.2.2.1 ∧ nbP M.2.2.2.2.2.2.2.1 M.2.2.2.2.2.2.2.2.1 ∧ C.2.1 = cnL M.1 (nI LL) f op ∧ ∀ k, k < 16 - f → M.1 k = rs' k
theorem LR_up {k j : Nat} {rs pl : Nat → Int32} {fn fd gn gd : Nat → Int64} {rs' pl' : Nat → Int32} {aT aB : Nat → Int64} {r p r' p' : Int32} {a b : Int64} (hkj : k ≠ j) (hg : gn (7 + k) = fn (7 + k) ∧ gd (7 + k) = fd (7 + k)) (h : LR k rs pl fn fd rs' pl' aT aB) : LR k (upd rs j r) (upd pl j p) gn gd (upd rs' j r') (upd pl' j p') (vp_updL aT j a) (vp_updL aB j b) := by
  unfold LR
  rw [pk_un hkj, pk_un hkj, pk_un hkj, pk_un hkj, pk_uLn hkj, pk_uLn hkj, hg.1, hg.2]
  exact h
theorem rk_st {sgc en sgm bg fA fB : Nat → Int32} {ab be : Nat → Int64} {td : Nat → Int32} {LL : Nat} {B : Nat → Nat} (h : ShR sgc en sgm bg LL B) (hf : FcR fA fB ab be td) : ∀ (f : Nat) (ht op : Int32) (rs pl : Nat → Int32) (fn fd : Nat → Int64) (rs' pl' : Nat → Int32) (aT aB : Nat → Int64) (hi : Int32) (tp bt : Nat → Int64) (tt tb top bot : Int64), f ≤ 16 → (∀ k, k < LL → k < 16 - f → LR k rs pl fn fd rs' pl' aT aB) → fn 0 = tt → fd 0 = tb → nbP tt tb →
    rkR LL f op rs' (rkL sgc en fA fB (nI LL) f ht op rs pl fn fd) (rkM sgm bg ab be td (nI LL) f rs' pl' aT aB hi tp bt tt tb top bot) := by
  have h16 := h.1
  intro f
  induction f with
  | zero =>
    intro ht op rs pl fn fd rs' pl' aT aB hi tp bt tt tb top bot _ hL h0 h1 hT
    exact ⟨fun k hk => hL k hk (by omega), h0, h1, hT, rfl, fun _ _ => rfl⟩
  | succ f ih =>
    intro ht op rs pl fn fd rs' pl' aT aB hi tp bt tt tb top bot hf6 hL h0 h1 hT
    by_cases q : LL ≤ 16 - (f + 1)
    · rw [rkL, rkM, if_pos (nI_le q (by omega)), if_pos (nI_le q (by omega))]
      refine ⟨fun k hk => hL k hk (by omega), h0, h1, hT, ?_, fun _ _ => rfl⟩
      rw [cnL, if_pos (nI_le q (by omega))]
    · rw [rkL, rkM, if_neg (nI_ge (by omega) (by omega)), if_neg (nI_ge (by omega) (by omega))]
      obtain ⟨j, hj⟩ : ∃ j, j = 16 - (f + 1) := ⟨_, rfl⟩
      have hjL : j < LL := by omega
      rw [← hj]
      have k := lx_st (tp := tp) (bt := bt) (top := top) (bot := bot) h hf hjL h0 h1 hT
      unfold rlX rlF
      generalize rlL sgc fA fB (7 + (nI j).toNatClampNeg) (shF en (nI j)) (ixG en 16 (nI j)) 240 (shF en (nI j)) 0 (-1) 0 fn fd = C at *
      generalize miX sgm bg ab be td (nI j) tp bt tt tb top bot = M at *
      rw [nI_clamp (by omega)]
      obtain ⟨C1, C2, C3, C4, C5⟩ := C
      obtain ⟨M1, M2, M3, M4, M5, M6, M7, M8, M9⟩ := M
      obtain ⟨k1, k2, k3, k4, k5, k6, k7, k8, k9⟩ := k
      simp only at k1 k2 k3 k4 k5 k6 k7 k8 k9 ⊢
      subst k1
      by_cases q0 : C1 = 0
      · subst q0
        rw [if_pos rfl]
        simp only
        rw [if_pos (show (0 : Int32) ≤ 0 by decide), if_pos (show (0 : Int32) ≤ 0 by decide), k4 rfl]
        have r := ih C3 op (upd rs j 0) (upd pl j (-1)) C4 C5 (upd rs' j 0) (upd pl' j (-1)) (vp_updL aT j M8) (vp_updL aB j M9) M3 M4 M5 M6 M7 M8 M9 (by omega) (fun k hk hk2 => by
          by_cases e : k = j
          · subst e
            unfold LR
            rw [pk_us, pk_us, pk_us, pk_us, pk_uLs, pk_uLs]
            exact ⟨rfl, rfl, (k8 rfl).1, (k8 rfl).2⟩
          · exact LR_up e (k9 (7 + k) (by omega) (by omega)) (hL k hk (by omega))) k5 k6 k7
        obtain ⟨r1, r2, r3, r4, r5, r6⟩ := r
        have ej : ∀ M : R11, (∀ k, k < 16 - f → M.1 k = upd rs' j 0 k) → M.1 j = 0 := fun M hM => (hM j (by omega)).trans pk_us
        refine ⟨r1, r2, r3, r4, ?_, fun k hk => (r6 k (by omega)).trans (pk_un (by omega))⟩
        rw [cnL, if_neg (nI_ge (by omega) (by omega)), ← hj, nI_clamp (by omega), ej _ r6, if_pos (by decide)]
        exact r5
      · rw [if_neg q0]
        simp only
        have hle : ¬ C1 ≤ 0 := fun z => q0 ((rsn_le k2).mp z)
        rw [if_neg hle, if_neg hle, k3 q0, fr01n, fr01d]
        have r := ih C3 (op + 1) (upd rs j C1) (upd pl j M2) (vp_updL C4 (7 + j) 0) (vp_updL C5 (7 + j) 1) (upd rs' j C1) (upd pl' j M2) (vp_updL aT j 0) (vp_updL aB j 1) M3 M4 M5 M6 M7 M8 M9 (by omega) (fun k hk hk2 => by
          by_cases e : k = j
          · subst e
            unfold LR
            rw [pk_us, pk_us, pk_us, pk_us, pk_uLs, pk_uLs, pk_uLs, pk_uLs]
            exact ⟨rfl, rfl, rfl, rfl⟩
          · exact LR_up e ⟨(pk_uLn (by omega)).trans (k9 (7 + k) (by omega) (by omega)).1, (pk_uLn (by omega)).trans (k9 (7 + k) (by omega) (by omega)).2⟩ (hL k hk (by omega))) ((pk_uLn (by omega)).trans k5) ((pk_uLn (by omega)).trans k6) k7
        obtain ⟨r1, r2, r3, r4, r5, r6⟩ := r
        have ej : ∀ M : R11, (∀ k, k < 16 - f → M.1 k = upd rs' j C1 k) → M.1 j = C1 := fun M hM => (hM j (by omega)).trans pk_us
        refine ⟨r1, r2, r3, r4, ?_, fun k hk => (r6 k (by omega)).trans (pk_un (by omega))⟩
        rw [cnL, if_neg (nI_ge (by omega) (by omega)), ← hj, nI_clamp (by omega), ej _ r6, if_neg hle]
        exact r5
/-- the whole reckoning: amounts, reasons, places, total and the count of open lines -/
theorem rk_all {sgc en sgm bg fA fB : Nat → Int32} {ab be : Nat → Int64} {td : Nat → Int32} {LL : Nat} {B : Nat → Nat} (h : ShR sgc en sgm bg LL B) (hf : FcR fA fB ab be td) (ht : Int32) (rs pl : Nat → Int32) (fn fd : Nat → Int64) (rs' pl' : Nat → Int32) (aT aB : Nat → Int64) (hi : Int32) (tp bt : Nat → Int64) (top bot : Int64) :
    rkR LL 16 0 rs' (rkS sgc en fA fB (nI LL) ht rs pl fn fd) (rkN sgm bg ab be td (nI LL) rs' pl' aT aB hi tp bt top bot) := by
  unfold rkS rkN
  rw [fr01n, fr01d]
  exact rk_st h hf 16 ht 0 rs pl _ _ rs' pl' aT aB hi tp bt 0 1 top bot (by omega) (fun k _ h => by omega) pk_uLs pk_uLs nbz1
