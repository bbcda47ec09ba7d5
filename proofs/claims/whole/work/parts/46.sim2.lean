/-! currencies -/
theorem at_vl {cD cA cB ds ra rb : Nat → Int32} {N : Nat} {x : Int64} {d : Int32} (hN : N ≤ 8) (h : ∀ j, j < N → ds j = cD j ∧ ra j = cA j ∧ rb j = cB j ∧ 1 ≤ (cB j).toInt) : ∀ (f : Nat) (row : Int32), f ≤ 8 →
    atL x d ds ra rb (nI N) f (if isIx row 8 = true then (if 1 ≤ cB row.toNatClampNeg then flD (x * (cA row.toNatClampNeg).toInt64) (cB row.toNatClampNeg).toInt64 else x) else x) = (if isIx (cuR cD (nI N) d f row) 8 = true then (if 1 ≤ cB (cuR cD (nI N) d f row).toNatClampNeg then flD (x * (cA (cuR cD (nI N) d f row).toNatClampNeg).toInt64) (cB (cuR cD (nI N) d f row).toNatClampNeg).toInt64 else x) else x) := by
  intro f
  induction f with
  | zero => intro row _; rfl
  | succ f ih =>
    intro row hf
    rw [atL, cuR]
    by_cases q : N ≤ 8 - (f + 1)
    · rw [if_pos (nI_le q (by omega)), if_pos (nI_le q (by omega))]
    · rw [if_neg (nI_ge (by omega) (by omega)), if_neg (nI_ge (by omega) (by omega))]
      obtain ⟨j, hj⟩ : ∃ j, j = 8 - (f + 1) := ⟨_, rfl⟩
      rw [← hj, nI_clamp (by omega)]
      obtain ⟨e1, e2, e3, e4⟩ := h j (by omega)
      rw [e1, e2, e3]
      by_cases q2 : d < cD j
      · rw [if_pos q2, if_pos q2]; exact ih row (by omega)
      · rw [if_neg q2, if_neg q2, ← ih (nI j) (by omega), if_pos (ix_t (N := 8) (M := 8) rfl (by omega) (by decide)), nI_clamp (by omega), if_pos (Int32.le_iff_toInt_le.mpr (by rw [show (1 : Int32).toInt = 1 from rfl]; exact e4)), flDM (by rw [Int32.toInt_toInt64]; exact e4)]
theorem sm_at {cD cA cB : Nat → Int32} {cn : Int32} {ds ra rb : Nat → Int32} {rw' : Int32} {x : Int64} {d : Int32} (h : CuR cD cA cB cn ds ra rb rw') : cuC cD cA cB cn x d = atL x d ds ra rb rw' 8 x := by
  obtain ⟨N, hN, rfl, rfl, hj⟩ := h
  exact (at_vl (x := x) (d := d) hN hj 8 (-1) (by omega)).symm
theorem sm_rows {cD cA cB : Nat → Int32} {cn : Int32} {ds ra rb : Nat → Int32} {rw' : Int32} (h : CuR cD cA cB cn ds ra rb rw') : ∃ RN : Nat, rw' = nI RN ∧ RN ≤ 8 ∧ (∀ j, j < 8 → ¬ rw' ≤ nI j → ¬ (rb j).toInt64 = 0) ∧ (¬ rw' = 0 → vp_in (rw' - 1) 8) := by
  obtain ⟨N, hN, e1, rfl, hj⟩ := h
  refine ⟨N, rfl, hN, fun j h8 hl => ?_, fun h0 => ?_⟩
  · have hjN : j < N := by
      rcases Nat.lt_or_ge j N with q | q
      · exact q
      · exact absurd (nI_le q (by omega)) hl
    obtain ⟨_, _, e3, e4⟩ := hj j hjN
    rw [e3]
    exact ne0_of (Or.inl (by rw [Int32.toInt_toInt64]; exact e4))
  · have : N ≠ 0 := fun q => h0 (by rw [q]; rfl)
    rw [nI_m (y := 1) (j := 1) rfl (by omega)]
    exact pk_in (N - 1) 8 (by omega)
theorem n8_of {n : Int32} {N : Nat} (hn : n = nI N) (hN : N ≤ 8) : decide (n < 8) = !decide (n = 8) := by
  rw [hn]
  by_cases q : N < 8
  · rw [decide_eq_true (show nI N < 8 from nI_lt (b := 8) q (by decide)), decide_eq_false (show ¬ nI N = 8 from fun z => by have := (nI_eq (b := 8) (by omega) (by decide)).mp z; omega)]; rfl
  · have : N = 8 := by omega
    subst this; rfl
theorem cu_beh {cD : Nat → Int32} {cn d : Int32} {ds : Nat → Int32} {N : Nat} (hN : N ≤ 8) (hn : cn = nI N) (h : ∀ j, j < N → ds j = cD j) : cuB cD cn d = (decide (cn = 0) || !decide (d ≤ ds (cn - 1).toNatClampNeg)) := by
  unfold cuB
  by_cases q : N = 0
  · subst q
    have e0 : cn = 0 := hn
    have e1 : isIx ((0 : Int32) - 1) 8 = false := by decide
    rw [e0, e1, decide_eq_true rfl, Bool.not_false, Bool.true_or, Bool.true_or]
  · have e : cn - 1 = nI (N - 1) := by rw [hn]; exact nI_m (y := 1) (j := 1) rfl (by omega)
    rw [e, ix_t (N := 8) (M := 8) rfl (by omega) (by decide), nI_clamp (by omega), h (N - 1) (by omega), hn, decide_eq_false (nI_ne0 (by omega) (by omega)), Bool.not_true]
theorem sm_cu {cD cA cB : Nat → Int32} {cn : Int32} {ds ra rb : Nat → Int32} {rw' d : Int32} (h : CuR cD cA cB cn ds ra rb rw') : (decide (rw' = 0) || !decide (d ≤ ds (rw' - 1).toNatClampNeg)) = cuB cD cn d ∧ decide (cn < 8) = !decide (rw' = 8) := by
  obtain ⟨N, hN, e1, e2, hj⟩ := h
  exact ⟨by rw [e2, ← e1]; exact (cu_beh hN e1 (fun j h => (hj j h).1)).symm, by rw [e2, ← e1]; exact n8_of e1 hN⟩
theorem cuF_1 {cD cA cB : Nat → Int32} {cn : Int32} {ds ra rb : Nat → Int32} {rw' d x y : Int32} (h : CuR cD cA cB cn ds ra rb rw') (hb : (dyOK d && (cuB cD cn d && (isRt x && isRt y))) = false) : cuF d x y rw' ds = 1 := by
  unfold cuF
  rw [dyOK_in, rt_in, rt_in, (sm_cu h).1, hb]; rfl
theorem cuF_2 {cD cA cB : Nat → Int32} {cn : Int32} {ds ra rb : Nat → Int32} {rw' d x y : Int32} (h : CuR cD cA cB cn ds ra rb rw') (h1 : dyOK d = true) (h2 : cuB cD cn d = true) (h3 : (isRt x && isRt y) = true) (h4 : decide (cn < 8) = false) : cuF d x y rw' ds = 2 := by
  unfold cuF
  rw [dyOK_in, rt_in, rt_in, (sm_cu h).1, h1, h2, h3]
  have := (sm_cu (d := d) h).2
  rw [h4] at this
  rw [if_pos (show (true && (true && true)) = true from rfl), if_pos (by simpa using this.symm)]
theorem rt_pos {x : Int32} (h : isRt x = true) : 1 ≤ x.toInt := by
  rw [← rt_in, in9_iff] at h
  exact h.1
theorem n8_lt {n : Int32} {N : Nat} (hn : n = nI N) (hN : N ≤ 8) (h : decide (n < 8) = true) : N < 8 := by
  rw [n8_of hn hN, hn] at h
  rcases Nat.lt_or_ge N 8 with q | q
  · exact q
  · have : N = 8 := by omega
    subst this; exact absurd h (by decide)
theorem ixUL_n {f : Nat → Int64} {n M : Nat} {N : Int32} {x : Int64} (hN : N = nI M) (h : n < M) (hM : M < 2 ^ 31) : ixUL f N (nI n) x = vp_updL f n x := by
  unfold ixUL
  rw [if_pos (ix_t hN h hM), nI_clamp (by omega)]
theorem ixGL_n {f : Nat → Int64} {n M : Nat} {N : Int32} (hN : N = nI M) (h : n < M) (hM : M < 2 ^ 31) : ixGL f N (nI n) = f n := by
  unfold ixGL
  rw [if_pos (ix_t hN h hM), nI_clamp (by omega)]
theorem sm_cadd {cD cA cB : Nat → Int32} {cn : Int32} {ds ra rb : Nat → Int32} {rw' d x y : Int32} (h : CuR cD cA cB cn ds ra rb rw') (h3 : (isRt x && isRt y) = true) (h8 : decide (cn < 8) = true) : CuR (ixU cD 8 cn d) (ixU cA 8 cn x) (ixU cB 8 cn y) (ixN 8 cn (cn + 1) cn) (upd ds rw'.toNatClampNeg d) (upd ra rw'.toNatClampNeg x) (upd rb rw'.toNatClampNeg y) (rw' + 1) ∧ ixN 8 cn (cn + 1) cn = rw' + 1 ∧ ¬ rw' = 8 ∧ vp_in rw' 8 := by
  obtain ⟨N, hN, rfl, rfl, hj⟩ := h
  have h8' := n8_lt rfl hN h8
  rw [Bool.and_eq_true] at h3
  rw [ixN_n (N := 8) (M := 8) rfl h8' (by decide), ixU_n (N := 8) (M := 8) rfl h8' (by decide), ixU_n (N := 8) (M := 8) rfl h8' (by decide), ixU_n (N := 8) (M := 8) rfl h8' (by decide), nI_clamp (by omega), nI_1]
  refine ⟨⟨N + 1, h8', rfl, rfl, fun j hj1 => ?_⟩, rfl, fun z => by have := (nI_eq (b := 8) (by omega) (by decide)).mp z; omega, pk_in N 8 h8'⟩
  by_cases q : j = N
  · subst q
    rw [pk_us, pk_us, pk_us, pk_us, pk_us, pk_us]
    exact ⟨rfl, rfl, rfl, rt_pos h3.2⟩
  · rw [pk_un q, pk_un q, pk_un q, pk_un q, pk_un q, pk_un q]
    exact hj j (by omega)
/-! offers and invoices -/
theorem sm_on {oC : Nat → Int64} {oL : Nat → Int32} {on : Int32} {xc : Nat → Int64} {xu : Nat → Int32} {xo : Int32} (h : OfR oC oL on xc xu xo) : on = xo ∧ decide (on < 8) = !decide (xo = 8) := by
  obtain ⟨N, hN, e1, e2, hj⟩ := h
  exact ⟨by rw [e1, e2], by rw [e2, ← e1]; exact n8_of e1 hN⟩
theorem sm_oget {oC : Nat → Int64} {oL : Nat → Int32} {on : Int32} {xc : Nat → Int64} {xu : Nat → Int32} {xo k : Int32} (h : OfR oC oL on xc xu xo) (hk : inOK k on = true) : ixGL oC 8 k = xc k.toNatClampNeg ∧ ixG oL 8 k = xu k.toNatClampNeg ∧ vp_in k 8 ∧ noO k xo = false := by
  have he := (sm_on h).1
  obtain ⟨N, hN, e1, e2, hj⟩ := h
  obtain ⟨j, hj1, rfl⟩ := v_of e1 (by omega) hk
  rw [ixGL_n (N := 8) (M := 8) rfl (by omega) (by decide), ixG_n (N := 8) (M := 8) rfl (by omega) (by decide), nI_clamp (by omega), inOK_no, ← he, hk]
  exact ⟨(hj j hj1).1.symm, (hj j hj1).2.symm, pk_in j 8 (by omega), rfl⟩
theorem sm_ono {oC : Nat → Int64} {oL : Nat → Int32} {on : Int32} {xc : Nat → Int64} {xu : Nat → Int32} {xo k : Int32} (h : OfR oC oL on xc xu xo) (hk : inOK k on = false) : noO k xo = true := by
  rw [inOK_no, ← (sm_on h).1, hk]; rfl
theorem hl_iff {oC : Nat → Int64} {oL : Nat → Int32} {on : Int32} {xc : Nat → Int64} {xu : Nat → Int32} {xo k d : Int32} (h : OfR oC oL on xc xu xo) (hk : inOK k on = true) : hlOK oL k d = decide (d ≤ xu k.toNatClampNeg) := by
  unfold hlOK
  rw [(sm_oget h hk).2.1]
theorem sm_oadd {oC : Nat → Int64} {oL : Nat → Int32} {on : Int32} {xc : Nat → Int64} {xu : Nat → Int32} {xo d : Int32} {v v' : Int64} (h : OfR oC oL on xc xu xo) (h8 : decide (on < 8) = true) (hv : v = v') : OfR (ixUL oC 8 on v) (ixU oL 8 on d) (ixN 8 on (on + 1) on) (vp_updL xc xo.toNatClampNeg v') (upd xu xo.toNatClampNeg d) (xo + 1) ∧ on = xo + 1 - 1 ∧ ¬ xo = 8 ∧ vp_in xo 8 := by
  subst hv
  obtain ⟨N, hN, rfl, rfl, hj⟩ := h
  have h8' := n8_lt rfl hN h8
  rw [ixN_n (N := 8) (M := 8) rfl h8' (by decide), ixU_n (N := 8) (M := 8) rfl h8' (by decide), ixUL_n (N := 8) (M := 8) rfl h8' (by decide), nI_clamp (by omega), Int32.add_sub_cancel, nI_1]
  refine ⟨⟨N + 1, h8', rfl, rfl, fun j hj1 => ?_⟩, rfl, fun z => by have := (nI_eq (b := 8) (by omega) (by decide)).mp z; omega, pk_in N 8 h8'⟩
  by_cases q : j = N
  · subst q
    rw [pk_us, pk_us, pk_uLs, pk_uLs]
    exact ⟨rfl, rfl⟩
  · rw [pk_un q, pk_un q, pk_uLn q, pk_uLn q]
    exact hj j (by omega)
theorem sm_vn {iL : Nat → Int64} {vn : Int32} {xe : Nat → Int64} {xi : Int32} (h : IvR iL vn xe xi) : vn = xi ∧ decide (vn < 8) = !decide (xi = 8) := by
  obtain ⟨N, hN, e1, e2, hj⟩ := h
  exact ⟨by rw [e1, e2], by rw [e2, ← e1]; exact n8_of e1 hN⟩
theorem sm_vget {iL : Nat → Int64} {vn : Int32} {xe : Nat → Int64} {xi k : Int32} (h : IvR iL vn xe xi) (hk : inOK k vn = true) : ixGL iL 8 k = xe k.toNatClampNeg ∧ vp_in k 8 ∧ noO k xi = false := by
  have he := (sm_vn h).1
  obtain ⟨N, hN, e1, e2, hj⟩ := h
  obtain ⟨j, hj1, rfl⟩ := v_of e1 (by omega) hk
  rw [ixGL_n (N := 8) (M := 8) rfl (by omega) (by decide), nI_clamp (by omega), inOK_no, ← he, hk]
  exact ⟨(hj j hj1).symm, pk_in j 8 (by omega), rfl⟩
theorem sm_vno {iL : Nat → Int64} {vn : Int32} {xe : Nat → Int64} {xi k : Int32} (h : IvR iL vn xe xi) (hk : inOK k vn = false) : noO k xi = true := by
  rw [inOK_no, ← (sm_vn h).1, hk]; rfl
theorem sm_vadd {iL : Nat → Int64} {vn : Int32} {xe : Nat → Int64} {xi : Int32} {v v' : Int64} (h : IvR iL vn xe xi) (h8 : decide (vn < 8) = true) (hv : v = v') : IvR (ixUL iL 8 vn v) (ixN 8 vn (vn + 1) vn) (vp_updL xe xi.toNatClampNeg v') (xi + 1) ∧ vn = xi + 1 - 1 ∧ ¬ xi = 8 ∧ vp_in xi 8 := by
  subst hv
  obtain ⟨N, hN, rfl, rfl, hj⟩ := h
  have h8' := n8_lt rfl hN h8
  rw [ixN_n (N := 8) (M := 8) rfl h8' (by decide), ixUL_n (N := 8) (M := 8) rfl h8' (by decide), nI_clamp (by omega), Int32.add_sub_cancel, nI_1]
  refine ⟨⟨N + 1, h8', rfl, rfl, fun j hj1 => ?_⟩, rfl, fun z => by have := (nI_eq (b := 8) (by omega) (by decide)).mp z; omega, pk_in N 8 h8'⟩
  by_cases q : j = N
  · subst q
    rw [pk_uLs, pk_uLs]
  · rw [pk_uLn q, pk_uLn q]
    exact hj j (by omega)
theorem sm_ref {iL : Nat → Int64} {vn : Int32} {xe : Nat → Int64} {xi k x : Int32} (h : IvR iL vn xe xi) (hk : inOK k vn = true) : IvR (ivU iL k x) vn (rfU xe k x) xi ∧ ivT iL k x = rfT xe k x := by
  obtain ⟨N, hN, e1, e2, hj⟩ := h
  obtain ⟨j, hj1, rfl⟩ := v_of e1 (by omega) hk
  have e : ivT iL (nI j) x = rfT xe (nI j) x := by
    unfold ivT rfT
    rw [ix_t (N := 8) (M := 8) rfl (by omega) (by decide), nI_clamp (by omega), hj j hj1]; rfl
  refine ⟨⟨N, hN, e1, e2, fun i hi => ?_⟩, e⟩
  unfold ivU rfU
  rw [e, nI_clamp (by omega), hj j hj1]
  split
  · by_cases q : i = j
    · subst q; rw [pk_uLs, pk_uLs]
    · rw [pk_uLn q, pk_uLn q]; exact hj i hi
  · exact hj i hi
theorem rd_1 {k n x : Int32} (h : noO k n = true) : rdF k n x = 1 := by unfold rdF; rw [if_pos h]
theorem rd_2 {k n x : Int32} (h : noO k n = false) (hx : decide (0 ≤ x) = false) : rdF k n x = 2 := by
  unfold rdF; rw [h, if_neg Bool.false_ne_true, if_neg (of_decide_eq_false hx)]
theorem od_1 {k n d : Int32} {un : Nat → Int32} (h : noO k n = true) : odF k n d un = 1 := by unfold odF; rw [if_pos h]
theorem od_2 {k n d : Int32} {un : Nat → Int32} (h : noO k n = false) (hd : dyOK d = false) : odF k n d un = 2 := by
  unfold odF; rw [h, if_neg Bool.false_ne_true, dyOK_in, hd, if_neg Bool.false_ne_true]
theorem od_3 {k n d : Int32} {un : Nat → Int32} (h : noO k n = false) (hd : dyOK d = true) (hu : ¬ d ≤ un k.toNatClampNeg) : odF k n d un = 3 := by
  unfold odF; rw [h, if_neg Bool.false_ne_true, dyOK_in, hd, if_pos rfl, if_neg hu]
theorem iv_1 {k n d : Int32} (h : noO k n = true) : ivF k n d = 1 := by unfold ivF; rw [if_pos h]
theorem iv_2 {k n d : Int32} (h : noO k n = false) (hd : dyOK d = false) : ivF k n d = 2 := by
  unfold ivF; rw [h, if_neg Bool.false_ne_true, dyOK_in, hd, if_neg Bool.false_ne_true]
theorem iv3_8 {vn xi d un : Int32} {v : Int64} (h : decide (vn < 8) = !decide (xi = 8)) (h8 : decide (vn < 8) = false) : iv3 xi d un v = false := by
  rw [h8] at h
  unfold iv3; rw [← h]; rfl
theorem iv3_h {xi d un : Int32} {v : Int64} (h : ¬ d ≤ un) : iv3 xi d un v = false := by
  unfold iv3
  rw [decide_eq_true (Int32.not_le.mp h)]
  cases decide (xi = 8) <;> rfl
theorem iv3_v {xi d un : Int32} {v : Int64} (h : decide (0 ≤ v) = false) : iv3 xi d un v = false := by
  unfold iv3
  rw [h, Bool.and_false, Bool.and_false]
/-! minutes -/
theorem kd_8 {k : Int32} (h : inOK k 8 = true) : ¬ k < 0 ∧ k ≤ 7 ∧ vp_in k 8 ∧ ∃ j : Nat, j < 8 ∧ k = nI j := by
  have q := inOK_iff.mp h
  rw [show (8 : Int32).toInt = 8 from rfl] at q
  refine ⟨?_, ?_, in8 q.1 q.2, v_of (n := 8) (N := 8) rfl (by decide) h⟩
  · rw [Int32.lt_iff_toInt_lt, Int32.toInt_zero]; omega
  · rw [Int32.le_iff_toInt_le, show (7 : Int32).toInt = 7 from rfl]; omega
theorem le_1 {k x : Int32} (h : inOK k 8 = false) : leF k x = 1 := by
  unfold leF
  by_cases q : k < 0
  · rw [if_pos q]
  · rw [if_neg q, if_neg (fun z => ?_)]
    have : inOK k 8 = true := inOK_iff.mpr (by
      rw [Int32.lt_iff_toInt_lt, Int32.toInt_zero] at q
      rw [Int32.le_iff_toInt_le, show (7 : Int32).toInt = 7 from rfl] at z
      rw [show (8 : Int32).toInt = 8 from rfl]; omega)
    rw [h] at this; exact Bool.noConfusion this
theorem le_2 {k x : Int32} (h : inOK k 8 = true) (hx : mtOK x = false) : leF k x = 2 := by
  obtain ⟨h1, h2, _⟩ := kd_8 h
  unfold leF
  rw [if_neg h1, if_pos h2, mt_in, hx, if_neg Bool.false_ne_true]
theorem ln_1 {n : Nat} (h : n < 2 ^ 62) : (lN n + 1).toInt = n + 1 := by
  have e : (lN n).toInt = n := pk_lT (by omega)
  rw [Int64.toInt_add, e, show (1 : Int64).toInt = 1 from rfl, Int.bmod_eq_of_le (by omega) (by omega)]
theorem ln_s {n : Nat} (h : n < 2 ^ 62) : lN n + 1 = lN (n + 1) := Int64.toInt_inj.mp (by rw [ln_1 h, pk_lT (by omega)]; omega)
theorem sm_learn {c : Nat} {mS mC xs xm : Nat → Int64} {k x : Int32} (h : LeR c mS mC xs xm) (hc : c < 2 ^ 60) (hk : inOK k 8 = true) : LeR (c + 1) (ixUL mS 8 k (mS k.toNatClampNeg + x.toInt64)) (ixUL mC 8 k (mC k.toNatClampNeg + 1)) (vp_updL xs k.toNatClampNeg (xs k.toNatClampNeg + x.toInt64)) (vp_updL xm k.toNatClampNeg (xm k.toNatClampNeg + 1)) ∧ mnM (ixUL mS 8 k (mS k.toNatClampNeg + x.toInt64)) (ixUL mC 8 k (mC k.toNatClampNeg + 1)) k = ((xs k.toNatClampNeg + x.toInt64) / (xm k.toNatClampNeg + 1)).toInt32 ∧ ¬ xm k.toNatClampNeg + 1 = 0 := by
  obtain ⟨_, _, _, j, hj, rfl⟩ := kd_8 hk
  obtain ⟨e1, e2, n, hn, e3⟩ := h j hj
  rw [ixUL_n (N := 8) (M := 8) rfl hj (by decide), ixUL_n (N := 8) (M := 8) rfl hj (by decide), nI_clamp (by omega), e1, e2]
  have h1 : 1 ≤ mC j + 1 := Int64.le_iff_toInt_le.mpr (by rw [e3, ln_1 (by omega), show (1 : Int64).toInt = 1 from rfl]; omega)
  refine ⟨fun i hi => ?_, ?_, ne0_1 h1⟩
  · by_cases q : i = j
    · subst q
      rw [pk_uLs, pk_uLs, pk_uLs, pk_uLs]
      exact ⟨rfl, rfl, n + 1, by omega, by rw [e3, ln_s (by omega)]⟩
    · rw [pk_uLn q, pk_uLn q, pk_uLn q, pk_uLn q]
      obtain ⟨a, b, n', hn', e⟩ := h i hi
      exact ⟨a, b, n', by omega, e⟩
  · unfold mnM
    rw [if_pos (ix_t (N := 8) (M := 8) rfl hj (by decide)), nI_clamp (by omega), pk_uLs, pk_uLs, if_pos h1]
theorem le_up {c : Nat} {mS mC xs xm : Nat → Int64} (h : LeR c mS mC xs xm) : LeR (c + 1) mS mC xs xm := fun j hj => by
  obtain ⟨a, b, n, hn, e⟩ := h j hj
  exact ⟨a, b, n, by omega, e⟩
/-! the text -/
theorem un_rd {u n : Int32} {SZ : Nat} (hn : n = nI SZ) (hS : SZ ≤ 240) : rdA u n = unR u n := by
  refine beq_of ?_
  unfold rdA unR isIx
  rw [Bool.and_eq_true, Bool.and_eq_true, Bool.and_eq_true, Bool.and_eq_true, in9_iff, Bool.not_eq_true', Bool.not_eq_true', Bool.not_eq_true', Bool.not_eq_true', decide_eq_false_iff_not, decide_eq_false_iff_not, decide_eq_false_iff_not, decide_eq_false_iff_not, Int32.lt_iff_toInt_lt, Int32.lt_iff_toInt_lt, hn, show (32 : Int32).toInt = 32 from rfl, show (126 : Int32).toInt = 126 from rfl, show (32 : Int64).toInt = 32 from rfl, show (126 : Int64).toInt = 126 from rfl]
  have := nI_pos (n := SZ) (by omega)
  constructor
  · intro q; exact ⟨by omega, q.2.2.2⟩
  · intro q; exact ⟨by omega, by omega, this, q.2⟩
theorem ch_n {u : Int32} (h0 : 0 ≤ u.toInt) (h1 : u.toInt < 65536) : chN u = u := by
  have e : u = nI u.toInt.toNat := Int32.toInt_inj.mp (by rw [nI_toInt (by omega)]; omega)
  have k : ∀ n : Nat, n < 65536 → chN (nI n) = nI n := by
    intro n hn
    unfold chN
    rw [pk_vc]
    have e1 : ((nI n).toUInt32 % 65536).toInt32 = nI n := by
      apply Int32.toBitVec_inj.mp
      apply BitVec.eq_of_toNat_eq
      show ((nI n).toUInt32 % 65536).toNat = (nI n).toBitVec.toNat
      rw [UInt32.toNat_mod, show (nI n).toUInt32.toNat = (nI n).toBitVec.toNat from rfl, pk_tn (by omega), show (65536 : UInt32).toNat = 65536 from rfl]
      omega
    exact e1
  rw [e]
  exact k _ (by omega)
theorem sm_unit {tx : Nat → Int32} {ln : Int32} {xt : Nat → Int32} {xz u : Int32} (h : TxR tx ln xt xz) : TxR (rdT tx ln u) (rdN ln u) (unT xt u xz) (unN u xz) ∧ rdA u ln = unR u xz := by
  obtain ⟨SZ, hS, rfl, rfl, hj⟩ := h
  have e := un_rd (u := u) (n := nI SZ) rfl hS
  refine ⟨?_, e⟩
  unfold rdT rdN unT unN
  rw [e]
  cases q : unR u (nI SZ)
  · simp only [Bool.false_eq_true, if_false]
    exact ⟨SZ, hS, rfl, rfl, hj⟩
  · simp only [if_true]
    unfold unR at q
    rw [Bool.and_eq_true, in9_iff, Bool.not_eq_true', decide_eq_false_iff_not] at q
    rw [show (32 : Int64).toInt = 32 from rfl, show (126 : Int64).toInt = 126 from rfl] at q
    have hS2 : SZ < 240 := by
      rcases Nat.lt_or_ge SZ 240 with z | z
      · exact z
      · exact absurd (show (240 : Int32) ≤ nI SZ from nI_le (a := 240) z (by omega)) q.2
    rw [nI_clamp (by omega), nI_1, ch_n (by omega) (by omega)]
    refine ⟨SZ + 1, hS2, rfl, rfl, fun j hj1 => ?_⟩
    by_cases z : j = SZ
    · subst z; rw [pk_us, pk_us]
    · rw [pk_un z, pk_un z]; exact hj j (by omega)
/-! reading -/
theorem sm_fault {tx : Nat → Int32} {ln : Int32} {xt : Nat → Int32} {xz dl : Int32} (h : TxR tx ln xt xz) (sg en dr dB : Nat → Int32) : (rfL tx ln 240 0 0 sg en 0 0).1 = (ouL xt xz dl 240 0 0 0 0 dr (upd dB (0 : Int32).toNatClampNeg 0)).1 := by
  obtain ⟨SZ, hS, rfl, rfl, hj⟩ := h
  exact (rd_all (dl := dl) hS hj sg en dr dB).1
theorem cp_in {f g : Nat → Int32} {i j : Nat} (h : j < i) : cpI f g i j = f j := if_pos h
theorem sm_read {tx : Nat → Int32} {ln : Int32} {xt : Nat → Int32} {xz dl : Int32} (h : TxR tx ln xt xz) (sg en dr dB xs xb : Nat → Int32) (h1 : (ouL xt xz dl 240 0 0 0 0 dr (upd dB (0 : Int32).toNatClampNeg 0)).1 = -1) : ∃ JL : Nat, (ouL xt xz dl 240 0 0 0 0 dr (upd dB (0 : Int32).toNatClampNeg 0)).2.2.2 = nI JL ∧ JL ≤ 16 ∧ (rfL tx ln 240 0 0 sg en 0 0).2.2.2.2.2.2 = nI JL ∧ ShX (rfL tx ln 240 0 0 sg en 0 0).2.2.2.1 (rfL tx ln 240 0 0 sg en 0 0).2.2.2.2.1 (rfL tx ln 240 0 0 sg en 0 0).2.2.2.2.2.2 (cpI (ouL xt xz dl 240 0 0 0 0 dr (upd dB (0 : Int32).toNatClampNeg 0)).2.1 xs 240) (cpI (ouL xt xz dl 240 0 0 0 0 dr (upd dB (0 : Int32).toNatClampNeg 0)).2.2.1 xb (JL + 1)) (ouL xt xz dl 240 0 0 0 0 dr (upd dB (0 : Int32).toNatClampNeg 0)).2.2.2 := by
  obtain ⟨SZ, hS, rfl, rfl, hj⟩ := h
  obtain ⟨LL, B, k1, k2, k3⟩ := (rd_all (dl := dl) hS hj sg en dr dB).2 h1
  refine ⟨LL, k3, k1.1, k2, LL, B, k2, k3, sh_ext k1 (fun s hs => ⟨rfl, cp_in ?_⟩) (fun _ _ => rfl) (fun j hj => cp_in (by omega))⟩
  have := (sh_b k1 (Nat.le_refl LL)).2
  omega
theorem TxR_0 (tx xt : Nat → Int32) : TxR tx 0 xt 0 := ⟨0, by omega, rfl, rfl, fun j h => by omega⟩
