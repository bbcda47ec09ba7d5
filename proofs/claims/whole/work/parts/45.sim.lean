/-! the simulation: what class and reference share between calls -/
def TxR (tx : Nat → Int32) (ln : Int32) (xt : Nat → Int32) (xz : Int32) : Prop := ∃ SZ : Nat, SZ ≤ 240 ∧ ln = nI SZ ∧ xz = nI SZ ∧ ∀ j, j < SZ → xt j = tx j
def ShX (sg en : Nat → Int32) (lc : Int32) (xs xb : Nat → Int32) (xl : Int32) : Prop := ∃ (LL : Nat) (B : Nat → Nat), lc = nI LL ∧ xl = nI LL ∧ ShR sg en xs xb LL B
def CuR (cD cA cB : Nat → Int32) (cn : Int32) (ds ra rb : Nat → Int32) (rw : Int32) : Prop := ∃ N : Nat, N ≤ 8 ∧ cn = nI N ∧ rw = nI N ∧ ∀ j, j < N → ds j = cD j ∧ ra j = cA j ∧ rb j = cB j ∧ 1 ≤ (cB j).toInt
def OfR (oC : Nat → Int64) (oL : Nat → Int32) (on : Int32) (xc : Nat → Int64) (xu : Nat → Int32) (xo : Int32) : Prop := ∃ N : Nat, N ≤ 8 ∧ on = nI N ∧ xo = nI N ∧ ∀ j, j < N → xc j = oC j ∧ xu j = oL j
def IvR (iL : Nat → Int64) (vn : Int32) (xe : Nat → Int64) (xi : Int32) : Prop := ∃ N : Nat, N ≤ 8 ∧ vn = nI N ∧ xi = nI N ∧ ∀ j, j < N → xe j = iL j
def LeR (c : Nat) (mS mC xs xm : Nat → Int64) : Prop := ∀ j, j < 8 → xs j = mS j ∧ xm j = mC j ∧ ∃ n : Nat, n ≤ c ∧ mC j = lN n
theorem in9_iff {x : Int32} {a b : Int64} : isIn9 x.toInt64 a b = true ↔ a.toInt ≤ x.toInt ∧ x.toInt ≤ b.toInt := by
  unfold isIn9
  rw [Bool.and_eq_true, Bool.not_eq_true', Bool.not_eq_true', decide_eq_false_iff_not, decide_eq_false_iff_not, Int64.lt_iff_toInt_lt, Int64.lt_iff_toInt_lt, Int32.toInt_toInt64]
  omega
theorem beq_of {a b : Bool} (h : a = true ↔ b = true) : a = b := by cases a <;> cases b <;> simp_all
theorem inOK_iff {k n : Int32} : inOK k n = true ↔ 0 ≤ k.toInt ∧ k.toInt < n.toInt := by
  unfold inOK
  rw [Bool.and_eq_true, Bool.not_eq_true', decide_eq_false_iff_not, decide_eq_true_eq, Int32.lt_iff_toInt_lt, Int32.lt_iff_toInt_lt, Int32.toInt_zero]
  omega
theorem inOK_no {k n : Int32} : noO k n = !inOK k n := by
  unfold noO inOK
  cases decide (k < 0) <;> cases decide (k < n) <;> rfl
theorem dyOK_in {d : Int32} : isIn9 d.toInt64 0 10000 = dyOK d := by
  refine beq_of (in9_iff.trans ?_)
  unfold dyOK
  rw [Bool.and_eq_true, Bool.not_eq_true', decide_eq_false_iff_not, decide_eq_true_eq, Int32.lt_iff_toInt_lt, Int32.le_iff_toInt_le, Int32.toInt_zero, show (10000 : Int32).toInt = 10000 from rfl, show (10000 : Int64).toInt = 10000 from rfl, l_i0]
  omega
theorem rt_in {x : Int32} : isIn9 x.toInt64 1 1000 = isRt x := by
  refine beq_of (in9_iff.trans ?_)
  unfold isRt
  rw [Bool.and_eq_true, Bool.not_eq_true', Bool.not_eq_true', decide_eq_false_iff_not, decide_eq_false_iff_not, Int32.lt_iff_toInt_lt, Int32.lt_iff_toInt_lt, show (1 : Int32).toInt = 1 from rfl, show (1000 : Int32).toInt = 1000 from rfl, show (1000 : Int64).toInt = 1000 from rfl, show (1 : Int64).toInt = 1 from rfl]
  omega
theorem mt_in {x : Int32} : isIn9 x.toInt64 0 100000 = mtOK x := by
  refine beq_of (in9_iff.trans ?_)
  unfold mtOK
  rw [Bool.and_eq_true, Bool.not_eq_true', decide_eq_false_iff_not, decide_eq_true_eq, Int32.lt_iff_toInt_lt, Int32.le_iff_toInt_le, Int32.toInt_zero, show (100000 : Int32).toInt = 100000 from rfl, show (100000 : Int64).toInt = 100000 from rfl, l_i0]
  omega
theorem noF_fl {c : Int32} : noF c = !isFL c := by
  unfold noF isFL
  cases decide (c < 97) <;> cases decide (122 < c) <;> cases decide (c = 114) <;> rfl
theorem fn_in {x y : Int32} : fnOK x y = (isIn9 y.toInt64 1 10000 && isIn9 x.toInt64 (-1000000) 1000000) := by
  refine beq_of ?_
  rw [Bool.and_eq_true, in9_iff, in9_iff]
  unfold fnOK
  rw [Bool.and_eq_true, Bool.and_eq_true, Bool.and_eq_true, Bool.not_eq_true', Bool.not_eq_true', decide_eq_false_iff_not, decide_eq_false_iff_not, decide_eq_true_eq, decide_eq_true_eq, Int32.lt_iff_toInt_lt, Int32.lt_iff_toInt_lt, Int32.le_iff_toInt_le, Int32.le_iff_toInt_le]
  rw [show (1 : Int32).toInt = 1 from rfl, show (10000 : Int32).toInt = 10000 from rfl, show (-1000000 : Int32).toInt = -1000000 from rfl, show (1000000 : Int32).toInt = 1000000 from rfl, show (1 : Int64).toInt = 1 from rfl, show (10000 : Int64).toInt = 10000 from rfl, show (-1000000 : Int64).toInt = -1000000 from rfl, show (1000000 : Int64).toInt = 1000000 from rfl]
  omega
theorem ff_1 {ch x y : Int32} (h : isFL ch = false) : ffM ch x y = 1 := by
  unfold ffM
  rw [noF_fl, h]; rfl
theorem ff_0 {ch x y : Int32} (h : isFL ch = true) (h2 : fnOK x y = true) : ffM ch x y = 0 := by
  rw [fn_in, Bool.and_eq_true] at h2
  unfold ffM
  rw [noF_fl, h, h2.1, h2.2]; rfl
theorem ff_2 {ch x y : Int32} (h : isFL ch = true) (h2 : fnOK x y = false) : ffM ch x y = 2 := by
  rw [fn_in] at h2
  unfold ffM
  rw [noF_fl, h]
  cases q1 : isIn9 y.toInt64 1 10000
  · rfl
  · cases q2 : isIn9 x.toInt64 (-1000000) 1000000
    · rfl
    · rw [q1, q2] at h2; exact absurd h2 (by decide)
theorem fl_v {ch : Int32} (h : isFL ch = true) : vp_in (ch - 97) 26 := by
  obtain ⟨d, hd, rfl⟩ := fl_n h
  rw [fa_ix hd]
  exact pk_in d 26 hd
theorem fn_y0 {x y : Int32} (h : fnOK x y = true) : ¬ y.toInt64 = 0 := (nb_self (fn_ok h)).2.2
theorem v_of {k n : Int32} {N : Nat} (hn : n = nI N) (hN : N < 2 ^ 31) (h : inOK k n = true) : ∃ j : Nat, j < N ∧ k = nI j := by
  have := inOK_iff.mp h
  rw [hn, nI_toInt hN] at this
  refine ⟨k.toInt.toNat, by omega, Int32.toInt_inj.mp ?_⟩
  rw [nI_toInt (by omega)]
  omega
/-! the reckoning -/
theorem sm_sh {sg en : Nat → Int32} {lc : Int32} {xs xb : Nat → Int32} {xl : Int32} (h : ShX sg en lc xs xb xl) : shOK en lc ∧ ∃ LL : Nat, xl = nI LL ∧ bgOK xs xb LL := by
  obtain ⟨LL, B, e1, e2, hR⟩ := h
  rw [e1]
  exact ⟨sh_OK hR, LL, e2, sh_bg hR⟩
theorem sm_cents {sg en : Nat → Int32} {lc : Int32} {xs xb : Nat → Int32} {xl : Int32} {fA fB : Nat → Int32} {ab be : Nat → Int64} {td : Nat → Int32} (h : ShX sg en lc xs xb xl) (hf : FcR fA fB ab be td) {ht : Int32} {rs pl : Nat → Int32} {fn fd : Nat → Int64} {rs' pl' : Nat → Int32} {aT aB : Nat → Int64} {hi : Int32} {tp bt : Nat → Int64} {top bot : Int64} :
    hun ((rkS sg en fA fB lc ht rs pl fn fd).2.2.2.2.1 0) ((rkS sg en fA fB lc ht rs pl fn fd).2.2.2.2.2 0) = flM ((200 * (rkN xs xb ab be td xl rs' pl' aT aB hi tp bt top bot).2.2.2.2.2.2.2.1) + (rkN xs xb ab be td xl rs' pl' aT aB hi tp bt top bot).2.2.2.2.2.2.2.2.1) (2 * (rkN xs xb ab be td xl rs' pl' aT aB hi tp bt top bot).2.2.2.2.2.2.2.2.1) := by
  obtain ⟨LL, B, rfl, rfl, hR⟩ := h
  obtain ⟨_, k2, k3, k4, _, _⟩ := rk_all hR hf ht rs pl fn fd rs' pl' aT aB hi tp bt top bot
  rw [k2, k3, hun_fl k4]
theorem sm_open {sg en : Nat → Int32} {lc : Int32} {xs xb : Nat → Int32} {xl : Int32} {fA fB : Nat → Int32} {ab be : Nat → Int64} {td : Nat → Int32} (h : ShX sg en lc xs xb xl) (hf : FcR fA fB ab be td) {ht : Int32} {rs pl : Nat → Int32} {fn fd : Nat → Int64} {rs' pl' : Nat → Int32} {aT aB : Nat → Int64} {hi : Int32} {tp bt : Nat → Int64} {top bot : Int64} :
    (rkS sg en fA fB lc ht rs pl fn fd).2.1 = cnL (rkN xs xb ab be td xl rs' pl' aT aB hi tp bt top bot).1 xl 16 0 := by
  obtain ⟨LL, B, rfl, rfl, hR⟩ := h
  exact (rk_all hR hf ht rs pl fn fd rs' pl' aT aB hi tp bt top bot).2.2.2.2.1
theorem lnOK_in {k lc pt : Int32} {LL : Nat} (hl : lc = nI LL) (h16 : LL ≤ 16) : (isIn9 k.toInt64 0 (lc.toInt64 - 1) && isIn9 pt.toInt64 0 3) = lnOK k lc pt := by
  have e : (lc.toInt64 - 1).toInt = LL - 1 := by
    rw [hl, l_sub (by rw [Int32.toInt_toInt64, nI_toInt (by omega)]; omega) (by decide), Int32.toInt_toInt64, nI_toInt (by omega)]
    rfl
  refine beq_of ?_
  unfold lnOK
  rw [Bool.and_eq_true, in9_iff, in9_iff, Bool.and_eq_true, inOK_iff, e, hl, nI_toInt (by omega), Bool.and_eq_true, Bool.not_eq_true', decide_eq_false_iff_not, decide_eq_true_eq, Int32.lt_iff_toInt_lt, Int32.le_iff_toInt_le, Int32.toInt_zero, l_i0, show (3 : Int64).toInt = 3 from rfl, show (3 : Int32).toInt = 3 from rfl]
  omega
theorem sm_line {sg en : Nat → Int32} {lc : Int32} {xs xb : Nat → Int32} {xl : Int32} {fA fB : Nat → Int32} {ab be : Nat → Int64} {td : Nat → Int32} (h : ShX sg en lc xs xb xl) (hf : FcR fA fB ab be td) {ht : Int32} {rs pl : Nat → Int32} {fn fd : Nat → Int64} {rs' pl' : Nat → Int32} {aT aB : Nat → Int64} {hi : Int32} {tp bt : Nat → Int64} {top bot : Int64} {k pt : Int32} (hk : lnOK k lc pt = true) :
    ptS (rkS sg en fA fB lc ht rs pl fn fd).2.2.1 (rkS sg en fA fB lc ht rs pl fn fd).2.2.2.1 (rkS sg en fA fB lc ht rs pl fn fd).2.2.2.2.1 (rkS sg en fA fB lc ht rs pl fn fd).2.2.2.2.2 k pt = lpM (rkN xs xb ab be td xl rs' pl' aT aB hi tp bt top bot) k pt ∧ vp_in k 16 ∧ isIn9 k.toInt64 0 (xl.toInt64 - 1) = true ∧ isIn9 pt.toInt64 0 3 = true := by
  obtain ⟨LL, B, e1, e2, hR⟩ := h
  have h16 := hR.1
  have hin := lnOK_in (k := k) (pt := pt) e1 h16
  rw [hk, Bool.and_eq_true, e1, ← e2] at hin
  unfold lnOK at hk
  rw [Bool.and_eq_true] at hk
  obtain ⟨j, hj, rfl⟩ := v_of e1 (by omega) hk.1
  subst e1 e2
  obtain ⟨k1, _⟩ := rk_all hR hf ht rs pl fn fd rs' pl' aT aB hi tp bt top bot
  obtain ⟨a1, a2, a3, a4⟩ := k1 j hj
  refine ⟨?_, pk_in j 16 (by omega), hin.1, hin.2⟩
  unfold ptS lpM
  rw [if_pos (ix_t (N := 16) (M := 16) rfl (by omega) (by decide)), nI_clamp (by omega), a1, a2, a3, a4]
theorem sm_lno {sg en : Nat → Int32} {lc : Int32} {xs xb : Nat → Int32} {xl k pt : Int32} (h : ShX sg en lc xs xb xl) (hk : lnOK k lc pt = false) : (isIn9 k.toInt64 0 (xl.toInt64 - 1) && isIn9 pt.toInt64 0 3) = false := by
  obtain ⟨LL, B, e1, e2, hR⟩ := h
  rw [e2, ← e1, lnOK_in e1 hR.1]; exact hk
/-! facts -/
theorem bo1 {b : Bool} (h : b = true) : vp_nar .boolean (b2i b) = 1 := by rw [h]; rfl
theorem bo0 : vp_nar .boolean 0 = 0 := rfl
theorem fa_u {f : Nat → Int32} {n : Nat} {x : Int32} (h : n < 26) : ixU f 26 (nI (97 + n) - 97) x = upd f n x := by
  rw [fa_ix h]; exact ixU_n (N := 26) (M := 26) rfl h (by decide)
theorem fa_c {n : Nat} (h : n < 26) : (nI (97 + n) - 97).toNatClampNeg = n := by rw [fa_ix h]; exact nI_clamp (by omega)
theorem sm_tell {fA fB : Nat → Int32} {ab be : Nat → Int64} {td : Nat → Int32} {ch x y : Int32} (h : FcR fA fB ab be td) (h1 : isFL ch = true) (h2 : fnOK x y = true) : FcR (ixU fA 26 (ch - 97) x) (ixU fB 26 (ch - 97) y) (vp_updL ab (ch - 97).toNatClampNeg (mkT x.toInt64 y.toInt64)) (vp_updL be (ch - 97).toNatClampNeg (mkB x.toInt64 y.toInt64)) (upd td (ch - 97).toNatClampNeg (vp_nar .boolean (b2i (mkOK x.toInt64 y.toInt64)))) := by
  obtain ⟨n, hn, rfl⟩ := fl_n h1
  rw [fa_u hn, fa_u hn, fa_c hn, bo1 (mk_in (fn_ok h2))]
  intro j hj
  by_cases q : j = n
  · subst q
    rw [pk_us, pk_us, pk_us, pk_uLs, pk_uLs]
    exact Or.inr ⟨rfl, h2, rfl, rfl⟩
  · rw [pk_un q, pk_un q, pk_un q, pk_uLn q, pk_uLn q]
    exact h j hj
theorem sm_drop {fA fB : Nat → Int32} {ab be : Nat → Int64} {td : Nat → Int32} {ch : Int32} (h : FcR fA fB ab be td) (h1 : isFL ch = true) : FcR (ixU fA 26 (ch - 97) 0) (ixU fB 26 (ch - 97) 0) ab be (upd td (ch - 97).toNatClampNeg (vp_nar .boolean 0)) := by
  obtain ⟨n, hn, rfl⟩ := fl_n h1
  rw [fa_u hn, fa_u hn, fa_c hn, bo0]
  intro j hj
  by_cases q : j = n
  · subst q
    rw [pk_us, pk_us]
    exact Or.inl ⟨rfl, rfl⟩
  · rw [pk_un q, pk_un q, pk_un q]
    exact h j hj
theorem sm_told {fA fB : Nat → Int32} {ab be : Nat → Int64} {td : Nat → Int32} {ch : Int32} (h : FcR fA fB ab be td) (h1 : isFL ch = true) : td (ch - 97).toNatClampNeg = b2i (fcT fB ch) ∧ narrow .boolean (.int (td (ch - 97).toNatClampNeg)) = .int (td (ch - 97).toNatClampNeg) := by
  obtain ⟨n, hn, rfl⟩ := fl_n h1
  rw [fa_c hn, fcT_i hn]
  have e : td n = b2i (!decide (fB n ≤ 0)) := by
    rcases h n hn with ⟨t0, b0⟩ | ⟨t1, ok, _⟩
    · rw [t0, b0]; rfl
    · rw [t1, decide_eq_false (fn_pos ok)]; rfl
  rw [e]
  exact ⟨rfl, nar_b2i _⟩
theorem upL_2 {f : Nat → Int64} {n : Nat} {x : Int64} : vp_updL (vp_updL f n x) n (f n) = f := by
  funext j
  by_cases q : j = n
  · subst q; exact pk_uLs
  · rw [pk_uLn q, pk_uLn q]
theorem up_2 {f : Nat → Int32} {n : Nat} {x y : Int32} (h : y = f n) : upd (upd f n x) n y = f := by
  funext j
  by_cases q : j = n
  · subst q; rw [pk_us, h]
  · rw [pk_un q, pk_un q]
theorem sm_back {fA fB : Nat → Int32} {ab be : Nat → Int64} {td : Nat → Int32} {ch x y : Int32} {t b : Int64} {d : Int32} (h : FcR fA fB ab be td) (h1 : isFL ch = true) : FcR (chA fA fB ch x) (chB fB ch y) (vp_updL (vp_updL ab (ch - 97).toNatClampNeg t) (ch - 97).toNatClampNeg (ab (ch - 97).toNatClampNeg)) (vp_updL (vp_updL be (ch - 97).toNatClampNeg b) (ch - 97).toNatClampNeg (be (ch - 97).toNatClampNeg)) (upd (upd td (ch - 97).toNatClampNeg d) (ch - 97).toNatClampNeg (vp_nar .boolean (td (ch - 97).toNatClampNeg))) := by
  have h2 := (sm_told h h1).1
  obtain ⟨n, hn, rfl⟩ := fl_n h1
  unfold chA chB
  rw [fa_c hn] at h2 ⊢
  rw [upL_2, upL_2, up_2 (f := td) (show vp_nar .boolean (td n) = td n by rw [h2]; cases fcT fB (nI (97 + n)) <;> rfl), fa_u hn, fa_u hn, fa_u hn, fa_u hn, fa_u hn, fa_u hn, fa_g hn, fa_g hn]
  cases q : fcT fB (nI (97 + n))
  · rw [if_neg Bool.false_ne_true, if_neg Bool.false_ne_true, upd_2, upd_2]
    intro j hj
    by_cases e : j = n
    · subst e
      rw [pk_us, pk_us, h2, q]
      exact Or.inl ⟨rfl, rfl⟩
    · rw [pk_un e, pk_un e]; exact h j hj
  · rw [if_pos rfl, if_pos rfl, up_2 rfl, up_2 rfl]
    exact h
