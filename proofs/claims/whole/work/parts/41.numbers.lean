/-! the class's numbers are the reference's: the divisor, the reduced number, its limit -/
theorem cd_0 (n : Nat) (x : Int64) : cd n x 0 = x := by
  cases n with
  | zero => rfl
  | succ n => rw [cd, if_pos rfl]
theorem lN0 : lN 0 = 0 := rfl
theorem cd_gcd : ∀ (k n X Y : Nat), Y < 2 ^ k → 2 * k ≤ n → X < 2 ^ 63 → Y < 2 ^ 63 → cd n (lN X) (lN Y) = lN (Nat.gcd X Y) := by
  intro k
  induction k with
  | zero =>
    intro n X Y hY hn hX hY2
    have : Y = 0 := by omega
    subst this
    rw [lN0, cd_0, Nat.gcd_zero_right]
  | succ k ih =>
    intro n X Y hY hn hX hY2
    by_cases h0 : Y = 0
    · subst h0
      rw [lN0, cd_0, Nat.gcd_zero_right]
    · have hp : 0 < Y := Nat.pos_of_ne_zero h0
      obtain ⟨n', rfl⟩ : ∃ n', n = n' + 2 := ⟨n - 2, by omega⟩
      have e0 : ¬ lN Y = 0 := fun q => h0 ((pk_lEQ (b := 0) hY2 (by decide)).mp q)
      rw [cd, if_neg e0, pk_lRem hX hp hY2]
      have hm := Nat.mod_lt X hp
      have hg : Nat.gcd X Y = Nat.gcd Y (X % Y) := by rw [Nat.gcd_comm X Y, Nat.gcd_rec Y X, Nat.gcd_comm]
      by_cases h1 : X % Y = 0
      · rw [h1, lN0, cd_0, hg, h1, Nat.gcd_zero_right]
      · have hp1 : 0 < X % Y := Nat.pos_of_ne_zero h1
        have e1 : ¬ lN (X % Y) = 0 := fun q => h1 ((pk_lEQ (b := 0) (by omega) (by decide)).mp q)
        rw [cd, if_neg e1, pk_lRem hY2 hp1 (by omega)]
        have hm1 := Nat.mod_lt Y hp1
        have hhalf : 2 * (Y % (X % Y)) < Y := by
          have h2 := Nat.div_add_mod Y (X % Y)
          have h3 : 1 ≤ Y / (X % Y) := Nat.div_pos (by omega) hp1
          have h4 : X % Y ≤ (X % Y) * (Y / (X % Y)) := Nat.le_mul_of_pos_right _ h3
          omega
        have hg2 : Nat.gcd Y (X % Y) = Nat.gcd (X % Y) (Y % (X % Y)) := by rw [Nat.gcd_comm Y (X % Y), Nat.gcd_rec (X % Y) Y, Nat.gcd_comm]
        have hpw : 2 ^ (k + 1) = 2 * 2 ^ k := by rw [Nat.pow_succ]; omega
        rw [ih n' (X % Y) (Y % (X % Y)) (by omega) (by omega) (by omega) (by omega), hg, hg2]
theorem jabs_sz (x : Int64) : jabs x = szA x := by
  unfold jabs szA
  by_cases h : 0 < x
  · rw [if_pos h, if_pos (Int64.le_of_lt h)]
  · rw [if_neg h]
    by_cases h2 : 0 ≤ x
    · rw [if_pos h2]
      have : x = 0 := Int64.toInt_inj.mp (by
        have a := Int64.le_iff_toInt_le.mp h2
        have b : ¬ (0 : Int64).toInt < x.toInt := fun q => h (Int64.lt_iff_toInt_lt.mpr q)
        rw [l_i0] at *
        omega)
      rw [this]; rfl
    · rw [if_neg h2]
theorem fr_gI {a b : Int64} (ha : nMin a) (hb : nMin b) : fr_g a b = gI a b := by
  unfold fr_g gI
  rw [jabs_sz, jabs_sz, szA_N ha, szA_N hb]
  exact cd_gcd 63 128 _ _ (abs_lt hb) (by decide) (abs_lt ha) (abs_lt hb)
theorem sz_neg {x : Int64} (h : nMin x) : szA (-x) = szA x := by
  have h2 : nMin (-x) := by
    have := Int64.toInt_lt x
    unfold nMin at *
    rw [Int64.toInt_neg, Int.bmod_eq_of_le (by omega) (by omega)]
    omega
  rw [szA_N h, szA_N h2, l_neg h, Int.natAbs_neg]
theorem g_dvd {a b : Int64} : (Nat.gcd a.toInt.natAbs b.toInt.natAbs : Int) ∣ b.toInt := by
  have h := Nat.gcd_dvd_right a.toInt.natAbs b.toInt.natAbs
  exact Int.natAbs_dvd_natAbs.mp (by rw [Int.natAbs_natCast]; exact h)
theorem div_lN {x : Int64} {g : Nat} (hx : nMin x) (h0 : 0 < g) (hg : g < 2 ^ 63) : (x / lN g).toInt = x.toInt.tdiv g ∧ nMin (x / lN g) := by
  have e : (x / lN g).toInt = x.toInt.tdiv g := by
    rw [Int64.toInt_div_of_ne_left _ _ (fun q => by subst q; exact absurd hx (by unfold nMin; decide)), pk_lT hg]
  refine ⟨e, ?_⟩
  unfold nMin at *
  rw [e]
  have h1 := Int.natAbs_tdiv_le_natAbs x.toInt g
  have h2 := Int64.toInt_lt x
  omega
theorem div_sz {x : Int64} {g : Nat} (hx : nMin x) (h0 : 0 < g) (hg : g < 2 ^ 63) : szA (x / lN g) = lN (x.toInt.natAbs / g) := by
  obtain ⟨e1, e2⟩ := div_lN hx h0 hg
  rw [szA_N e2, e1, Int.natAbs_tdiv, Int.natAbs_natCast]
  rfl
theorem div_sgn {a b : Int64} (hb : nMin b) (h0 : ¬ b = 0) : (0 ≤ b / gI a b) ↔ 0 ≤ b := by
  have hp := Nat.gcd_pos_of_pos_right a.toInt.natAbs (Nat.pos_of_ne_zero (ti_ne0 h0))
  obtain ⟨e1, e2⟩ := div_lN hb hp (gI_lt (a := a) hb h0)
  have e3 : (b / gI a b).toInt * (Nat.gcd a.toInt.natAbs b.toInt.natAbs : Int) = b.toInt := by
    rw [show (b / gI a b).toInt = b.toInt.tdiv (Nat.gcd a.toInt.natAbs b.toInt.natAbs) from e1]
    exact Int.tdiv_mul_cancel g_dvd
  have hp' : (0 : Int) < (Nat.gcd a.toInt.natAbs b.toInt.natAbs : Int) := by omega
  rw [Int64.le_iff_toInt_le, Int64.le_iff_toInt_le, l_i0, ← e3]
  constructor
  · intro h; exact Int.mul_nonneg h (Int.le_of_lt hp')
  · intro h
    rcases Int.lt_or_le (b / gI a b).toInt 0 with q | q
    · exact absurd (Int.mul_neg_of_neg_of_pos q hp') (by omega)
    · exact q
theorem fr_mk {a b : Int64} (h : nMin a ∧ nMin b ∧ ¬ b = 0) : fr_ok a b = mkOK a b ∧ (if 0 ≤ fr_b a b then fr_a a b else -fr_a a b) = mkT a b ∧ jabs (fr_b a b) = mkB a b := by
  obtain ⟨ha, hb, h0⟩ := h
  have hp := Nat.gcd_pos_of_pos_right a.toInt.natAbs (Nat.pos_of_ne_zero (ti_ne0 h0))
  have hl := gI_lt (a := a) hb h0
  have hg := fr_gI ha hb
  have eT : (if 0 ≤ fr_b a b then fr_a a b else -fr_a a b) = mkT a b := by
    unfold fr_b fr_a mkT
    rw [hg]
    by_cases q : 0 ≤ b
    · rw [if_pos q, if_pos ((div_sgn hb h0).mpr q)]
    · rw [if_neg q, if_neg (fun z => q ((div_sgn hb h0).mp z))]
  have eB : jabs (fr_b a b) = mkB a b := by
    unfold fr_b mkB
    rw [hg, jabs_sz, szA_N hb]
    show szA (b / lN _) = lN _ / lN _
    rw [div_sz hb hp hl, pk_lDiv (abs_lt hb) hp hl]
  have eS : szA (mkT a b) = jabs (fr_a a b) := by
    rw [jabs_sz, ← eT]
    split
    · rfl
    · exact sz_neg (by unfold fr_a; rw [hg]; exact (div_lN ha hp hl).2)
  refine ⟨?_, eT, eB⟩
  unfold fr_ok mkOK
  rw [eB, eS, hg]
  have e1 : decide (gI a b = 0) = false := decide_eq_false (gI_ne0 hb h0)
  have e2 : decide (b = 0) = false := decide_eq_false h0
  rw [e1, e2]
  simp only [Bool.not_false, Bool.true_and]
  congr 1
  by_cases q : 1000000000 < mkB a b
  · rw [decide_eq_true q, decide_eq_false (Int64.not_le.mpr q)]; rfl
  · rw [decide_eq_false q, decide_eq_true (Int64.not_lt.mp q)]; rfl
def cnP (t b : Int64) : Prop := mkT t b = t ∧ mkB t b = b
theorem dv1 (x : Int64) (h : nMin x) : x / lN 1 = x := Int64.toInt_inj.mp (by rw [(div_lN h (by decide) (by decide)).1]; exact Int.tdiv_one _)
theorem cn_of {t b : Int64} (ht : nMin t) (hb : 1 ≤ b.toInt) (hg : Nat.gcd t.toInt.natAbs b.toInt.natAbs = 1) : cnP t b := by
  have hbm : nMin b := by unfold nMin; omega
  have hb0 : 0 ≤ b := Int64.le_iff_toInt_le.mpr (by rw [l_i0]; omega)
  unfold cnP mkT mkB gI
  rw [hg, if_pos hb0, dv1 t ht]
  refine ⟨rfl, ?_⟩
  rw [show szA b = b from if_pos hb0]
  exact dv1 b hbm
theorem mk_cn {a b : Int64} (h : nMin a ∧ nMin b ∧ ¬ b = 0) : cnP (mkT a b) (mkB a b) := by
  obtain ⟨ha, hb, h0⟩ := h
  have hp := Nat.gcd_pos_of_pos_right a.toInt.natAbs (Nat.pos_of_ne_zero (ti_ne0 h0))
  have hl := gI_lt (a := a) hb h0
  obtain ⟨e1, e2⟩ := div_lN ha hp hl
  have eB : mkB a b = lN (b.toInt.natAbs / Nat.gcd a.toInt.natAbs b.toInt.natAbs) := by
    unfold mkB
    rw [szA_N hb]
    exact pk_lDiv (abs_lt hb) hp hl
  have hq : b.toInt.natAbs / Nat.gcd a.toInt.natAbs b.toInt.natAbs < 2 ^ 63 := Nat.lt_of_le_of_lt (Nat.div_le_self _ _) (abs_lt hb)
  have hT : nMin (mkT a b) ∧ (mkT a b).toInt.natAbs = a.toInt.natAbs / Nat.gcd a.toInt.natAbs b.toInt.natAbs := by
    have e3 : (a / gI a b).toInt.natAbs = a.toInt.natAbs / Nat.gcd a.toInt.natAbs b.toInt.natAbs := by
      rw [show (a / gI a b).toInt = a.toInt.tdiv (Nat.gcd a.toInt.natAbs b.toInt.natAbs) from e1, Int.natAbs_tdiv, Int.natAbs_natCast]; rfl
    unfold mkT
    split
    · exact ⟨e2, e3⟩
    · refine ⟨?_, by rw [l_neg (a := a / gI a b) e2, Int.natAbs_neg]; exact e3⟩
      have := Int64.toInt_lt (a / gI a b)
      have e2' : nMin (a / gI a b) := e2
      unfold nMin at e2' ⊢
      rw [l_neg (a := a / gI a b) e2]
      omega
  refine cn_of hT.1 (mk_bpos hb h0) ?_
  rw [hT.2, eB, pk_lT hq, Int.natAbs_natCast, Nat.gcd_div (Nat.gcd_dvd_left _ _) (Nat.gcd_dvd_right _ _)]
  exact Nat.div_self hp
theorem msb64 (z : Int64) : (0 ≤ z) ↔ z.toBitVec.msb = false := by
  rw [Int64.le_iff_toInt_le, l_i0, BitVec.msb_eq_toInt]
  show 0 ≤ z.toBitVec.toInt ↔ _
  constructor
  · intro h; exact decide_eq_false (by omega)
  · intro h; have := of_decide_eq_false h; omega
theorem xor_pos {x y : Int64} (hy : 1 ≤ y.toInt) : (0 ≤ (x ^^^ y)) ↔ 0 ≤ x := by
  have h : y.toBitVec.msb = false := (msb64 y).mp (Int64.le_iff_toInt_le.mpr (by rw [l_i0]; omega))
  rw [msb64, msb64, Int64.toBitVec_xor, BitVec.msb_xor, h, Bool.xor_false]
theorem dv_toInt {x y : Int64} (hy : 1 ≤ y.toInt) : (x / y).toInt = x.toInt.tdiv y.toInt := Int64.toInt_div_of_ne_right _ _ (fun q => by rw [q] at hy; exact absurd hy (by decide))
theorem tm_np {x y : Int} (h : x ≤ 0) : x.tmod y ≤ 0 := by
  have h1 : 0 ≤ (-x).tmod y := Int.tmod_nonneg _ (by omega)
  rw [Int.neg_tmod] at h1
  omega
theorem dm_toInt {x y : Int64} (hy : 1 ≤ y.toInt) : (x / y * y).toInt = x.toInt.tdiv y.toInt * y.toInt ∧ (x - x / y * y).toInt = x.toInt.tmod y.toInt := by
  have h1 := Int64.toInt_lt x
  have h2 := Int64.le_toInt x
  have h3 := Int.tdiv_mul_add_tmod x.toInt y.toInt
  have h4 : (x.toInt.tmod y.toInt).natAbs ≤ x.toInt.natAbs := by
    rw [Int.natAbs_tmod]
    exact Nat.mod_le _ _
  have h5 : 0 ≤ x.toInt → 0 ≤ x.toInt.tmod y.toInt := fun h => Int.tmod_nonneg _ h
  have h6 : x.toInt ≤ 0 → x.toInt.tmod y.toInt ≤ 0 := fun h => tm_np h
  have e1 : (x / y * y).toInt = x.toInt.tdiv y.toInt * y.toInt := by
    rw [Int64.toInt_mul, dv_toInt hy, Int.bmod_eq_of_le (by omega) (by omega)]
  refine ⟨e1, ?_⟩
  rw [Int64.toInt_sub, e1, Int.bmod_eq_of_le (by omega) (by omega)]
  omega
theorem flDM {x y : Int64} (hy : 1 ≤ y.toInt) : flD x y = flM x y := by
  obtain ⟨e1, e2⟩ := dm_toInt (x := x) hy
  unfold flD flM
  have h3 := Int.tdiv_mul_add_tmod x.toInt y.toInt
  by_cases hx : 0 ≤ x
  · rw [if_pos ((xor_pos hy).mpr hx)]
    have hx' := Int64.le_iff_toInt_le.mp hx
    rw [l_i0] at hx'
    rw [if_pos (Int64.le_iff_toInt_le.mpr (by rw [l_i0, e2]; exact Int.tmod_nonneg _ hx'))]
  · rw [if_neg (fun q => hx ((xor_pos hy).mp q))]
    have hx' : x.toInt < 0 := by
      rcases Int.lt_or_le x.toInt 0 with q | q
      · exact q
      · exact absurd (Int64.le_iff_toInt_le.mpr (by rw [l_i0]; exact q)) hx
    have h6 : x.toInt.tmod y.toInt ≤ 0 := tm_np (by omega)
    by_cases q : x / y * y = x
    · rw [if_pos q]
      have : (x / y * y).toInt = x.toInt := by rw [q]
      rw [if_pos (Int64.le_iff_toInt_le.mpr (by rw [l_i0, e2]; omega))]
    · rw [if_neg q, if_neg (fun z => q (Int64.toInt_inj.mp (by
        have z := Int64.le_iff_toInt_le.mp z
        rw [l_i0, e2] at z
        rw [e1]; omega)))]
theorem hun_fl {t b : Int64} (h : nbP t b) : hun t b = flM (200 * t + b) (2 * b) := by
  have hb := h.2
  have e : (b * 2).toInt = b.toInt * 2 := by
    rw [Int64.toInt_mul, show (2 : Int64).toInt = 2 from rfl, Int.bmod_eq_of_le (by omega) (by omega)]
  have h1 : (1 : Int64) ≤ b * 2 := Int64.le_iff_toInt_le.mpr (by rw [e, show (1 : Int64).toInt = 1 from rfl]; omega)
  unfold hun
  rw [if_pos h1, flDM (by rw [e]; omega), Int64.mul_comm t 200, Int64.mul_comm b 2]
