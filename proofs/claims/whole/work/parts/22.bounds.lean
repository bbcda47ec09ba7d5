/-! numbers within the limit: nothing overflows -/
def nbP (t b : Int64) : Prop := t.toInt.natAbs ≤ 1000000000 ∧ 1 ≤ b.toInt ∧ b.toInt ≤ 1000000000
theorem l_mul {a x : Int64} (ha : a.toInt.natAbs ≤ 1000000000) (hx : x.toInt.natAbs ≤ 1000000000) : (a * x).toInt = a.toInt * x.toInt ∧ (a * x).toInt.natAbs ≤ 1000000000000000000 := by
  have h1 : (a.toInt * x.toInt).natAbs ≤ 1000000000000000000 := by
    rw [Int.natAbs_mul]
    exact Nat.mul_le_mul ha hx
  have h2 : (a * x).toInt = a.toInt * x.toInt := by
    rw [Int64.toInt_mul, Int.bmod_eq_of_le (by omega) (by omega)]
  exact ⟨h2, by rw [h2]; exact h1⟩
theorem l_add {a x : Int64} (ha : a.toInt.natAbs ≤ 4000000000000000000) (hx : x.toInt.natAbs ≤ 4000000000000000000) : (a + x).toInt = a.toInt + x.toInt := by
  rw [Int64.toInt_add, Int.bmod_eq_of_le (by omega) (by omega)]
theorem l_sub {a x : Int64} (ha : a.toInt.natAbs ≤ 4000000000000000000) (hx : x.toInt.natAbs ≤ 4000000000000000000) : (a - x).toInt = a.toInt - x.toInt := by
  rw [Int64.toInt_sub, Int.bmod_eq_of_le (by omega) (by omega)]
theorem l_neg {a : Int64} (ha : nMin a) : (-a).toInt = -a.toInt := by
  unfold nMin at ha
  have h2 := Int64.toInt_lt a
  rw [Int64.toInt_neg, Int.bmod_eq_of_le (by omega) (by omega)]
theorem nMin_of {a : Int64} (h : a.toInt.natAbs ≤ 4000000000000000000) : nMin a := by unfold nMin; omega
theorem ne0_of {b : Int64} (h : 1 ≤ b.toInt ∨ b.toInt ≤ -1) : ¬ b = 0 := fun q => by subst q; rw [l_i0] at h; omega
theorem nb_b {t b : Int64} (h : nbP t b) : b.toInt.natAbs ≤ 1000000000 := by have := h.2; omega
theorem nb_n {t b : Int64} (h : nbP t b) : (-t).toInt = -t.toInt := l_neg (nMin_of (by have := h.1; omega))
theorem nb_neg {t b : Int64} (h : nbP t b) : nbP (-t) b := ⟨by rw [nb_n h]; have := h.1; omega, h.2⟩
theorem bb_pos {b d : Int64} (h1 : 1 ≤ b.toInt) (h2 : 1 ≤ d.toInt) : 1 ≤ b.toInt * d.toInt := by
  have := Int.mul_le_mul h1 h2 (by omega) (by omega)
  omega
theorem nb_bb {a b x y : Int64} (h1 : nbP a b) (h2 : nbP x y) : (b * y).toInt = b.toInt * y.toInt ∧ 1 ≤ (b * y).toInt ∧ (b * y).toInt ≤ 1000000000000000000 := by
  obtain ⟨e1, e2⟩ := l_mul (nb_b h1) (nb_b h2)
  have := bb_pos h1.2.1 h2.2.1
  omega
theorem nb_self {a b : Int64} (h : nbP a b) : nMin a ∧ nMin b ∧ ¬ b = 0 := ⟨nMin_of (by have := h.1; omega), nMin_of (by have := nb_b h; omega), ne0_of (Or.inl h.2.1)⟩
theorem nb_mul {a b x y : Int64} (h1 : nbP a b) (h2 : nbP x y) : nMin (a * x) ∧ nMin (b * y) ∧ ¬ b * y = 0 := by
  have e1 := l_mul h1.1 h2.1
  have e2 := nb_bb h1 h2
  exact ⟨nMin_of (by omega), nMin_of (by omega), ne0_of (by omega)⟩
theorem nb_add {a b x y : Int64} (h1 : nbP a b) (h2 : nbP x y) : nMin (a * y + x * b) ∧ nMin (b * y) ∧ ¬ b * y = 0 := by
  have e1 := l_mul h1.1 (nb_b h2)
  have e3 := l_mul h2.1 (nb_b h1)
  have e2 := nb_bb h1 h2
  have e4 := l_add (a := a * y) (x := x * b) (by omega) (by omega)
  exact ⟨nMin_of (by omega), nMin_of (by omega), ne0_of (by omega)⟩
theorem nb_sub {a b x y : Int64} (h1 : nbP a b) (h2 : nbP x y) : nMin (a * y + -x * b) ∧ nMin (b * y) ∧ ¬ b * y = 0 := nb_add h1 (nb_neg h2)
theorem nb_div {a b x y : Int64} (h1 : nbP a b) (h2 : nbP x y) (hx : ¬ x = 0) : nMin (a * y) ∧ nMin (b * x) ∧ ¬ b * x = 0 := by
  have e1 := l_mul h1.1 (nb_b h2)
  have e2 := l_mul (nb_b h1) h2.1
  refine ⟨nMin_of (by omega), nMin_of (by omega), fun q => ?_⟩
  have q2 : b.toInt * x.toInt = 0 := by rw [← e2.1, q]; rfl
  rcases Int.mul_eq_zero.mp q2 with z | z
  · have := h1.2.1; omega
  · exact hx (Int64.toInt_inj.mp (by rw [z]; rfl))
theorem nb_hun {a b : Int64} (h : nbP a b) : nMin a ∧ nMin (100 * b) ∧ ¬ 100 * b = 0 := by
  have e2 := l_mul (a := 100) (x := b) (by decide) (nb_b h)
  rw [show (100 : Int64).toInt = 100 from rfl] at e2
  have := h.2
  exact ⟨nMin_of (by have := h.1; omega), nMin_of (by omega), ne0_of (by omega)⟩
theorem gI_i {a b : Int64} (hb : nMin b) (h0 : ¬ b = 0) : (gI a b).toInt = (Nat.gcd a.toInt.natAbs b.toInt.natAbs : Nat) := pk_lT (gI_lt hb h0)
theorem szA_i {a : Int64} (h : nMin a) : (szA a).toInt = a.toInt.natAbs := by rw [szA_N h]; exact pk_lT (abs_lt h)
/-- what make lays, as numbers -/
theorem mkB_i {a b : Int64} (hb : nMin b) (h0 : ¬ b = 0) : (mkB a b).toInt = ((b.toInt.natAbs / Nat.gcd a.toInt.natAbs b.toInt.natAbs : Nat) : Int) := by
  unfold mkB
  rw [szA_N hb, show gI a b = lN (Nat.gcd a.toInt.natAbs b.toInt.natAbs) from rfl, pk_lDiv (abs_lt hb) (Nat.gcd_pos_of_pos_right _ (Nat.pos_of_ne_zero (ti_ne0 h0))) (gI_lt hb h0)]
  exact pk_lT (Nat.lt_of_le_of_lt (Nat.div_le_self _ _) (abs_lt hb))
theorem mk_bpos {a b : Int64} (hb : nMin b) (h0 : ¬ b = 0) : 1 ≤ (mkB a b).toInt := by
  rw [mkB_i hb h0]
  have h1 : 0 < b.toInt.natAbs / Nat.gcd a.toInt.natAbs b.toInt.natAbs := Nat.div_pos (Nat.le_of_dvd (Nat.pos_of_ne_zero (ti_ne0 h0)) (Nat.gcd_dvd_right _ _)) (Nat.gcd_pos_of_pos_right _ (Nat.pos_of_ne_zero (ti_ne0 h0)))
  omega
theorem div_nMin {a g : Int64} (ha : nMin a) (hg : 1 ≤ g.toInt) : (a / g).toInt = a.toInt.tdiv g.toInt ∧ (a / g).toInt.natAbs ≤ a.toInt.natAbs := by
  have h1 : (a.toInt.tdiv g.toInt).natAbs ≤ a.toInt.natAbs := by
    rw [Int.natAbs_tdiv]
    exact Nat.div_le_self _ _
  unfold nMin at ha
  have h2 := Int64.toInt_lt a
  have h3 : (a / g).toInt = a.toInt.tdiv g.toInt := by
    rw [Int64.toInt_div, Int.bmod_eq_of_le (by omega) (by omega)]
  exact ⟨h3, by rw [h3]; exact h1⟩
theorem mkT_nMin {a b : Int64} (ha : nMin a) (hb : nMin b) (h0 : ¬ b = 0) : nMin (mkT a b) := by
  have hg : 1 ≤ (gI a b).toInt := by
    rw [gI_i hb h0]
    have := Nat.gcd_pos_of_pos_right a.toInt.natAbs (Nat.pos_of_ne_zero (ti_ne0 h0))
    omega
  have h1 := (div_nMin ha hg).2
  have h2 : nMin (a / gI a b) := by
    unfold nMin at ha ⊢
    have := Int64.toInt_lt a
    omega
  unfold mkT
  split
  · exact h2
  · unfold nMin
    rw [l_neg h2]
    have := Int64.toInt_lt (a / gI a b)
    omega
theorem mk_nb {a b : Int64} (ha : nMin a) (hb : nMin b) (h0 : ¬ b = 0) (h : mkOK a b = true) : nbP (mkT a b) (mkB a b) := by
  simp only [mkOK, Bool.and_eq_true, Bool.not_eq_true', decide_eq_false_iff_not] at h
  obtain ⟨h1, h2⟩ := h
  rw [Int64.lt_iff_toInt_lt] at h1 h2
  rw [szA_i (mkT_nMin ha hb h0)] at h1
  rw [show (1000000000 : Int64).toInt = 1000000000 from rfl] at h1 h2
  have := mk_bpos (a := a) hb h0
  exact ⟨by omega, by omega, by omega⟩
theorem mk_nb3 {a b : Int64} (h : nMin a ∧ nMin b ∧ ¬ b = 0) (hk : mkOK a b = true) : nbP (mkT a b) (mkB a b) := mk_nb h.1 h.2.1 h.2.2 hk
