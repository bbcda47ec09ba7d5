/-! class and reference, sign by sign: the stack of numbers -/
def sgB (z zc : Int32) : Prop := (∃ n : Nat, n < 26 ∧ isFL (nI (97 + n)) = true ∧ z = nI (100097 + n) ∧ zc = -nI (97 + n)) ∨ (z < 100000 ∧ ¬ z < 0 ∧ zc = z) ∨ (∃ c, (isTw c = true ∨ c = 114) ∧ z = -c ∧ zc = -c)
def sgE (z zc : Int32) : Prop := ∃ c, isEd c = true ∧ z = -c ∧ zc = -c
def RQ (h : Nat) (ht : Int32) (fn fd : Nat → Int64) (hi : Int32) (tp bt : Nat → Int64) (tt tb : Int64) : Prop :=
  ht = nI h ∧ hi = nI h ∧ h ≤ 6 ∧ (∀ j, j < h → fn (1 + j) = tp j ∧ fd (1 + j) = bt j ∧ nbP (tp j) (bt j) ∧ cnP (tp j) (bt j)) ∧ fn 0 = tt ∧ fd 0 = tb ∧ nbP tt tb
def FcR (fA fB : Nat → Int32) (ab be : Nat → Int64) (td : Nat → Int32) : Prop := ∀ j, j < 26 → (td j = 0 ∧ fB j = 0) ∨ (td j = 1 ∧ fnOK (fA j) (fB j) = true ∧ ab j = mkT (fA j).toInt64 (fB j).toInt64 ∧ be j = mkB (fA j).toInt64 (fB j).toInt64)
/-- the total and the amounts are kept -/
def kpP (fn fd gn gd : Nat → Int64) : Prop := ∀ j, (j = 0 ∨ 7 ≤ j) → gn j = fn j ∧ gd j = fd j
def rsn (r : Int32) : Prop := r = 0 ∨ r = 1 ∨ r = 2 ∨ r = 3
theorem kp_rf (fn fd : Nat → Int64) : kpP fn fd fn fd := fun _ _ => ⟨rfl, rfl⟩
theorem kp_upd {fn fd : Nat → Int64} {i : Nat} {x y : Int64} (h1 : 1 ≤ i) (h6 : i ≤ 6) : kpP fn fd (vp_updL fn i x) (vp_updL fd i y) := by
  intro j hj
  have : j ≠ i := by omega
  exact ⟨pk_uLn this, pk_uLn this⟩
theorem kp_fr {fn fd : Nat → Int64} {i : Nat} {x y : Int64} (h1 : 1 ≤ i) (h6 : i ≤ 6) : kpP fn fd (fr_n fn i x y) (fr_d fd i x y) := by
  unfold fr_n fr_d
  by_cases q : fr_ok x y = true
  · rw [if_pos q, if_pos q]; exact kp_upd h1 h6
  · rw [if_neg q, if_neg q]; exact kp_rf fn fd
theorem fr_n_ok {fn : Nat → Int64} {i : Nat} {a b : Int64} (h : nMin a ∧ nMin b ∧ ¬ b = 0) (hk : mkOK a b = true) : fr_n fn i a b = vp_updL fn i (mkT a b) := by
  obtain ⟨e1, e2, e3⟩ := fr_mk h
  unfold fr_n
  rw [e1, if_pos hk, e2]
theorem fr_d_ok {fd : Nat → Int64} {i : Nat} {a b : Int64} (h : nMin a ∧ nMin b ∧ ¬ b = 0) (hk : mkOK a b = true) : fr_d fd i a b = vp_updL fd i (mkB a b) := by
  obtain ⟨e1, e2, e3⟩ := fr_mk h
  unfold fr_d
  rw [e1, if_pos hk, e3]
theorem fr_n_no {fn : Nat → Int64} {i : Nat} {a b : Int64} (h : nMin a ∧ nMin b ∧ ¬ b = 0) (hk : ¬ mkOK a b = true) : fr_n fn i a b = fn := by
  unfold fr_n
  rw [(fr_mk h).1, if_neg hk]
theorem fr_d_no {fd : Nat → Int64} {i : Nat} {a b : Int64} (h : nMin a ∧ nMin b ∧ ¬ b = 0) (hk : ¬ mkOK a b = true) : fr_d fd i a b = fd := by
  unfold fr_d
  rw [(fr_mk h).1, if_neg hk]
theorem ok_nb {t b : Int64} (h : nbP t b) (hc : cnP t b) : mkOK t b = true := by
  unfold mkOK
  rw [hc.1, hc.2]
  simp only [Bool.and_eq_true, Bool.not_eq_true', decide_eq_false_iff_not, Int64.lt_iff_toInt_lt]
  rw [szA_i (nb_self h).1, show (1000000000 : Int64).toInt = 1000000000 from rfl]
  have := h.1
  have := h.2
  omega
theorem RQ_put {h i : Nat} {fn fd tp bt : Nat → Int64} {hi ht : Int32} {tt tb x y : Int64} {g : Nat} (hq : RQ g ht fn fd hi tp bt tt tb) (hg : i ≤ g) (h6 : i < 6) (hx : nbP x y) (hc : cnP x y) : RQ (i + 1) (nI (i + 1)) (vp_updL fn (1 + i) x) (vp_updL fd (1 + i) y) (nI (i + 1)) (vp_updL tp i x) (vp_updL bt i y) tt tb := by
  obtain ⟨_, _, _, hn, h0, h1, h2⟩ := hq
  refine ⟨rfl, rfl, h6, fun j hj => ?_, by rw [pk_uLn (by omega)]; exact h0, by rw [pk_uLn (by omega)]; exact h1, h2⟩
  by_cases q : j = i
  · subst q
    rw [pk_uLs, pk_uLs, pk_uLs, pk_uLs]
    exact ⟨rfl, rfl, hx, hc⟩
  · rw [pk_uLn (f := fn) (by omega), pk_uLn (f := fd) (by omega), pk_uLn (f := tp) q, pk_uLn (f := bt) q]
    exact hn j (by omega)
theorem sk_i {k : Int32} {j : Nat} (hk : k = nI j) (h : j < 6) : skI k = 1 + j := by
  subst hk
  unfold skI isIx
  rw [decide_eq_false (nI_pos (by omega)), decide_eq_false (show ¬ (6 : Int32) ≤ nI j from nI_ge (b := 6) h (by decide)), nI_clamp (by omega)]
  rfl
theorem cn1 {z : Int32} (h : z < 100000) (h0 : ¬ z < 0) : cnP z.toInt64 1 := by
  have hb := zi_nb h h0
  exact cn_of (nb_self hb).1 (by decide) (by rw [show (1 : Int64).toInt.natAbs = 1 from rfl, Nat.gcd_one_right])
/-- a number laid on the stack -/
theorem ly_st {a b : Int32} {h : Nat} {ht hi : Int32} {fn fd tp bt : Nat → Int64} {tt tb : Int64} (hq : RQ h ht fn fd hi tp bt tt tb) (h6 : h < 6) (hs : nMin a.toInt64 ∧ nMin b.toInt64 ∧ ¬ b.toInt64 = 0) (hk : mkOK a.toInt64 b.toInt64 = true) :
    (lyS a b ht fn fd).1 = 0 ∧ RQ (h + 1) (lyS a b ht fn fd).2.1 (lyS a b ht fn fd).2.2.1 (lyS a b ht fn fd).2.2.2 (hi + 1) (vp_updL tp hi.toNatClampNeg (mkT a.toInt64 b.toInt64)) (vp_updL bt hi.toNatClampNeg (mkB a.toInt64 b.toInt64)) tt tb ∧ kpP fn fd (lyS a b ht fn fd).2.2.1 (lyS a b ht fn fd).2.2.2 := by
  have e1 := hq.1
  have e2 := hq.2.1
  unfold lyS
  have ei : skI (ht + 1 - 1) = 1 + h := sk_i (by rw [e1, Int32.add_sub_cancel]) h6
  rw [ei, fr_n_ok hs hk, fr_d_ok hs hk, (fr_mk hs).1, hk]
  refine ⟨rfl, ?_, kp_upd (by omega) (by omega)⟩
  have hb := mk_nb3 hs hk
  have := RQ_put (i := h) (h := 0) hq (Nat.le_refl _) h6 hb (mk_cn hs)
  rw [e1, e2, nI_clamp (by omega), nI_1]
  exact this
theorem fn_ok {x y : Int32} (h : fnOK x y = true) : nbP x.toInt64 y.toInt64 := by
  simp only [fnOK, Bool.and_eq_true, Bool.not_eq_true', decide_eq_false_iff_not, decide_eq_true_eq] at h
  obtain ⟨⟨h1, h2⟩, h3, h4⟩ := h
  rw [Int32.lt_iff_toInt_lt] at h1 h3
  rw [Int32.le_iff_toInt_le] at h2 h4
  rw [show (1 : Int32).toInt = 1 from rfl] at h1
  rw [show (10000 : Int32).toInt = 10000 from rfl] at h2
  rw [show (-1000000 : Int32).toInt = -1000000 from rfl] at h3
  rw [show (1000000 : Int32).toInt = 1000000 from rfl] at h4
  refine ⟨?_, ?_, ?_⟩ <;> rw [Int32.toInt_toInt64] <;> omega
/-- within the limit reduced stays within -/
theorem mk_in {x y : Int64} (h : nbP x y) : mkOK x y = true := by
  have hs := nb_self h
  have hp := Nat.gcd_pos_of_pos_right x.toInt.natAbs (Nat.pos_of_ne_zero (ti_ne0 hs.2.2))
  have hl := gI_lt (a := x) hs.2.1 hs.2.2
  have hT := mkT_nMin hs.1 hs.2.1 hs.2.2
  have hd : (x / gI x y).toInt.natAbs ≤ x.toInt.natAbs := (div_nMin hs.1 (by rw [gI_i hs.2.1 hs.2.2]; omega)).2
  have hm : nMin (x / gI x y) := nMin_of (by have := h.1; omega)
  have hA : (mkT x y).toInt.natAbs ≤ x.toInt.natAbs := by
    unfold mkT
    split
    · exact hd
    · rw [l_neg hm, Int.natAbs_neg]; exact hd
  unfold mkOK
  simp only [Bool.and_eq_true, Bool.not_eq_true', decide_eq_false_iff_not, Int64.lt_iff_toInt_lt]
  rw [szA_i hT, show (1000000000 : Int64).toInt = 1000000000 from rfl, mkB_i hs.2.1 hs.2.2]
  have h1 := h.1
  have h2 := h.2
  have h3 := Nat.div_le_self y.toInt.natAbs (Nat.gcd x.toInt.natAbs y.toInt.natAbs)
  omega
theorem l_sb (a b c d : Int64) : a * d - c * b = a * d + -c * b := by
  rw [Int64.sub_eq_add_neg, Int64.neg_mul]
theorem frl_lt {a b c d : Int64} : (frL a b c d = true) ↔ a * d < c * b := by
  unfold frL
  rw [Bool.not_eq_true', decide_eq_false_iff_not, Int64.not_le]
/-- two numbers into one, where the class sets (A, B) -/
theorem two_st {A B : Int64} {h : Nat} {ht hi : Int32} {fn fd tp bt : Nat → Int64} {tt tb : Int64} (hq : RQ h ht fn fd hi tp bt tt tb) (h2 : 2 ≤ h) (hs : nMin A ∧ nMin B ∧ ¬ B = 0) :
    rsU (fr_ok A B) = (twM A B hi tp bt).1 ∧ ((twM A B hi tp bt).1 = 0 → RQ (h - 1) (ht - 1) (fr_n fn (skI (ht - 1 - 1)) A B) (fr_d fd (skI (ht - 1 - 1)) A B) (twM A B hi tp bt).2.1 (twM A B hi tp bt).2.2.1 (twM A B hi tp bt).2.2.2.1 tt tb) ∧ kpP fn fd (fr_n fn (skI (ht - 1 - 1)) A B) (fr_d fd (skI (ht - 1 - 1)) A B) := by
  have hq' := hq
  obtain ⟨e1, e2, h6, _⟩ := hq'
  have ei : skI (ht - 1 - 1) = 1 + (h - 2) := sk_i (by rw [e1, nI_m (y := 1) (j := 1) rfl (by omega), nI_m (y := 1) (j := 1) rfl (by omega)]; congr 1) (by omega)
  rw [ei, (fr_mk hs).1]
  refine ⟨?_, ?_, kp_fr (by omega) (by omega)⟩
  · unfold twM rsU
    by_cases q : mkOK A B = true
    · rw [if_pos q, if_pos q]
    · rw [if_neg q, if_neg q]
  · unfold twM
    by_cases q : mkOK A B = true
    · intro _
      rw [if_pos q, fr_n_ok hs q, fr_d_ok hs q, e2, nI_mc (y := 2) (j := 2) rfl h2 h6]
      have := RQ_put (i := h - 2) (h := 0) hq (by omega) (by omega) (mk_nb3 hs q) (mk_cn hs)
      rw [show ht - 1 = nI (h - 2 + 1) by rw [e1, nI_m (y := 1) (j := 1) rfl (by omega)]; congr 1; omega]
      show RQ (h - 1) _ _ _ (nI h - 2 + 1) _ _ _ _
      rw [nI_m (y := 2) (j := 2) rfl h2, nI_1, show h - 1 = h - 2 + 1 by omega]
      exact this
    · rw [if_neg q]; intro h; exact absurd h i3
/-- two numbers into one, where the class copies a number that stands reduced -/
theorem cp_st {A B : Int64} {h : Nat} {ht hi : Int32} {fn fd tp bt : Nat → Int64} {tt tb : Int64} (hq : RQ h ht fn fd hi tp bt tt tb) (h2 : 2 ≤ h) (hb : nbP A B) (hc : cnP A B) :
    (0 : Int32) = (twM A B hi tp bt).1 ∧ ((twM A B hi tp bt).1 = 0 → RQ (h - 1) (ht - 1) (vp_updL fn (skI (ht - 1 - 1)) A) (vp_updL fd (skI (ht - 1 - 1)) B) (twM A B hi tp bt).2.1 (twM A B hi tp bt).2.2.1 (twM A B hi tp bt).2.2.2.1 tt tb) ∧ kpP fn fd (vp_updL fn (skI (ht - 1 - 1)) A) (vp_updL fd (skI (ht - 1 - 1)) B) := by
  have hs := nb_self hb
  have hk := ok_nb hb hc
  have h1 := two_st hq h2 hs
  rw [fr_n_ok hs hk, fr_d_ok hs hk, (fr_mk hs).1, hk] at h1
  have e1 : mkT A B = A := hc.1
  have e2 : mkB A B = B := hc.2
  rw [e1, e2] at h1
  exact h1
theorem tw43 (a b x y : Int64) : twA 43 a b x y = a * y + x * b ∧ twB 43 a b x y = b * y := ⟨rfl, rfl⟩
theorem tw45 (a b x y : Int64) : twA 45 a b x y = a * y + -x * b ∧ twB 45 a b x y = b * y := ⟨rfl, rfl⟩
theorem tw42 (a b x y : Int64) : twA 42 a b x y = a * x ∧ twB 42 a b x y = b * y := ⟨rfl, rfl⟩
theorem tw47 (a b x y : Int64) : twA 47 a b x y = a * y ∧ twB 47 a b x y = b * x := ⟨rfl, rfl⟩
theorem tw60 (a b x y : Int64) : twA 60 a b x y = (if x * b < a * y then x else a) ∧ twB 60 a b x y = (if x * b < a * y then y else b) := ⟨rfl, rfl⟩
theorem tw62 (a b x y : Int64) : twA 62 a b x y = (if a * y < x * b then x else a) ∧ twB 62 a b x y = (if a * y < x * b then y else b) := ⟨rfl, rfl⟩
theorem op43 (i j : Nat) (h : Int32) (fn fd : Nat → Int64) : opS 43 i j h fn fd = (rsU (fr_ok (fn i * fd j + fn j * fd i) (fd i * fd j)), h, fr_n fn i (fn i * fd j + fn j * fd i) (fd i * fd j), fr_d fd i (fn i * fd j + fn j * fd i) (fd i * fd j)) := rfl
theorem op42 (i j : Nat) (h : Int32) (fn fd : Nat → Int64) : opS 42 i j h fn fd = (rsU (fr_ok (fn i * fn j) (fd i * fd j)), h, fr_n fn i (fn i * fn j) (fd i * fd j), fr_d fd i (fn i * fn j) (fd i * fd j)) := rfl
theorem op45 (i j : Nat) (h : Int32) (fn fd : Nat → Int64) : opS 45 i j h fn fd = (rsU (fr_ok (fn i * fd j - fn j * fd i) (fd i * fd j)), h, fr_n fn i (fn i * fd j - fn j * fd i) (fd i * fd j), fr_d fd i (fn i * fd j - fn j * fd i) (fd i * fd j)) := rfl
theorem op47 (i j : Nat) (h : Int32) (fn fd : Nat → Int64) : opS 47 i j h fn fd = (if fn j = 0 then (2, h, fn, fd) else (rsU (fr_ok (fn i * fd j) (fd i * fn j)), h, fr_n fn i (fn i * fd j) (fd i * fn j), fr_d fd i (fn i * fd j) (fd i * fn j))) := rfl
theorem op60 (i j : Nat) (h : Int32) (fn fd : Nat → Int64) : opS 60 i j h fn fd = (if frL (fn j) (fd j) (fn i) (fd i) = true then (0, h, vp_updL fn i (fn j), vp_updL fd i (fd j)) else (0, h, vp_updL fn i (fn i), vp_updL fd i (fd i))) := rfl
theorem op62 (i j : Nat) (h : Int32) (fn fd : Nat → Int64) : opS 62 i j h fn fd = (if frL (fn i) (fd i) (fn j) (fd j) = true then (0, h, vp_updL fn i (fn j), vp_updL fd i (fd j)) else (0, h, vp_updL fn i (fn i), vp_updL fd i (fd i))) := rfl
theorem op_st {c : Int32} {h : Nat} {ht hi : Int32} {fn fd tp bt : Nat → Int64} {tt tb top bot : Int64} (hc : isTw c = true) (hq : RQ h ht fn fd hi tp bt tt tb) (h2 : 2 ≤ h) :
    (opS c (skI (ht - 1 - 1)) (skI (ht - 1)) (ht - 1) fn fd).1 = (twS c hi tp bt top bot).1 ∧ ((twS c hi tp bt top bot).1 = 0 → RQ (h - 1) (opS c (skI (ht - 1 - 1)) (skI (ht - 1)) (ht - 1) fn fd).2.1 (opS c (skI (ht - 1 - 1)) (skI (ht - 1)) (ht - 1) fn fd).2.2.1 (opS c (skI (ht - 1 - 1)) (skI (ht - 1)) (ht - 1) fn fd).2.2.2 (twS c hi tp bt top bot).2.1 (twS c hi tp bt top bot).2.2.1 (twS c hi tp bt top bot).2.2.2.1 tt tb) ∧ kpP fn fd (opS c (skI (ht - 1 - 1)) (skI (ht - 1)) (ht - 1) fn fd).2.2.1 (opS c (skI (ht - 1 - 1)) (skI (ht - 1)) (ht - 1) fn fd).2.2.2 := by
  have hq' := hq
  obtain ⟨e1, e2, h6, hn, _⟩ := hq'
  have ei : skI (ht - 1 - 1) = 1 + (h - 2) := sk_i (by rw [e1, nI_m (y := 1) (j := 1) rfl (by omega), nI_m (y := 1) (j := 1) rfl (by omega)]; congr 1) (by omega)
  have ej : skI (ht - 1) = 1 + (h - 1) := sk_i (by rw [e1, nI_m (y := 1) (j := 1) rfl (by omega)]) (by omega)
  obtain ⟨a1, a2, a3, a4⟩ := hn (h - 2) (by omega)
  obtain ⟨b1, b2, b3, b4⟩ := hn (h - 1) (by omega)
  rw [← ei] at a1 a2
  rw [← ej] at b1 b2
  have c2 : (hi - 2).toNatClampNeg = h - 2 := by rw [e2]; exact nI_mc (y := 2) (j := 2) rfl h2 h6
  have c1 : (hi - 1).toNatClampNeg = h - 1 := by rw [e2]; exact nI_mc (y := 1) (j := 1) rfl (by omega) h6
  unfold twS
  rw [c1, c2, ← a1, ← a2, ← b1, ← b2]
  rw [← a1, ← a2] at a3 a4
  rw [← b1, ← b2] at b3 b4
  have k1 := fun (A B : Int64) => two_st (A := A) (B := B) hq h2
  have k2 := fun (A B : Int64) => cp_st (A := A) (B := B) hq h2
  clear ei ej hq
  generalize skI (ht - 1) = J at *
  generalize skI (ht - 1 - 1) = I at *
  simp only [isTw, Bool.or_eq_true, decide_eq_true_eq] at hc
  rcases hc with rfl | rfl | rfl | rfl | rfl | rfl
  · rw [if_neg (fun z => absurd z.1 (by decide)), op43, (tw43 _ _ _ _).1, (tw43 _ _ _ _).2]
    exact k1 _ _ (nb_add a3 b3)
  · rw [if_neg (fun z => absurd z.1 (by decide)), op45, (tw45 _ _ _ _).1, (tw45 _ _ _ _).2, l_sb]
    exact k1 _ _ (nb_sub a3 b3)
  · rw [if_neg (fun z => absurd z.1 (by decide)), op42, (tw42 _ _ _ _).1, (tw42 _ _ _ _).2]
    exact k1 _ _ (nb_mul a3 b3)
  · rw [op47, (tw47 _ _ _ _).1, (tw47 _ _ _ _).2]
    by_cases q : fn J = 0
    · rw [if_pos q, if_pos ⟨rfl, q⟩]
      exact ⟨rfl, fun h => absurd h i2, kp_rf fn fd⟩
    · rw [if_neg q, if_neg (fun z => q z.2)]
      exact k1 _ _ (nb_div a3 b3 q)
  · rw [if_neg (fun z => absurd z.1 (by decide)), op60, (tw60 _ _ _ _).1, (tw60 _ _ _ _).2]
    by_cases q : fn J * fd I < fn I * fd J
    · rw [if_pos (frl_lt.mpr q), if_pos q, if_pos q]
      exact k2 _ _ b3 b4
    · rw [if_neg (fun z => q (frl_lt.mp z)), if_neg q, if_neg q]
      exact k2 _ _ a3 a4
  · rw [if_neg (fun z => absurd z.1 (by decide)), op62, (tw62 _ _ _ _).1, (tw62 _ _ _ _).2]
    by_cases q : fn I * fd J < fn J * fd I
    · rw [if_pos (frl_lt.mpr q), if_pos q, if_pos q]
      exact k2 _ _ b3 b4
    · rw [if_neg (fun z => q (frl_lt.mp z)), if_neg q, if_neg q]
      exact k2 _ _ a3 a4
/-- rounding to the cent -/
theorem ro_st {h : Nat} {ht hi : Int32} {fn fd tp bt : Nat → Int64} {tt tb : Int64} (hq : RQ h ht fn fd hi tp bt tt tb) (h1 : 1 ≤ h) :
    (rnS (skI (ht - 1)) ht fn fd).1 = (rnM hi tp bt).1 ∧ ((rnM hi tp bt).1 = 0 → RQ h (rnS (skI (ht - 1)) ht fn fd).2.1 (rnS (skI (ht - 1)) ht fn fd).2.2.1 (rnS (skI (ht - 1)) ht fn fd).2.2.2 (rnM hi tp bt).2.1 (rnM hi tp bt).2.2.1 (rnM hi tp bt).2.2.2.1 tt tb) ∧ kpP fn fd (rnS (skI (ht - 1)) ht fn fd).2.2.1 (rnS (skI (ht - 1)) ht fn fd).2.2.2 := by
  have hq' := hq
  obtain ⟨e1, e2, h6, hn, _⟩ := hq'
  have ej : skI (ht - 1) = 1 + (h - 1) := sk_i (by rw [e1, nI_m (y := 1) (j := 1) rfl (by omega)]) (by omega)
  have c1 : (hi - 1).toNatClampNeg = h - 1 := by rw [e2]; exact nI_mc (y := 1) (j := 1) rfl (by omega) h6
  obtain ⟨b1, b2, b3, b4⟩ := hn (h - 1) (by omega)
  unfold rnS rnM rnN
  rw [ej, c1, b1, b2, hun_fl b3]
  have hs := (nb_fl b3).2
  generalize flM (200 * tp (h - 1) + bt (h - 1)) (2 * bt (h - 1)) = N at *
  generalize (100 : Int64) = B at *
  refine ⟨?_, ?_, kp_fr (by omega) (by omega)⟩
  · rw [(fr_mk hs).1]
    unfold rsU
    by_cases q : mkOK N B = true
    · rw [if_pos q, if_pos q]
    · rw [if_neg q, if_neg q]
  · by_cases q : mkOK N B = true
    · intro _
      rw [if_pos q, fr_n_ok hs q, fr_d_ok hs q]
      have := RQ_put (i := h - 1) (h := 0) hq (by omega) (by omega) (mk_nb3 hs q) (mk_cn hs)
      rw [show h - 1 + 1 = h by omega] at this
      show RQ h ht _ _ (hi - 1 + 1) _ _ _ _
      rw [Int32.sub_add_cancel, e1, e2]
      exact this
    · rw [if_neg q]; intro h; exact absurd h i3
/-- a body sign of the class does what the reference's does -/
theorem tw_cs {c : Int32} (h : isTw c = true) : -c < 0 ∧ isFL c = false ∧ ¬ c = 114 := by
  simp only [isTw, Bool.or_eq_true, decide_eq_true_eq] at h
  rcases h with rfl | rfl | rfl | rfl | rfl | rfl <;> decide
theorem ed_cs {c : Int32} (h : isEd c = true) : -c < 0 ∧ isTw c = false ∧ ¬ c = 114 := by
  simp only [isEd, Bool.or_eq_true, decide_eq_true_eq] at h
  rcases h with rfl | rfl | rfl <;> decide
theorem fa_neg {n : Nat} (h : n < 26) : -nI (97 + n) < 0 := by
  have e := nI_toInt (n := 97 + n) (by omega)
  rw [Int32.lt_iff_toInt_lt, Int32.toInt_neg, e, Int32.toInt_zero]
  rw [Int.bmod_eq_of_le (by omega) (by omega)]
  omega
theorem fa_ix {n : Nat} (h : n < 26) : nI (97 + n) - 97 = nI n := by rw [nI_m (y := 97) (j := 97) rfl (by omega)]; congr 1; omega
theorem fa_is {n : Nat} (h : n < 26) : isIx (nI n) 26 = true := by
  unfold isIx
  rw [decide_eq_false (nI_pos (by omega)), decide_eq_false (show ¬ (26 : Int32) ≤ nI n from nI_ge (b := 26) h (by decide))]
  rfl
theorem fa_g {f : Nat → Int32} {n : Nat} (h : n < 26) : ixG f 26 (nI (97 + n) - 97) = f n := by
  unfold ixG
  rw [fa_ix h, if_pos (fa_is h), nI_clamp (by omega)]
theorem fcT_i {fB : Nat → Int32} {n : Nat} (h : n < 26) : fcT fB (nI (97 + n)) = !decide (fB n ≤ 0) := by
  unfold fcT
  rw [fa_g h]
theorem fn_pos {x y : Int32} (h : fnOK x y = true) : ¬ y ≤ 0 := by
  have := (fn_ok h).2.1
  rw [Int32.toInt_toInt64] at this
  rw [Int32.le_iff_toInt_le, Int32.toInt_zero]; omega
theorem ap_st {fA fB : Nat → Int32} {ab be : Nat → Int64} {td : Nat → Int32} {z zc : Int32} {h : Nat} {ht hi : Int32} {fn fd tp bt : Nat → Int64} {tt tb top bot : Int64} (hf : FcR fA fB ab be td) (hs : sgB z zc) (hv : sgV z h) (hq : RQ h ht fn fd hi tp bt tt tb) :
    (apS fA fB zc ht fn fd).1 = (stM ab be td z hi tp bt tt tb top bot).1 ∧ ((stM ab be td z hi tp bt tt tb top bot).1 = 0 → RQ (hN z h) (apS fA fB zc ht fn fd).2.1 (apS fA fB zc ht fn fd).2.2.1 (apS fA fB zc ht fn fd).2.2.2 (stM ab be td z hi tp bt tt tb top bot).2.1 (stM ab be td z hi tp bt tt tb top bot).2.2.1 (stM ab be td z hi tp bt tt tb top bot).2.2.2.1 tt tb) ∧ kpP fn fd (apS fA fB zc ht fn fd).2.2.1 (apS fA fB zc ht fn fd).2.2.2 ∧ (stM ab be td z hi tp bt tt tb top bot).2.2.2.2.1 = tt ∧ (stM ab be td z hi tp bt tt tb top bot).2.2.2.2.2.1 = tb := by
  obtain ⟨v1, v2, v3, v4, v5⟩ := hv
  rcases hs with ⟨n, hn, hl, rfl, rfl⟩ | ⟨h1, h0, rfl⟩ | ⟨c, hc, rfl, rfl⟩
  · have z1 : ¬ nI (100097 + n) < 100000 := nI_nlt (b := 100000) (by omega) (by omega)
    have z0 : ¬ nI (100097 + n) < 0 := nI_pos (by omega)
    have zn : (nI (100097 + n) - 100000 - 97).toNatClampNeg = n := by
      rw [nI_m (y := 100000) (j := 100000) rfl (by omega), nI_m (y := 97) (j := 97) rfl (by omega), nI_clamp (by omega)]; omega
    obtain ⟨w1, w2⟩ := v1 z1
    unfold apS stM hN
    rw [if_pos (fa_neg hn), Int32.neg_neg, if_pos hl, if_neg z1, if_neg z0, zn, fcT_i hn, fa_g hn, fa_g hn]
    rcases hf n hn with ⟨t0, b0⟩ | ⟨t1, ok, ea, eb⟩
    · rw [if_pos t0, b0]
      exact ⟨rfl, fun h => absurd h i1, kp_rf fn fd, rfl, rfl⟩
    · rw [t1, decide_eq_false (fn_pos ok), ea, eb]
      have k := ly_st (a := fA n) (b := fB n) hq w2 (nb_self (fn_ok ok)) (mk_in (fn_ok ok))
      exact ⟨k.1, fun _ => k.2.1, k.2.2, rfl, rfl⟩
  · unfold apS stM hN
    rw [if_neg h0, if_pos h1, if_neg h0, if_neg h0]
    have hb := zi_nb h1 h0
    have k := ly_st (a := zc) (b := 1) hq (v2 h1 h0) (nb_self hb) (mk_in hb)
    have hc := cn1 h1 h0
    have e1 : mkT zc.toInt64 (1 : Int32).toInt64 = zc.toInt64 := hc.1
    have e2 : mkB zc.toInt64 (1 : Int32).toInt64 = 1 := hc.2
    rw [e1, e2] at k
    exact ⟨k.1, fun _ => k.2.1, k.2.2, rfl, rfl⟩
  · rcases hc with hc | rfl
    · obtain ⟨c1, c2, c3⟩ := tw_cs hc
      unfold apS stM hN
      rw [if_pos c1, Int32.neg_neg, c2, if_neg Bool.false_ne_true, if_neg c3, if_pos (Int32.lt_trans c1 (by decide)), if_pos c1, if_pos hc, if_pos c1, if_pos hc]
      have k := op_st (top := top) (bot := bot) hc hq (v3 c1 (by rw [Int32.neg_neg]; exact hc))
      exact ⟨k.1, k.2.1, k.2.2, rfl, rfl⟩
    · have k := ro_st hq (v4 (by decide) (by decide) (by decide))
      exact ⟨k.1, k.2.1, k.2.2, rfl, rfl⟩
/-! the end of a line: its amount joins the total -/
def elR (i : Nat) (n d : Nat → Int64) (R : ES) (M : E5) : Prop := R.1 = M.1 ∧ R.2.1 0 = M.2.1 ∧ R.2.2 0 = M.2.2.1 ∧ (M.1 = 0 → R.2.1 i = M.2.2.2.1 ∧ R.2.2 i = M.2.2.2.2) ∧ ∀ j, j ≠ 0 → j ≠ i → R.2.1 j = n j ∧ R.2.2 j = d j
theorem el_T {i : Nat} {n d : Nat → Int64} {tt tb T B : Int64} (hi : i ≠ 0) (h0 : n 0 = tt) (h1 : d 0 = tb) (h2 : n i = T) (h3 : d i = B) (ht : nbP tt tb) (hb : nbP T B) : elR i n d (elT i n d) (e2M tt tb (true, T, B)) := by
  unfold elT e2M
  rw [h0, h1, h2, h3, if_pos rfl]
  have hs := nb_add ht hb
  show elR i n d _ (if mkOK (tt * B + T * tb) (tb * B) = true then (0, mkT (tt * B + T * tb) (tb * B), mkB (tt * B + T * tb) (tb * B), T, B) else (3, tt, tb, mkT (tt * B + T * tb) (tb * B), mkB (tt * B + T * tb) (tb * B)))
  rw [(fr_mk hs).1]
  generalize tt * B + T * tb = S at *
  generalize tb * B = V at *
  by_cases q : mkOK S V = true
  · rw [if_pos q, if_pos q, fr_n_ok hs q, fr_d_ok hs q]
    exact ⟨rfl, show vp_updL n 0 (mkT S V) 0 = mkT S V from pk_uLs, show vp_updL d 0 (mkB S V) 0 = mkB S V from pk_uLs, fun _ => ⟨(pk_uLn hi).trans h2, (pk_uLn hi).trans h3⟩, fun j hj _ => ⟨pk_uLn hj, pk_uLn hj⟩⟩
  · rw [if_neg q, if_neg q, fr_n_no hs q, fr_d_no hs q]
    exact ⟨rfl, h0, h1, fun h => absurd h i3, fun j _ _ => ⟨rfl, rfl⟩⟩
theorem elR_up {i : Nat} {n d : Nat → Int64} {x y : Int64} {R : ES} {M : E5} (h : elR i (vp_updL n i x) (vp_updL d i y) R M) : elR i n d R M := by
  obtain ⟨a, b, c, e, f⟩ := h
  exact ⟨a, b, c, e, fun j h0 hi => ⟨((f j h0 hi).1).trans (pk_uLn hi), ((f j h0 hi).2).trans (pk_uLn hi)⟩⟩
theorem el_no {i : Nat} {n d : Nat → Int64} {tt tb x y : Int64} (h0 : n 0 = tt) (h1 : d 0 = tb) : elR i n d (rsU false, n, d) (e2M tt tb (false, x, y)) := ⟨rfl, h0, h1, fun h => absurd h i3, fun _ _ _ => ⟨rfl, rfl⟩⟩
/-- one more number set into i, then the rest -/
theorem el_M {i : Nat} {n d : Nat → Int64} {tt tb A B : Int64} (hi : i ≠ 0) (h0 : n 0 = tt) (h1 : d 0 = tb) (ht : nbP tt tb) (hs : nMin A ∧ nMin B ∧ ¬ B = 0) : elR i n d (if fr_ok A B = true then elT i (fr_n n i A B) (fr_d d i A B) else (rsU false, fr_n n i A B, fr_d d i A B)) (e2M tt tb (mkOK A B, mkT A B, mkB A B)) := by
  rw [(fr_mk hs).1]
  by_cases q : mkOK A B = true
  · rw [if_pos q, q, fr_n_ok hs q, fr_d_ok hs q]
    exact elR_up (el_T hi ((pk_uLn (Ne.symm hi)).trans h0) ((pk_uLn (Ne.symm hi)).trans h1) pk_uLs pk_uLs ht (mk_nb3 hs q))
  · rw [if_neg q, show mkOK A B = false from by cases hb : mkOK A B <;> simp_all, fr_n_no hs q, fr_d_no hs q]
    exact el_no h0 h1
theorem el_st {c : Int32} {i : Nat} {ht hi : Int32} {fn fd tp bt : Nat → Int64} {tt tb : Int64} (hc : isEd c = true) (hi7 : 7 ≤ i) (hq : RQ 1 ht fn fd hi tp bt tt tb) : elR i fn fd (elS c i fn fd) (enM c (tp 0) (bt 0) tt tb) := by
  obtain ⟨_, _, _, hn, h0, h1, hT⟩ := hq
  obtain ⟨a1, a2, a3, a4⟩ := hn 0 (by omega)
  have hi : i ≠ 0 := by omega
  unfold elS
  rw [show skI 0 = 1 + 0 from rfl, a1, a2]
  refine elR_up (x := tp 0) (y := bt 0) ?_
  have g0 : vp_updL fn i (tp 0) 0 = tt := (pk_uLn (Ne.symm hi)).trans h0
  have g1 : vp_updL fd i (bt 0) 0 = tb := (pk_uLn (Ne.symm hi)).trans h1
  have g2 : vp_updL fn i (tp 0) i = tp 0 := pk_uLs
  have g3 : vp_updL fd i (bt 0) i = bt 0 := pk_uLs
  generalize vp_updL fn i (tp 0) = n at *
  generalize vp_updL fd i (bt 0) = d at *
  generalize tp 0 = a at *
  generalize bt 0 = b at *
  unfold elC enM e1M
  simp only [isEd, Bool.or_eq_true, decide_eq_true_eq] at hc
  rcases hc with rfl | rfl | rfl
  · rw [if_neg (by decide), if_neg (by decide), if_neg (by decide), if_neg (by decide), ok_nb a3 a4, a4.1, a4.2]
    exact el_T hi g0 g1 g2 g3 hT a3
  · rw [if_pos rfl, if_pos rfl]
    unfold elP e1P
    rw [g2, g3, Int64.mul_comm b 100]
    have hs := nb_hun a3
    rw [(fr_mk hs).1]
    generalize 100 * b = b' at *
    by_cases q : mkOK a b' = true
    · rw [if_pos q, if_pos q, fr_n_ok hs q, fr_d_ok hs q]
      refine elR_up (x := mkT a b') (y := mkB a b') ?_
      unfold elM
      rw [pk_uLs, pk_uLs, pk_uLn (Ne.symm hi), pk_uLn (Ne.symm hi), g0, g1]
      exact el_M hi ((pk_uLn (Ne.symm hi)).trans g0) ((pk_uLn (Ne.symm hi)).trans g1) hT (nb_mul (mk_nb3 hs q) hT)
    · rw [if_neg q, if_neg q, fr_n_no hs q, fr_d_no hs q]
      exact el_no g0 g1
  · rw [if_neg (by decide), if_pos rfl, if_neg (by decide), if_pos rfl]
    unfold elE
    rw [g0, g1, g2, g3, l_sb]
    exact el_M hi g0 g1 hT (nb_sub a3 hT)
/-! one line, sign by sign -/
theorem ixG_n {f : Nat → Int32} {n : Nat} {N : Int32} {M : Nat} (hN : N = nI M) (h : n < M) (hM : M < 2 ^ 31) : ixG f N (nI n) = f n := by
  unfold ixG isIx
  rw [hN, decide_eq_false (nI_pos (by omega)), decide_eq_false (nI_ge h hM), nI_clamp (by omega)]
  rfl
theorem rsn_le {r : Int32} (h : rsn r) : (r ≤ 0) ↔ r = 0 := by
  rcases h with rfl | rfl | rfl | rfl <;> decide
theorem st_rs {ab be : Nat → Int64} {td : Nat → Int32} {z hi : Int32} {tp bt : Nat → Int64} {tt tb top bot : Int64} : rsn (stM ab be td z hi tp bt tt tb top bot).1 := by
  have p0 : rsn 0 := Or.inl rfl
  have p1 : rsn 1 := Or.inr (Or.inl rfl)
  have p2 : rsn 2 := Or.inr (Or.inr (Or.inl rfl))
  have p3 : rsn 3 := Or.inr (Or.inr (Or.inr rfl))
  unfold stM
  split
  · split
    · split
      · unfold twS twM
        split
        · exact p2
        · split
          · exact p0
          · exact p3
      · split
        · unfold rnM
          split
          · exact p0
          · exact p3
        · unfold enM e2M
          split
          · split
            · exact p0
            · exact p3
          · exact p3
    · exact p0
  · split
    · exact p1
    · exact p0
theorem rl_end {sg fA fB : Nat → Int32} {sh E b : Nat} {f : Nat} {r q ht : Int32} {fn fd : Nat → Int64} (hE : E < 1000) : rlL sg fA fB sh (nI b) (nI E) f (nI (E + 1)) r q ht fn fd = (r, q, ht, fn, fd) := by
  cases f with
  | zero => rfl
  | succ f => rw [rlL, if_pos (nI_lt (by omega) (by omega))]
theorem rl_ret {sg fA fB : Nat → Int32} {sh : Nat} {fs en : Int32} {f : Nat} {s r q ht : Int32} {fn fd : Nat → Int64} (hr : ¬ r = 0) : rlL sg fA fB sh fs en f s r q ht fn fd = (r, q, ht, fn, fd) := by
  cases f with
  | zero => rfl
  | succ f =>
    rw [rlL]
    rw [if_neg hr]
    split <;> rfl
theorem mi_end {sg : Nat → Int32} {ab be : Nat → Int64} {td : Nat → Int32} {b E n : Nat} {r q hi : Int32} {tp bt : Nat → Int64} {tt tb top bot : Int64} (hE : E < 1000) : miL sg ab be td (nI b) (nI (E + 1)) n (nI (E + 1)) r q hi tp bt tt tb top bot = (r, q, hi, tp, bt, tt, tb, top, bot) := by
  cases n with
  | zero => rfl
  | succ n => rw [miL, if_pos (nI_le (Nat.le_refl _) (by omega))]
theorem mi_ret {sg : Nat → Int32} {ab be : Nat → Int64} {td : Nat → Int32} {b e k r q hi : Int32} {n : Nat} {tp bt : Nat → Int64} {tt tb top bot : Int64} (hr : ¬ r = 0) : miL sg ab be td b e n k r q hi tp bt tt tb top bot = (r, q, hi, tp, bt, tt, tb, top, bot) := by
  cases n with
  | zero => rfl
  | succ n =>
    rw [miL]
    rw [if_neg hr]
    split <;> rfl
def lnR (sh : Nat) (fn fd : Nat → Int64) (C : LnS) (M : M9) : Prop := C.1 = M.1 ∧ rsn M.1 ∧ (¬ M.1 = 0 → C.2.1 = M.2.1) ∧ (M.1 = 0 → M.2.1 = -1) ∧ C.2.2.2.1 0 = M.2.2.2.2.2.1 ∧ C.2.2.2.2 0 = M.2.2.2.2.2.2.1 ∧ nbP M.2.2.2.2.2.1 M.2.2.2.2.2.2.1 ∧ (M.1 = 0 → C.2.2.2.1 sh = M.2.2.2.2.2.2.2.1 ∧ C.2.2.2.2 sh = M.2.2.2.2.2.2.2.2) ∧ ∀ j, 7 ≤ j → j ≠ sh → C.2.2.2.1 j = fn j ∧ C.2.2.2.2 j = fd j
theorem ln_st {sgc sgm fA fB : Nat → Int32} {ab be : Nat → Int64} {td : Nat → Int32} {sh b E : Nat} (hf : FcR fA fB ab be td) (h7 : 7 ≤ sh) (hE : E < 240) (hEs : sgE (sgm E) (sgc E)) : ∀ (d s h f n : Nat) (q qm ht hi : Int32) (fn fd tp bt : Nat → Int64) (tt tb top bot : Int64), s + d = E → d + 1 ≤ f → d + 1 ≤ n → RQ h ht fn fd hi tp bt tt tb → (∀ k, s ≤ k → k < E → sgB (sgm k) (sgc k)) → lnV sgm (d + 1) s h →
    lnR sh fn fd (rlL sgc fA fB sh (nI b) (nI E) f (nI s) 0 q ht fn fd) (miL sgm ab be td (nI b) (nI (E + 1)) n (nI s) 0 qm hi tp bt tt tb top bot) := by
  intro d
  induction d with
  | zero =>
    intro s h f n q qm ht hi fn fd tp bt tt tb top bot hs hf1 hn1 hq _ hv
    obtain rfl : s = E := by omega
    obtain ⟨f, rfl⟩ : ∃ f', f = f' + 1 := ⟨f - 1, by omega⟩
    obtain ⟨n, rfl⟩ : ∃ n', n = n' + 1 := ⟨n - 1, by omega⟩
    rw [rlL, if_neg (nI_nlt (Nat.le_refl _) (by omega)), if_pos rfl, if_pos (nI_le (Nat.le_refl _) (by omega)), ixG_n (N := 240) (M := 240) rfl hE (by decide), nI_1, rl_end (by omega)]
    rw [miL, if_neg (nI_ge (by omega) (by omega)), if_pos rfl, nI_clamp (by omega), nI_1, mi_end (by omega)]
    obtain ⟨c, hc, e1, e2⟩ := hEs
    obtain ⟨c1, c2, c3⟩ := ed_cs hc
    have hv1 := hv.1
    rw [e1] at hv1
    have h1 : h = 1 := hv1.2.2.2.2 c1 (by rw [Int32.neg_neg]; exact c2) (by rw [Int32.neg_neg]; exact c3)
    subst h1
    have k := el_st hc h7 hq
    have hb : nbP (tp 0) (bt 0) := (hq.2.2.2.1 0 (by omega)).2.2.1
    have hT := hq.2.2.2.2.2.2
    have rs := st_rs (ab := ab) (be := be) (td := td) (z := -c) (hi := hi) (tp := tp) (bt := bt) (tt := tt) (tb := tb) (top := top) (bot := bot)
    rw [e1, e2, Int32.neg_neg]
    have eM : stM ab be td (-c) hi tp bt tt tb top bot = m8E (enM c (tp 0) (bt 0) tt tb) hi tp bt := by
      unfold stM
      rw [if_pos (Int32.lt_trans c1 (by decide)), if_pos c1, Int32.neg_neg, c2, if_neg Bool.false_ne_true, if_neg c3]
      rfl
    rw [eM] at rs ⊢
    have hN := en_nb (c := c) hb hT
    unfold m8E at rs ⊢
    generalize enM c (tp 0) (bt 0) tt tb = M at *
    obtain ⟨k1, k2, k3, k4, k5⟩ := k
    refine ⟨k1, rs, fun hz => ?_, fun hz => ?_, k2, k3, hN, k4, fun j h7 hj => k5 j (by omega) hj⟩
    · show nI s - nI b = if M.1 ≤ 0 then -1 else nI s - nI b
      rw [if_neg (fun z => hz ((rsn_le rs).mp z))]
    · show (if M.1 ≤ 0 then -1 else nI s - nI b) = -1
      rw [if_pos ((rsn_le rs).mpr hz)]
  | succ d ih =>
    intro s h f n q qm ht hi fn fd tp bt tt tb top bot hs hf1 hn1 hq hB hv
    obtain ⟨f, rfl⟩ : ∃ f', f = f' + 1 := ⟨f - 1, by omega⟩
    obtain ⟨n, rfl⟩ : ∃ n', n = n' + 1 := ⟨n - 1, by omega⟩
    rw [rlL, if_neg (nI_nlt (by omega) (by omega)), if_pos rfl, if_neg (nI_ge (by omega) (by omega)), ixG_n (N := 240) (M := 240) rfl (by omega) (by decide), nI_1]
    rw [miL, if_neg (nI_ge (by omega) (by omega)), if_pos rfl, nI_clamp (by omega), nI_1]
    have k := ap_st (top := top) (bot := bot) hf (hB s (Nat.le_refl _) (by omega)) hv.1 hq
    have rs := st_rs (ab := ab) (be := be) (td := td) (z := sgm s) (hi := hi) (tp := tp) (bt := bt) (tt := tt) (tb := tb) (top := top) (bot := bot)
    have hv2 := hv.2
    have hT := hq.2.2.2.2.2.2
    have h00 := hq.2.2.2.2.1
    have h01 := hq.2.2.2.2.2.1
    generalize stM ab be td (sgm s) hi tp bt tt tb top bot = M at *
    generalize apS fA fB (sgc s) ht fn fd = A at *
    obtain ⟨M1, M2, M3, M4, M5, M6, M7, M8⟩ := M
    obtain ⟨A1, A2, A3, A4⟩ := A
    obtain ⟨k1, k2, k3, k4, k5⟩ := k
    simp only at k1 k2 k3 k4 k5 rs ⊢
    subst k1 k4 k5
    by_cases q0 : A1 = 0
    · subst q0
      have r := ih (s + 1) (hN (sgm s) h) f n (nI s - nI b) (if (0 : Int32) ≤ 0 then -1 else nI s - nI b) A2 M2 A3 A4 M3 M4 M5 M6 M7 M8 (by omega) (by omega) (by omega) (k2 rfl) (fun k h1 h2 => hB k (by omega) h2) hv2
      obtain ⟨r1, r2, r3, r4, r5, r6, r7, r8, r9⟩ := r
      exact ⟨r1, r2, r3, r4, r5, r6, r7, r8, fun j h7 hj => ⟨(r9 j h7 hj).1.trans (k3 j (Or.inr h7)).1, (r9 j h7 hj).2.trans (k3 j (Or.inr h7)).2⟩⟩
    · rw [rl_ret q0, mi_ret q0]
      refine ⟨rfl, rs, fun _ => ?_, fun h => absurd h q0, ((k3 0 (Or.inl rfl)).1).trans h00, ((k3 0 (Or.inl rfl)).2).trans h01, hT, fun h => absurd h q0, fun j h7 hj => k3 j (Or.inr h7)⟩
      show nI s - nI b = if A1 ≤ 0 then -1 else nI s - nI b
      rw [if_neg (fun z => q0 ((rsn_le rs).mp z))]
