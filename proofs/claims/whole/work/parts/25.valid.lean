/-! lines that a reading has let through: their steps stay on the stack and within the limit -/
def sgV (z : Int32) (h : Nat) : Prop := (¬ z < 100000 → vp_in (z - 100000 - 97) 26 ∧ h < 6) ∧ (z < 100000 → ¬ z < 0 → h < 6) ∧ (z < 0 → isTw (-z) = true → 2 ≤ h) ∧ (z < 0 → isTw (-z) = false → (-z) = 114 → 1 ≤ h) ∧ (z < 0 → isTw (-z) = false → ¬ (-z) = 114 → h = 1)
def hN (z : Int32) (h : Nat) : Nat := if z < 0 then (if isTw (-z) = true then h - 1 else h) else h + 1
def lnV (sg : Nat → Int32) : Nat → Nat → Nat → Prop
  | 0, _, _ => True
  | n + 1, k, h => sgV (sg k) h ∧ lnV sg n (k + 1) (hN (sg k) h)
def stI (h : Nat) (hi : Int32) (tp bt : Nat → Int64) (tt tb : Int64) : Prop := hi = nI h ∧ h ≤ 6 ∧ (∀ j, j < h → nbP (tp j) (bt j)) ∧ nbP tt tb
def fcOK (ab be : Nat → Int64) (td : Nat → Int32) : Prop := ∀ j, j < 26 → ¬ td j = 0 → nbP (ab j) (be j)
theorem nI_m {h j : Nat} {y : Int32} (hy : y = nI j) (hj : j ≤ h) : nI h - y = nI (h - j) := by rw [hy]; exact pk_sub hj
theorem nI_mc {h j : Nat} {y : Int32} (hy : y = nI j) (hj : j ≤ h) (h6 : h ≤ 6) : (nI h - y).toNatClampNeg = h - j := by rw [nI_m hy hj]; exact nI_clamp (by omega)
theorem c0 : (0 : Int32).toNatClampNeg = 0 := rfl
theorem sp_of {z : Int32} {h : Nat} {hi : Int32} {tp bt : Nat → Int64} {tt tb : Int64} (hs : stI h hi tp bt tt tb) (hv : sgV z h) : spOK z hi tp bt tt tb := by
  obtain ⟨rfl, h6, hn, ht⟩ := hs
  obtain ⟨v1, v2, v3, v4, v5⟩ := hv
  have e0 : (nI h).toInt = h := nI_toInt (by omega)
  refine ⟨by omega, by omega, ht, fun q => (v1 q).1, fun q w => ?_, fun q w r => ?_, fun q w r => ?_⟩
  · have h2 := v3 q w
    rw [nI_mc (y := 2) (j := 2) rfl h2 h6, nI_mc (y := 1) (j := 1) rfl (by omega) h6]
    exact ⟨by omega, hn _ (by omega), hn _ (by omega)⟩
  · have h1 := v4 q w r
    rw [nI_mc (y := 1) (j := 1) rfl h1 h6]
    exact ⟨by omega, hn _ (by omega)⟩
  · have h1 := v5 q w r
    rw [c0]
    exact hn _ (by omega)
theorem upL {f : Nat → Int64} {k j : Nat} {x : Int64} : vp_updL f k x j = if j = k then x else f j := rfl
theorem nb_put {h k : Nat} {tp bt : Nat → Int64} {x y : Int64} (hn : ∀ j, j < h → nbP (tp j) (bt j)) (hk : k ≤ h) (hx : nbP x y) : ∀ j, j < k + 1 → nbP (vp_updL tp k x j) (vp_updL bt k y j) := by
  intro j hj
  rw [upL, upL]
  by_cases q : j = k
  · rw [if_pos q, if_pos q]; exact hx
  · rw [if_neg q, if_neg q]; exact hn j (by omega)
theorem tw_nb {c : Int32} {a b x y : Int64} (h1 : nbP a b) (h2 : nbP x y) (hx : ¬ (c = 47 ∧ x = 0)) : nMin (twA c a b x y) ∧ nMin (twB c a b x y) ∧ ¬ twB c a b x y = 0 := by
  unfold twA twB
  by_cases q1 : c = 43
  · simp only [if_pos q1]; exact nb_add h1 h2
  · simp only [if_neg q1]
    by_cases q2 : c = 45
    · simp only [if_pos q2]; exact nb_sub h1 h2
    · simp only [if_neg q2]
      by_cases q3 : c = 42
      · simp only [if_pos q3]; exact nb_mul h1 h2
      · simp only [if_neg q3]
        by_cases q4 : c = 47
        · simp only [if_pos q4]; exact nb_div h1 h2 (fun z => hx ⟨q4, z⟩)
        · simp only [if_neg q4]
          by_cases q5 : c = 60
          · simp only [if_pos q5]
            by_cases q6 : x * b < a * y
            · simp only [if_pos q6]; exact nb_self h2
            · simp only [if_neg q6]; exact nb_self h1
          · simp only [if_neg q5]
            by_cases q6 : a * y < x * b
            · simp only [if_pos q6]; exact nb_self h2
            · simp only [if_neg q6]; exact nb_self h1
theorem i3 : ¬ (3 : Int32) = 0 := by decide
theorem i2 : ¬ (2 : Int32) = 0 := by decide
theorem i1 : ¬ (1 : Int32) = 0 := by decide
/-- two() that went well: one number less, all within the limit -/
theorem tw_st {c : Int32} {h : Nat} {tp bt : Nat → Int64} {top bot tt tb : Int64} (h2 : 2 ≤ h) (h6 : h ≤ 6) (hn : ∀ j, j < h → nbP (tp j) (bt j)) (ht : nbP tt tb) (hr : (twS c (nI h) tp bt top bot).1 = 0) : stI (h - 1) (twS c (nI h) tp bt top bot).2.1 (twS c (nI h) tp bt top bot).2.2.1 (twS c (nI h) tp bt top bot).2.2.2.1 tt tb := by
  unfold twS at hr ⊢
  rw [nI_mc (y := 2) (j := 2) rfl h2 h6, nI_mc (y := 1) (j := 1) rfl (by omega) h6] at hr ⊢
  by_cases q : c = 47 ∧ tp (h - 1) = 0
  · rw [if_pos q] at hr; exact absurd hr i2
  · rw [if_neg q] at hr ⊢
    have hb := tw_nb (c := c) (hn (h - 2) (by omega)) (hn (h - 1) (by omega)) q
    unfold twM at hr ⊢
    split at hr
    · rename_i hk
      rw [if_pos hk, nI_mc (y := 2) (j := 2) rfl h2 h6]
      refine ⟨?_, by omega, ?_, ht⟩
      · show nI h - 2 + 1 = nI (h - 1)
        rw [nI_m (y := 2) (j := 2) rfl h2, nI_1]
        congr 1; omega
      · have := nb_put (k := h - 2) hn (by omega) (mk_nb3 hb hk)
        rw [show h - 2 + 1 = h - 1 by omega] at this
        exact this
    · exact absurd hr i3
theorem rn_st {h : Nat} {tp bt : Nat → Int64} {tt tb : Int64} (h1 : 1 ≤ h) (h6 : h ≤ 6) (hn : ∀ j, j < h → nbP (tp j) (bt j)) (ht : nbP tt tb) (hr : (rnM (nI h) tp bt).1 = 0) : stI h (rnM (nI h) tp bt).2.1 (rnM (nI h) tp bt).2.2.1 (rnM (nI h) tp bt).2.2.2.1 tt tb := by
  unfold rnM at hr ⊢
  rw [nI_mc (y := 1) (j := 1) rfl h1 h6] at hr ⊢
  split at hr
  · rename_i hk
    rw [if_pos hk]
    refine ⟨?_, h6, ?_, ht⟩
    · show nI h - 1 + 1 = nI h
      rw [nI_m (y := 1) (j := 1) rfl h1, nI_1]
      congr 1; omega
    · have := nb_put (k := h - 1) hn (by omega) (mk_nb3 (nb_fl (hn (h - 1) (by omega))).2 hk)
      rw [show h - 1 + 1 = h by omega] at this
      exact this
  · exact absurd hr i3
theorem e1_nb {c : Int32} {a b tt tb : Int64} (h0 : nbP a b) (ht : nbP tt tb) (hk : (e1M c a b tt tb).1 = true) : nbP (e1M c a b tt tb).2.1 (e1M c a b tt tb).2.2 := by
  unfold e1M e1P at hk ⊢
  by_cases q1 : c = 37
  · simp only [if_pos q1] at hk ⊢
    by_cases q2 : mkOK a (100 * b) = true
    · simp only [if_pos q2] at hk ⊢
      exact mk_nb3 (nb_mul (mk_nb3 (nb_hun h0) q2) ht) hk
    · simp only [if_neg q2] at hk
      exact Bool.noConfusion hk
  · simp only [if_neg q1] at hk ⊢
    by_cases q2 : c = 61
    · simp only [if_pos q2] at hk ⊢
      exact mk_nb3 (nb_sub h0 ht) hk
    · simp only [if_neg q2] at hk ⊢
      exact mk_nb3 (nb_self h0) hk
theorem en_nb {c : Int32} {a b tt tb : Int64} (h0 : nbP a b) (ht : nbP tt tb) : nbP (enM c a b tt tb).2.1 (enM c a b tt tb).2.2.1 := by
  unfold enM e2M
  by_cases q : (e1M c a b tt tb).1 = true
  · simp only [if_pos q]
    split
    · rename_i hk
      exact mk_nb3 (nb_add ht (e1_nb h0 ht q)) hk
    · exact ht
  · simp only [if_neg q]
    exact ht
theorem zi_nb {z : Int32} (h : z < 100000) (h0 : ¬ z < 0) : nbP z.toInt64 1 := by
  have a := Int32.lt_iff_toInt_lt.mp h
  have b : ¬ z.toInt < (0 : Int32).toInt := fun q => h0 (Int32.lt_iff_toInt_lt.mpr q)
  rw [show (100000 : Int32).toInt = 100000 from rfl] at a
  rw [show (0 : Int32).toInt = 0 from rfl] at b
  refine ⟨?_, by decide, by decide⟩
  rw [Int32.toInt_toInt64]
  omega
/-- a step that went well -/
theorem st_ok {ab be : Nat → Int64} {td : Nat → Int32} {z : Int32} {h : Nat} {hi : Int32} {tp bt : Nat → Int64} {tt tb top bot : Int64} (hf : fcOK ab be td) (hs : stI h hi tp bt tt tb) (hv : sgV z h) (hr : (stM ab be td z hi tp bt tt tb top bot).1 = 0) : stI (hN z h) (stM ab be td z hi tp bt tt tb top bot).2.1 (stM ab be td z hi tp bt tt tb top bot).2.2.1 (stM ab be td z hi tp bt tt tb top bot).2.2.2.1 (stM ab be td z hi tp bt tt tb top bot).2.2.2.2.1 (stM ab be td z hi tp bt tt tb top bot).2.2.2.2.2.1 := by
  obtain ⟨rfl, h6, hn, ht⟩ := hs
  obtain ⟨v1, v2, v3, v4, v5⟩ := hv
  have ec : (nI h).toNatClampNeg = h := nI_clamp (by omega)
  unfold stM hN at *
  by_cases q1 : z < 100000
  · simp only [if_pos q1] at hr ⊢
    by_cases q2 : z < 0
    · simp only [if_pos q2] at hr ⊢
      by_cases q3 : isTw (-z) = true
      · simp only [if_pos q3] at hr ⊢
        exact tw_st (v3 q2 q3) h6 hn ht hr
      · have q3' : isTw (-z) = false := by cases hb : isTw (-z) <;> simp_all
        simp only [if_neg q3] at hr ⊢
        by_cases q4 : -z = 114
        · simp only [if_pos q4] at hr ⊢
          exact rn_st (v4 q2 q3' q4) h6 hn ht hr
        · simp only [if_neg q4] at hr ⊢
          have h1 := v5 q2 q3' q4
          exact ⟨rfl, h6, hn, en_nb (hn _ (by rw [c0]; omega)) ht⟩
    · simp only [if_neg q2] at hr ⊢
      have h5 := v2 q1 q2
      rw [ec]
      exact ⟨nI_1 h, by omega, nb_put hn (Nat.le_refl _) (zi_nb q1 q2), ht⟩
  · have q2 : ¬ z < 0 := fun q => q1 (Int32.lt_trans q (by decide))
    simp only [if_neg q1, if_neg q2] at hr ⊢
    obtain ⟨w1, w2⟩ := v1 q1
    split at hr
    · exact absurd hr i1
    · rename_i q5
      rw [if_neg q5, ec]
      exact ⟨nI_1 h, by omega, nb_put hn (Nat.le_refl _) (hf _ (vp_lt w1) q5), ht⟩
/-- the TOTAL stays within the limit, whatever the step -/
theorem st_tot {ab be : Nat → Int64} {td : Nat → Int32} {z : Int32} {h : Nat} {hi : Int32} {tp bt : Nat → Int64} {tt tb top bot : Int64} (hs : stI h hi tp bt tt tb) (hv : sgV z h) : nbP (stM ab be td z hi tp bt tt tb top bot).2.2.2.2.1 (stM ab be td z hi tp bt tt tb top bot).2.2.2.2.2.1 := by
  obtain ⟨rfl, h6, hn, ht⟩ := hs
  obtain ⟨v1, v2, v3, v4, v5⟩ := hv
  unfold stM
  by_cases q1 : z < 100000
  · simp only [if_pos q1]
    by_cases q2 : z < 0
    · simp only [if_pos q2]
      by_cases q3 : isTw (-z) = true
      · simp only [if_pos q3]; exact ht
      · have q3' : isTw (-z) = false := by cases hb : isTw (-z) <;> simp_all
        simp only [if_neg q3]
        by_cases q4 : -z = 114
        · simp only [if_pos q4]; exact ht
        · simp only [if_neg q4]
          have h1 := v5 q2 q3' q4
          exact en_nb (hn _ (by rw [c0]; omega)) ht
    · simp only [if_neg q2]; exact ht
  · simp only [if_neg q1]
    split <;> exact ht
