/-! reading: the class goes character by character, the reference sign by sign -/
def prV (sg : Nat → Int32) : Nat → Nat → Nat → Nat → Prop
  | 0, _, h0, h => h0 = h
  | n + 1, k, h0, h => sgV (sg k) h0 ∧ prV sg n (k + 1) (hN (sg k) h0) h
theorem pr_ln {sg : Nat → Int32} : ∀ {n k h0 h : Nat}, prV sg n k h0 h → lnV sg n k h0 := by
  intro n
  induction n with
  | zero => intro k h0 h _; exact trivial
  | succ n ih => intro k h0 h hp; exact ⟨hp.1, ih hp.2⟩
theorem pr_app {sg : Nat → Int32} : ∀ {n k h0 h : Nat}, prV sg n k h0 h → sgV (sg (k + n)) h → prV sg (n + 1) k h0 (hN (sg (k + n)) h) := by
  intro n
  induction n with
  | zero => intro k h0 h hp hv; cases hp; exact ⟨hv, rfl⟩
  | succ n ih =>
    intro k h0 h hp hv
    have e : k + (n + 1) = k + 1 + n := by omega
    rw [e] at hv ⊢
    exact ⟨hp.1, ih hp.2 hv⟩
theorem pr_ext {sg sg' : Nat → Int32} : ∀ {n k h0 h : Nat}, (∀ s, k ≤ s → s < k + n → sg' s = sg s) → prV sg n k h0 h → prV sg' n k h0 h := by
  intro n
  induction n with
  | zero => intro k h0 h _ hp; exact hp
  | succ n ih =>
    intro k h0 h he hp
    refine ⟨?_, ?_⟩
    · rw [he k (Nat.le_refl _) (by omega)]; exact hp.1
    · rw [he k (Nat.le_refl _) (by omega)]; exact ih (fun s h1 h2 => he s (by omega) (by omega)) hp.2
theorem lv_ext {sg sg' : Nat → Int32} : ∀ {n k h0 : Nat}, (∀ s, k ≤ s → s < k + n → sg' s = sg s) → lnV sg n k h0 → lnV sg' n k h0 := by
  intro n
  induction n with
  | zero => intro k h0 _ hp; exact trivial
  | succ n ih =>
    intro k h0 he hp
    refine ⟨?_, ?_⟩
    · rw [he k (Nat.le_refl _) (by omega)]; exact hp.1
    · rw [he k (Nat.le_refl _) (by omega)]; exact ih (fun s h1 h2 => he s (by omega) (by omega)) hp.2
theorem sh_mono {sgc en sgm bg : Nat → Int32} {LL : Nat} {B : Nat → Nat} (h : ShR sgc en sgm bg LL B) : ∀ d j, j + d = LL → B j ≤ B LL := by
  intro d
  induction d with
  | zero => intro j hj; rw [show j = LL by omega]; exact Nat.le_refl _
  | succ d ih =>
    intro j hj
    have := ih (j + 1) (by omega)
    have := (h.2.2.2 j (by omega)).2.2.1
    omega
theorem sh_ext {sgc en sgm bg sgc' en' sgm' bg' : Nat → Int32} {LL : Nat} {B : Nat → Nat} (h : ShR sgc en sgm bg LL B) (h1 : ∀ s, s < B LL → sgc' s = sgc s ∧ sgm' s = sgm s) (h2 : ∀ j, j < LL → en' j = en j) (h3 : ∀ j, j ≤ LL → bg' j = bg j) : ShR sgc' en' sgm' bg' LL B := by
  have hm := sh_mono h
  obtain ⟨a, b, c, d⟩ := h
  refine ⟨a, b, (h3 0 (by omega)).trans c, fun j hj => ?_⟩
  obtain ⟨d1, d2, d3, d4, d5, d6, d7⟩ := d j hj
  have m := hm (LL - (j + 1)) (j + 1) (by omega)
  refine ⟨(h2 j hj).trans d1, (h3 (j + 1) (by omega)).trans d2, d3, d4, fun s s1 s2 => ?_, ?_, ?_⟩
  · rw [(h1 s (by omega)).1, (h1 s (by omega)).2]; exact d5 s s1 s2
  · rw [(h1 _ (by omega)).1, (h1 _ (by omega)).2]; exact d6
  · exact lv_ext (fun s s1 s2 => (h1 s (by omega)).2) d7
def rdI (n ln h : Nat) (B : Nat → Nat) (sg en dr dB : Nat → Int32) : Prop := ShR sg en dr dB ln B ∧ B ln ≤ n ∧ (∀ s, B ln ≤ s → s < n → sgB (dr s) (sg s)) ∧ prV dr (n - B ln) (B ln) 0 h ∧ h ≤ 6 ∧ ((n = B ln ∧ h = 0) ∨ (B ln < n ∧ 1 ≤ h)) ∧ (ln = 16 → h = 0)
theorem rd_body {n ln h h' : Nat} {B : Nat → Nat} {sg en dr dB : Nat → Int32} {x y : Int32} (hI : rdI n ln h B sg en dr dB) (hs : sgB y x) (hv : sgV y h) (hh : hN y h = h') (h1 : 1 ≤ h') (h6 : h' ≤ 6) (hl : ln < 16) : rdI (n + 1) ln h' B (upd sg n x) en (upd dr n y) dB := by
  obtain ⟨a, b, c, d, e, f, g⟩ := hI
  refine ⟨sh_ext a (fun s hs => ⟨pk_un (by omega), pk_un (by omega)⟩) (fun _ _ => rfl) (fun _ _ => rfl), by omega, fun s s1 s2 => ?_, ?_, h6, Or.inr ⟨by omega, h1⟩, fun q => by omega⟩
  · by_cases q : s = n
    · subst q; rw [pk_us, pk_us]; exact hs
    · rw [pk_un q, pk_un q]; exact c s s1 (by omega)
  · have d' := pr_ext (sg' := upd dr n y) (fun s s1 s2 => pk_un (by omega)) d
    have en : B ln + (n - B ln) = n := by omega
    have := pr_app (sg := upd dr n y) d' (by rw [en, pk_us]; exact hv)
    rw [en, pk_us, hh] at this
    rw [show n + 1 - B ln = n - B ln + 1 by omega]
    exact this
theorem rd_end {n ln : Nat} {B : Nat → Nat} {sg en dr dB : Nat → Int32} {x y : Int32} (hI : rdI n ln 1 B sg en dr dB) (hs : sgE y x) (hv : sgV y 1) (hl : ln < 16) (hn : n < 240) : rdI (n + 1) (ln + 1) 0 (fun j => if j = ln + 1 then n + 1 else B j) (upd sg n x) (upd en ln (nI n)) (upd dr n y) (upd dB (ln + 1) (nI (n + 1))) := by
  obtain ⟨a, b, c, d, e, f, g⟩ := hI
  have b2 : B ln < n := by omega
  have k := sh_ext a (sgc' := upd sg n x) (en' := upd en ln (nI n)) (sgm' := upd dr n y) (bg' := upd dB (ln + 1) (nI (n + 1))) (fun s hs => ⟨pk_un (by omega), pk_un (by omega)⟩) (fun j hj => pk_un (by omega)) (fun j hj => pk_un (by omega))
  refine ⟨⟨by omega, ?_, k.2.2.1, fun j hj => ?_⟩, ?_, fun s s1 s2 => ?_, ?_, by omega, Or.inl ⟨?_, rfl⟩, fun _ => rfl⟩
  · simp only; rw [if_neg (by omega)]; exact a.2.1
  · simp only
    by_cases q : j = ln
    · subst q
      rw [if_pos rfl, if_neg (by omega), pk_us, pk_us, show n + 1 - 1 = n by omega, pk_us, pk_us]
      refine ⟨rfl, rfl, by omega, by omega, fun s s1 s2 => ?_, hs, ?_⟩
      · rw [pk_un (by omega), pk_un (by omega)]; exact c s s1 s2
      · have d' := pr_ext (sg' := upd dr n y) (fun s s1 s2 => pk_un (by omega)) d
        have en : B j + (n - B j) = n := by omega
        have := pr_app (sg := upd dr n y) d' (by rw [en, pk_us]; exact hv)
        rw [show n + 1 - B j = n - B j + 1 by omega]
        exact pr_ln this
    · rw [if_neg (by omega), if_neg (by omega)]
      exact k.2.2.2 j (by omega)
  · simp only; rw [if_pos trivial]; exact Nat.le_refl _
  · simp only at s1; rw [if_pos trivial] at s1; omega
  · simp only; rw [if_pos trivial, Nat.sub_self]; exact rfl
  · simp only; rw [if_pos trivial]
/-! characters -/
theorem dg_n {c : Int32} (h : isDg c = true) : ∃ d : Nat, d < 10 ∧ c = nI (48 + d) := by
  simp only [isDg, Bool.and_eq_true, Bool.not_eq_true', decide_eq_false_iff_not, Int32.lt_iff_toInt_lt] at h
  rw [show (48 : Int32).toInt = 48 from rfl, show (57 : Int32).toInt = 57 from rfl] at h
  refine ⟨c.toInt.toNat - 48, by omega, Int32.toInt_inj.mp ?_⟩
  rw [nI_toInt (by omega)]
  omega
theorem fl_n {c : Int32} (h : isFL c = true) : ∃ d : Nat, d < 26 ∧ c = nI (97 + d) := by
  simp only [isFL, Bool.and_eq_true, Bool.not_eq_true', decide_eq_false_iff_not, Int32.lt_iff_toInt_lt] at h
  rw [show (97 : Int32).toInt = 97 from rfl, show (122 : Int32).toInt = 122 from rfl] at h
  refine ⟨c.toInt.toNat - 97, by omega, Int32.toInt_inj.mp ?_⟩
  rw [nI_toInt (by omega)]
  omega
theorem fl_cs {c : Int32} (h : isFL c = true) : isDg c = false ∧ ¬ c = 32 ∧ isTw c = false ∧ ¬ c = 114 ∧ isEd c = false := by
  obtain ⟨d, hd, rfl⟩ := fl_n h
  have k : ∀ d, d < 26 → isFL (nI (97 + d)) = true → (isDg (nI (97 + d)) = false ∧ ¬ nI (97 + d) = 32 ∧ isTw (nI (97 + d)) = false ∧ ¬ nI (97 + d) = 114 ∧ isEd (nI (97 + d)) = false) := by decide +kernel
  exact k d hd h
theorem dg_cs {c : Int32} (h : isDg c = true) : ¬ c = 32 ∧ isEd c = false := by
  obtain ⟨d, hd, rfl⟩ := dg_n h
  have k : ∀ d, d < 10 → (¬ nI (48 + d) = 32 ∧ isEd (nI (48 + d)) = false) := by decide +kernel
  exact k d hd
theorem tw_c2 {c : Int32} (h : isTw c = true) : isDg c = false ∧ ¬ c = 32 ∧ isEd c = false := by
  simp only [isTw, Bool.or_eq_true, decide_eq_true_eq] at h
  rcases h with rfl | rfl | rfl | rfl | rfl | rfl <;> decide
theorem ed_c2 {c : Int32} (h : isEd c = true) : isDg c = false ∧ ¬ c = 32 ∧ isFL c = false := by
  simp only [isEd, Bool.or_eq_true, decide_eq_true_eq] at h
  rcases h with rfl | rfl | rfl <;> decide
theorem ra_dig {c ht dg : Int32} {sg en : Nat → Int32} {sc lc : Int32} (h : isDg c = true) : raAcc c ht dg sg en sc lc = raDig (c - 48) ht dg sg en sc lc := by
  simp only [isDg, Bool.and_eq_true, Bool.not_eq_true', decide_eq_false_iff_not] at h
  unfold raAcc
  rw [if_neg h.1, if_neg h.2]
theorem ra_nod {c ht dg : Int32} {sg en : Nat → Int32} {sc lc : Int32} (h : isDg c = false) : raAcc c ht dg sg en sc lc = raNod c ht 0 sg en sc lc := by
  unfold raAcc
  by_cases q : c < 48
  · rw [if_pos q]
  · rw [if_neg q]
    by_cases q2 : 57 < c
    · rw [if_pos q2]
    · unfold isDg at h
      rw [decide_eq_false q, decide_eq_false q2] at h
      exact absurd h (by decide)
theorem ra_tw {c ht : Int32} {sg en : Nat → Int32} {sc lc : Int32} (h : isTw c = true) : raNod c ht 0 sg en sc lc = raOp c 2 ht 0 sg en sc lc := by
  simp only [isTw, Bool.or_eq_true, decide_eq_true_eq] at h
  rcases h with rfl | rfl | rfl | rfl | rfl | rfl <;> rfl
theorem ra_ed {c ht : Int32} {sg en : Nat → Int32} {sc lc : Int32} (h : isEd c = true) : raNod c ht 0 sg en sc lc = raEnd c ht 0 sg en sc lc := by
  simp only [isEd, Bool.or_eq_true, decide_eq_true_eq] at h
  rcases h with rfl | rfl | rfl <;> rfl
theorem ra_rn {ht : Int32} {sg en : Nat → Int32} {sc lc : Int32} : raNod 114 ht 0 sg en sc lc = raOp 114 1 ht 0 sg en sc lc := rfl
theorem ra_no {c ht : Int32} {sg en : Nat → Int32} {sc lc : Int32} (h1 : ¬ c = 32) (h2 : isFL c = false) (h3 : isTw c = false) (h4 : ¬ c = 114) (h5 : isEd c = false) : raNod c ht 0 sg en sc lc = (false, ht, 0, sg, en, sc, lc) := by
  simp only [isTw, isEd, Bool.or_eq_false_iff, decide_eq_false_iff_not] at h3 h5
  unfold raNod raOth
  rw [if_neg h1, h2, if_neg Bool.false_ne_true, if_neg h5.2.1, if_neg h3.2.2.1, if_neg h3.1, if_neg h3.2.1, if_neg h3.2.2.2.1, if_neg h5.1, if_neg h3.2.2.2.2.1, if_neg h5.2.2, if_neg h3.2.2.2.2.2, if_neg h4]
theorem ra_fl {c ht : Int32} {sg en : Nat → Int32} {sc lc : Int32} (h : isFL c = true) : raNod c ht 0 sg en sc lc = raFct c ht 0 sg en sc lc := by
  unfold raNod
  rw [if_neg (fl_cs h).2.1, if_pos h]
theorem ix_t {n M : Nat} {N : Int32} (hN : N = nI M) (h : n < M) (hM : M < 2 ^ 31) : isIx (nI n) N = true := by
  unfold isIx
  rw [hN, decide_eq_false (nI_pos (by omega)), decide_eq_false (nI_ge h hM)]
  rfl
theorem ixU_n {f : Nat → Int32} {n M : Nat} {N x : Int32} (hN : N = nI M) (h : n < M) (hM : M < 2 ^ 31) : ixU f N (nI n) x = upd f n x := by
  unfold ixU
  rw [if_pos (ix_t hN h hM), nI_clamp (by omega)]
theorem ixN_n {n M : Nat} {N x y : Int32} (hN : N = nI M) (h : n < M) (hM : M < 2 ^ 31) : ixN N (nI n) x y = x := if_pos (ix_t hN h hM)
theorem hs_t {h ln : Nat} (h6 : h < 6) (hl : ln < 16) : hsR (nI h) (nI ln) = true := by
  unfold hsR
  rw [decide_eq_false (show ¬ (6 : Int32) ≤ nI h from nI_ge (b := 6) h6 (by decide)), decide_eq_false (show ¬ (16 : Int32) ≤ nI ln from nI_ge (b := 16) hl (by decide))]
  rfl
theorem hs_f {h ln : Nat} (hh : h < 100) (hl : ln < 100) (q : ¬ (h < 6 ∧ ln < 16)) : hsR (nI h) (nI ln) = false := by
  unfold hsR
  by_cases q1 : h < 6
  · rw [decide_eq_true (show (16 : Int32) ≤ nI ln from nI_le (a := 16) (by omega) (by omega))]
    exact Bool.and_false _
  · rw [decide_eq_true (show (6 : Int32) ≤ nI h from nI_le (a := 6) (by omega) (by omega))]
    rfl
/-! one character of the class -/
theorem rf_step {tx : Nat → Int32} {SZ k : Nat} {ht dg : Int32} {sg en : Nat → Int32} {sc lc a b : Int32} {c d : Nat → Int32} {e f : Int32} (hS : SZ ≤ 240) (hk : k < SZ) (hr : raAcc (tx k) ht dg sg en sc lc = (true, a, b, c, d, e, f)) : rfL tx (nI SZ) (240 - k) ht dg sg en sc lc = rfL tx (nI SZ) (240 - (k + 1)) a b c d e f := by
  obtain ⟨F, hF⟩ : ∃ F, F = 240 - (k + 1) := ⟨_, rfl⟩
  rw [← hF, show 240 - k = F + 1 by omega, rfL, show 240 - (F + 1) = k by omega, if_neg (nI_ge hk (by omega)), nI_clamp (by omega), hr, if_pos rfl]
theorem rf_stop {tx : Nat → Int32} {SZ k : Nat} {ht dg : Int32} {sg en : Nat → Int32} {sc lc : Int32} {R : Int32 × Int32 × (Nat → Int32) × (Nat → Int32) × Int32 × Int32} (hS : SZ ≤ 240) (hk : k < SZ) (hr : raAcc (tx k) ht dg sg en sc lc = (false, R)) : (rfL tx (nI SZ) (240 - k) ht dg sg en sc lc).1 = nI k := by
  obtain ⟨F, hF⟩ : ∃ F, F = 240 - (k + 1) := ⟨_, rfl⟩
  rw [show 240 - k = F + 1 by omega, rfL, show 240 - (F + 1) = k by omega, if_neg (nI_ge hk (by omega)), nI_clamp (by omega), hr, if_neg Bool.false_ne_true]
theorem rf_end {tx : Nat → Int32} {SZ : Nat} {ht dg : Int32} {sg en : Nat → Int32} {sc lc : Int32} (hS : SZ ≤ 240) : rfL tx (nI SZ) (240 - SZ) ht dg sg en sc lc = (rfE (nI SZ) ht lc, ht, dg, sg, en, sc, lc) := by
  by_cases q : SZ = 240
  · subst q; rfl
  · obtain ⟨F, hF⟩ : ∃ F, F = 240 - (SZ + 1) := ⟨_, rfl⟩
    rw [show 240 - SZ = F + 1 by omega, rfL, show 240 - (F + 1) = SZ by omega, if_pos (nI_le (Nat.le_refl _) (by omega))]
theorem upd_2 {f : Nat → Int32} {n : Nat} {x y : Int32} : upd (upd f n x) n y = upd f n y := by
  funext j
  by_cases q : j = n
  · subst q; rw [pk_us, pk_us]
  · rw [pk_un q, pk_un q, pk_un q]
/-- a further digit -/
theorem dg_more {d0 h g n ln z : Nat} {sg en : Nat → Int32} {lc : Int32} (hg : 1 ≤ g) (h5 : g < 5) (hn : n < 240) : raDig (nI d0) (nI h) (nI g) (upd sg n (nI z)) en (nI (n + 1)) lc = (true, nI h, nI (g + 1), upd sg n (nI (z * 10 + d0)), en, nI (n + 1), lc) := by
  unfold raDig
  rw [if_pos (show nI g < 5 from nI_lt (b := 5) h5 (by decide)), if_neg (nI_nle hg (by omega)), nI_1, nI_pred, ixU_n (N := 240) (M := 240) rfl hn (by decide), nI_clamp (by omega), pk_us, upd_2]
  rw [show nI z * 10 = nI (z * 10) from pk_mul z 10, nI_add]
theorem dg_1st {d0 h n ln : Nat} {sg en : Nat → Int32} (h6 : h < 6) (hl : ln < 16) (hn : n < 240) : raDig (nI d0) (nI h) 0 sg en (nI n) (nI ln) = (true, nI (h + 1), nI 1, upd sg n (nI d0), en, nI (n + 1), nI ln) := by
  unfold raDig
  rw [if_pos (show (0 : Int32) < 5 by decide), if_pos (show (0 : Int32) ≤ 0 by decide), if_pos (hs_t h6 hl), ixU_n (N := 240) (M := 240) rfl hn (by decide), ixN_n (N := 240) (M := 240) rfl hn (by decide), nI_1, nI_1]
  rfl
theorem dg_sub {d : Nat} (h : d < 10) : nI (48 + d) - 48 = nI d := by
  rw [nI_m (y := 48) (j := 48) rfl (by omega)]; congr 1; omega
theorem dg_val {z d : Nat} : 10 * nI z + nI (48 + d) - 48 = nI (z * 10 + d) := by
  rw [show 10 * nI z = nI (10 * z) from pk_mul 10 z, nI_add, nI_m (y := 48) (j := 48) rfl (by omega)]
  congr 1; omega
/-- the digits of one number, from the second on -/
theorem in_st {tx tm : Nat → Int32} {SZ n ln h : Nat} {sg en : Nat → Int32} {lc : Int32} (hS : SZ ≤ 240) (htx : ∀ j, j < SZ → tm j = tx j) (hn : n < 240) : ∀ (e g k z : Nat), g + e = 5 → 1 ≤ g → z < 10 ^ g → k ≤ SZ →
    (∃ k', k' < SZ ∧ (inL tm (nI SZ) (e + 1) (nI k) (nI z) (nI g)).1 = true ∧ (inL tm (nI SZ) (e + 1) (nI k) (nI z) (nI g)).2.1 = nI k' ∧ (rfL tx (nI SZ) (240 - k) (nI h) (nI g) (upd sg n (nI z)) en (nI (n + 1)) lc).1 = nI k') ∨
    (∃ k' z' g', k ≤ k' ∧ k' ≤ SZ ∧ z' < 100000 ∧ 1 ≤ g' ∧ g' ≤ 5 ∧ inL tm (nI SZ) (e + 1) (nI k) (nI z) (nI g) = (false, nI k', nI z', nI g') ∧ (k' = SZ ∨ isDg (tx k') = false) ∧ rfL tx (nI SZ) (240 - k) (nI h) (nI g) (upd sg n (nI z)) en (nI (n + 1)) lc = rfL tx (nI SZ) (240 - k') (nI h) (nI g') (upd sg n (nI z')) en (nI (n + 1)) lc) := by
  intro e
  induction e with
  | zero =>
    intro g k z hg h1 hz hk
    have h5 : g = 5 := by omega
    subst h5
    by_cases q : k = SZ
    · subst q
      refine Or.inr ⟨k, z, 5, Nat.le_refl _, Nat.le_refl _, hz, by omega, by omega, ?_, Or.inl rfl, rfl⟩
      rw [inL, if_pos (nI_le (Nat.le_refl _) (by omega))]
    · have hkS : k < SZ := by omega
      by_cases q2 : isDg (tx k) = true
      · refine Or.inl ⟨k, hkS, ?_, ?_, ?_⟩
        · rw [inL, if_neg (nI_ge hkS (by omega)), nI_clamp (by omega), htx k hkS, if_pos q2, if_pos (show nI 5 = 5 from rfl)]
        · rw [inL, if_neg (nI_ge hkS (by omega)), nI_clamp (by omega), htx k hkS, if_pos q2, if_pos (show nI 5 = 5 from rfl)]
        · refine rf_stop hS hkS (R := (nI h, nI 5, upd sg n (nI z), en, nI (n + 1), lc)) ?_
          rw [ra_dig q2]
          unfold raDig
          rw [if_neg (by decide)]
      · have q3 : isDg (tx k) = false := by cases hb : isDg (tx k) <;> simp_all
        refine Or.inr ⟨k, z, 5, Nat.le_refl _, hk, hz, by omega, by omega, ?_, Or.inr q3, rfl⟩
        rw [inL, if_neg (nI_ge hkS (by omega)), nI_clamp (by omega), htx k hkS, if_neg q2]
  | succ e ih =>
    intro g k z hg h1 hz hk
    have hz5 : z < 100000 := Nat.lt_of_lt_of_le hz (Nat.pow_le_pow_right (by omega) (show g ≤ 5 by omega))
    by_cases q : k = SZ
    · subst q
      refine Or.inr ⟨k, z, g, Nat.le_refl _, Nat.le_refl _, hz5, h1, by omega, ?_, Or.inl rfl, rfl⟩
      rw [inL, if_pos (nI_le (Nat.le_refl _) (by omega))]
    · have hkS : k < SZ := by omega
      by_cases q2 : isDg (tx k) = true
      · obtain ⟨d, hd, ed⟩ := dg_n q2
        have eI : inL tm (nI SZ) (e + 1 + 1) (nI k) (nI z) (nI g) = inL tm (nI SZ) (e + 1) (nI (k + 1)) (nI (z * 10 + d)) (nI (g + 1)) := by
          rw [inL, if_neg (nI_ge hkS (by omega)), nI_clamp (by omega), htx k hkS, if_pos q2, if_neg (show ¬ nI g = 5 from fun w => by have := (nI_eq (b := 5) (by omega) (by decide)).mp w; omega), ed, dg_val, nI_1, nI_1]
        have eR : rfL tx (nI SZ) (240 - k) (nI h) (nI g) (upd sg n (nI z)) en (nI (n + 1)) lc = rfL tx (nI SZ) (240 - (k + 1)) (nI h) (nI (g + 1)) (upd sg n (nI (z * 10 + d))) en (nI (n + 1)) lc := by
          refine rf_step hS hkS ?_
          rw [ra_dig q2, ed, dg_sub hd]
          exact dg_more (ln := 0) h1 (by omega) hn
        rw [eI, eR]
        have hz' : z * 10 + d < 10 ^ (g + 1) := by rw [Nat.pow_succ]; omega
        rcases ih (g + 1) (k + 1) (z * 10 + d) (by omega) (by omega) hz' (by omega) with ⟨k', a⟩ | ⟨k', z', g', a1, a⟩
        · exact Or.inl ⟨k', a⟩
        · exact Or.inr ⟨k', z', g', by omega, a⟩
      · have q3 : isDg (tx k) = false := by cases hb : isDg (tx k) <;> simp_all
        refine Or.inr ⟨k, z, g, Nat.le_refl _, hk, hz5, h1, by omega, ?_, Or.inr q3, rfl⟩
        rw [inL, if_neg (nI_ge hkS (by omega)), nI_clamp (by omega), htx k hkS, if_neg q2]
/-! what a sign asks of the height -/
theorem sv_fact {m h : Nat} (hm : m < 26) (h6 : h < 6) : sgV (nI (100097 + m)) h ∧ hN (nI (100097 + m)) h = h + 1 := by
  have z1 : ¬ nI (100097 + m) < 100000 := nI_nlt (b := 100000) (by omega) (by omega)
  have z0 : ¬ nI (100097 + m) < 0 := nI_pos (by omega)
  refine ⟨⟨fun _ => ⟨?_, h6⟩, fun q => absurd q z1, fun q => absurd q z0, fun q => absurd q z0, fun q => absurd q z0⟩, if_neg z0⟩
  rw [nI_m (y := 100000) (j := 100000) rfl (by omega), nI_m (y := 97) (j := 97) rfl (by omega)]
  exact pk_in (100097 + m - 100000 - 97) 26 (by omega)
theorem sv_num {z h : Nat} (hz : z < 100000) (h6 : h < 6) : sgV (nI z) h ∧ hN (nI z) h = h + 1 := by
  have z1 : nI z < 100000 := nI_lt (b := 100000) hz (by omega)
  have z0 : ¬ nI z < 0 := nI_pos (by omega)
  exact ⟨⟨fun q => absurd z1 q, fun _ _ => h6, fun q => absurd q z0, fun q => absurd q z0, fun q => absurd q z0⟩, if_neg z0⟩
theorem sv_tw {c : Int32} {h : Nat} (hc : isTw c = true) (h2 : 2 ≤ h) : sgV (-c) h ∧ hN (-c) h = h - 1 := by
  obtain ⟨c1, c2, c3⟩ := tw_cs hc
  have c4 : -c < 100000 := Int32.lt_trans c1 (by decide)
  refine ⟨⟨fun q => absurd c4 q, fun _ q => absurd c1 q, fun _ _ => h2, fun _ q => ?_, fun _ q => ?_⟩, ?_⟩
  · rw [Int32.neg_neg, hc] at q; exact Bool.noConfusion q
  · rw [Int32.neg_neg, hc] at q; exact Bool.noConfusion q
  · unfold hN; rw [if_pos c1, Int32.neg_neg, if_pos hc]
theorem sv_rn {h : Nat} (h1 : 1 ≤ h) : sgV (-114) h ∧ hN (-114) h = h :=
  ⟨⟨fun q => absurd (by decide) q, fun _ q => absurd (by decide) q, fun _ q => absurd q (by decide), fun _ _ _ => h1, fun _ _ q => absurd (by decide) q⟩, rfl⟩
theorem sv_ed {c : Int32} (hc : isEd c = true) : sgV (-c) 1 := by
  obtain ⟨c1, c2, c3⟩ := ed_cs hc
  have c4 : -c < 100000 := Int32.lt_trans c1 (by decide)
  refine ⟨fun q => absurd c4 q, fun _ q => absurd c1 q, fun _ q => ?_, fun _ _ q => ?_, fun _ _ _ => rfl⟩
  · rw [Int32.neg_neg, c2] at q; exact Bool.noConfusion q
  · rw [Int32.neg_neg] at q; exact absurd q c3
def rdR (C : RF) (M : FR) : Prop := C.1 = M.1 ∧ (M.1 = -1 → ∃ (LL : Nat) (B : Nat → Nat), ShR C.2.2.2.1 C.2.2.2.2.1 M.2.1 M.2.2.1 LL B ∧ C.2.2.2.2.2.2 = nI LL ∧ M.2.2.2 = nI LL)
theorem nI_m1 {k : Nat} (h : k < 2 ^ 31) : ¬ nI k = -1 := by
  intro q
  have := nI_toInt h
  rw [q, show (-1 : Int32).toInt = -1 from rfl] at this
  omega
theorem rd_flt {C : RF} {M : FR} {k : Nat} (hk : k < 240) (h1 : C.1 = nI k) (h2 : M.1 = nI k) : rdR C M := ⟨h1.trans h2.symm, fun q => absurd (h2.symm.trans q) (nI_m1 (by omega))⟩
theorem ou_sp {tm : Nat → Int32} {SZ k : Nat} {dl : Int32} {f : Nat} {n ln sk : Int32} {dr dB : Nat → Int32} (hS : SZ ≤ 240) (hk : k < SZ) (h : tm k = 32) : ouL tm (nI SZ) dl (f + 1) (nI k) n ln sk dr dB = ouL tm (nI SZ) dl f (nI (k + 1)) n ln sk dr dB := by
  rw [ouL, if_neg (nI_ge hk (by omega)), nI_clamp (by omega), if_pos h, nI_1]
theorem ou_no {tm : Nat → Int32} {SZ k : Nat} {dl : Int32} {f : Nat} {n ln sk : Int32} {dr dB : Nat → Int32} (hS : SZ ≤ 240) (hk : k < SZ) (h : ¬ tm k = 32) (hg : goB (tm k) ln sk = false) : (ouL tm (nI SZ) dl (f + 1) (nI k) n ln sk dr dB).1 = nI k := by
  rw [ouL, if_neg (nI_ge hk (by omega)), nI_clamp (by omega), if_neg h, hg, if_neg Bool.false_ne_true]
theorem ou_go {tm : Nat → Int32} {SZ k : Nat} {dl : Int32} {f : Nat} {n ln sk : Int32} {dr dB : Nat → Int32} (hS : SZ ≤ 240) (hk : k < SZ) (h : ¬ tm k = 32) (hg : goB (tm k) ln sk = true) (hd : isDg (tm k) = false) : ouL tm (nI SZ) dl (f + 1) (nI k) n ln sk dr dB = ouL tm (nI SZ) dl f (nI (k + 1)) (n + 1) (if isEd (tm k) = true then ln + 1 else ln) (skN (tm k) sk) (upd dr n.toNatClampNeg (if isFL (tm k) = true then 100000 + tm k else -tm k)) (if isEd (tm k) = true then upd dB (ln + 1).toNatClampNeg (n + 1) else dB) := by
  have e : oiB tm (nI SZ) (tm k) (nI k) = (false, nI k, (if isFL (tm k) = true then 100000 + tm k else -tm k), 0) := by
    unfold oiB; rw [hd, if_neg Bool.false_ne_true]
  rw [ouL, if_neg (nI_ge hk (by omega)), nI_clamp (by omega), if_neg h, if_pos hg, e, if_neg Bool.false_ne_true]
  simp only
  rw [if_pos (show (0 : Int32) ≤ 0 by decide), nI_1]
theorem go_f {c : Int32} {h ln : Nat} (hl : ln ≤ 16) (hh : h ≤ 6) (hc : isFL c = true ∨ isDg c = true) : goB c (nI ln) (nI h) = decide (ln < 16 ∧ h < 6) := by
  have e : laB c = true := by unfold laB; rcases hc with q | q <;> rw [q] <;> simp
  unfold goB
  rw [if_pos e]
  have a := nI_leI (a := 16) (b := ln) (by decide) (by omega)
  have b := nI_leI (a := 6) (b := h) (by decide) (by omega)
  rw [show (16 : Int32) = nI 16 from rfl, show (6 : Int32) = nI 6 from rfl]
  by_cases q1 : ln < 16
  · rw [decide_eq_false (fun z => by have := a.mp z; omega)]
    by_cases q2 : h < 6
    · rw [decide_eq_false (fun z => by have := b.mp z; omega), decide_eq_true ⟨q1, q2⟩]; rfl
    · rw [decide_eq_true (b.mpr (by omega)), decide_eq_false (fun z => q2 z.2)]; rfl
  · rw [decide_eq_true (a.mpr (by omega)), decide_eq_false (p := ln < 16 ∧ h < 6) (fun z => q1 z.1)]; rfl
theorem go_x {c : Int32} {h ln : Nat} (hl : ln ≤ 16) (hh : h ≤ 6) (h1 : isDg c = false) (h2 : isFL c = false) : goB c (nI ln) (nI h) = (decide (ln < 16) && (if isTw c = true then decide (2 ≤ h) else if c = 114 then decide (1 ≤ h) else (isEd c && decide (h = 1)))) := by
  have e : laB c = false := by unfold laB; rw [h1, h2]; rfl
  unfold goB
  rw [e, if_neg Bool.false_ne_true]
  have a := nI_leI (a := 16) (b := ln) (by decide) (by omega)
  have b := nI_leI (a := h) (b := 1) (by omega) (by decide)
  have b0 := nI_leI (a := h) (b := 0) (by omega) (by decide)
  have b1 := nI_eq (a := h) (b := 1) (by omega) (by decide)
  rw [show (16 : Int32) = nI 16 from rfl, show (1 : Int32) = nI 1 from rfl, show (0 : Int32) = nI 0 from rfl]
  congr 1
  · by_cases q1 : ln < 16
    · rw [decide_eq_false (fun z => by have := a.mp z; omega), decide_eq_true q1]; rfl
    · rw [decide_eq_true (a.mpr (by omega)), decide_eq_false q1]; rfl
  · split
    · by_cases q : 2 ≤ h
      · rw [decide_eq_false (fun z => by have := b.mp z; omega), decide_eq_true q]; rfl
      · rw [decide_eq_true (b.mpr (by omega)), decide_eq_false q]; rfl
    · split
      · by_cases q : 1 ≤ h
        · rw [decide_eq_false (fun z => by have := b0.mp z; omega), decide_eq_true q]; rfl
        · rw [decide_eq_true (b0.mpr (by omega)), decide_eq_false q]; rfl
      · congr 1
        by_cases q : h = 1
        · rw [decide_eq_true (b1.mpr q), decide_eq_true q]
        · rw [decide_eq_false (fun z => q (b1.mp z)), decide_eq_false q]
theorem op_t {c : Int32} {T : Int32} {t h n : Nat} {sg en : Nat → Int32} {lc : Int32} (hT : T = nI t) (ht : t ≤ h) (hh : h ≤ 6) (hn : n < 240) : raOp c T (nI h) 0 sg en (nI n) lc = (true, nI (h - t + 1), 0, upd sg n (-c), en, nI (n + 1), lc) := by
  unfold raOp
  rw [hT, if_pos (nI_le ht (by omega)), pk_sub ht, nI_1, ixU_n (N := 240) (M := 240) rfl hn (by decide), ixN_n (N := 240) (M := 240) rfl hn (by decide), nI_1]
theorem op_f {c : Int32} {T : Int32} {t h n : Nat} {sg en : Nat → Int32} {lc : Int32} (hT : T = nI t) (ht : h < t) (hh : t ≤ 6) : raOp c T (nI h) 0 sg en (nI n) lc = (false, nI h, 0, sg, en, nI n, lc) := by
  unfold raOp
  rw [hT, if_neg (nI_ge ht (by omega))]
theorem rd_st {tx tm : Nat → Int32} {SZ : Nat} {dl : Int32} (hS : SZ ≤ 240) (htx : ∀ j, j < SZ → tm j = tx j) : ∀ (D d k n ln h f : Nat) (dg : Int32) (B : Nat → Nat) (sg en dr dB : Nat → Int32), d ≤ D → k + d = SZ → d ≤ f → n ≤ k → rdI n ln h B sg en dr dB → (dg = 0 ∨ k = SZ ∨ isDg (tx k) = false) →
    rdR (rfL tx (nI SZ) (240 - k) (nI h) dg sg en (nI n) (nI ln)) (ouL tm (nI SZ) dl f (nI k) (nI n) (nI ln) (nI h) dr dB) := by
  intro D
  induction D with
  | zero =>
    intro d k n ln h f dg B sg en dr dB hd hk hf hn hI _
    obtain rfl : k = SZ := by omega
    have eM : ouL tm (nI k) dl f (nI k) (nI n) (nI ln) (nI h) dr dB = (ouE (nI k) (nI n) (nI ln) dB, dr, dB, nI ln) := by
      cases f with
      | zero => rfl
      | succ f => rw [ouL, if_pos (nI_le (Nat.le_refl _) (by omega))]
    rw [rf_end hS, eM]
    obtain ⟨a, b, c, d, e, f, g⟩ := hI
    have h16 := a.1
    have eb := (sh_b a (Nat.le_refl ln)).1
    have b240 := (sh_b a (Nat.le_refl ln)).2
    have e1 : rfE (nI k) (nI h) (nI ln) = ouE (nI k) (nI n) (nI ln) dB := by
      unfold rfE ouE
      rw [nI_clamp (by omega), eb]
      by_cases q : ln = 0
      · subst q
        rw [if_pos (show nI 0 ≤ 0 by decide), if_pos (show nI 0 = 0 from rfl)]
        split <;> rfl
      · have q' : 0 < ln := Nat.pos_of_ne_zero q
        rw [if_neg (nI_nle (n := ln) q' (by omega)), if_neg (c := nI ln = 0) (nI_ne0 q' (by omega))]
        rcases f with ⟨f1, f2⟩ | ⟨f1, f2⟩
        · rw [f2, if_pos (show nI 0 = 0 from rfl), if_pos (by rw [f1])]
        · rw [if_neg (nI_ne0 (n := h) f2 (by omega)), if_neg (fun q => by have := (nI_eq (by omega) (by omega)).mp q; omega)]
    exact ⟨e1, fun _ => ⟨ln, B, a, rfl, rfl⟩⟩
  | succ D ih =>
    intro d k n ln h f dg B sg en dr dB hd hk hf hn hI hdg
    by_cases qd : d ≤ D
    · exact ih d k n ln h f dg B sg en dr dB qd hk hf hn hI hdg
    have hkS : k < SZ := by omega
    obtain ⟨f, rfl⟩ : ∃ f', f = f' + 1 := ⟨f - 1, by omega⟩
    have ec := htx k hkS
    have h16 := hI.1.1
    have h6 := hI.2.2.2.2.1
    have h160 := hI.2.2.2.2.2.2
    have hn240 : n < 240 := by omega
    generalize hc : tx k = c at *
    by_cases qDg : isDg c = true
    · -- a number
      obtain ⟨d0, hd0, ed⟩ := dg_n qDg
      obtain ⟨n32, nE⟩ := dg_cs qDg
      have dg0 : dg = 0 := by
        rcases hdg with q | q | q
        · exact q
        · omega
        · rw [qDg] at q; exact Bool.noConfusion q
      subst dg0
      have eg := go_f (c := c) h16 h6 (Or.inr qDg)
      by_cases qg : ln < 16 ∧ h < 6
      · obtain ⟨q1, q2⟩ := qg
        rw [decide_eq_true ⟨q1, q2⟩] at eg
        have eR : rfL tx (nI SZ) (240 - k) (nI h) 0 sg en (nI n) (nI ln) = rfL tx (nI SZ) (240 - (k + 1)) (nI (h + 1)) (nI 1) (upd sg n (nI d0)) en (nI (n + 1)) (nI ln) := by
          refine rf_step hS hkS ?_
          rw [hc, ra_dig qDg, ed, dg_sub hd0]
          exact dg_1st q2 q1 hn240
        have eI : inL tm (nI SZ) 6 (nI k) 0 0 = inL tm (nI SZ) (4 + 1) (nI (k + 1)) (nI d0) (nI 1) := by
          rw [inL, if_neg (nI_ge hkS (by omega)), nI_clamp (by omega), ec, if_pos qDg, if_neg (by decide), ed, nI_1]
          have := dg_val (z := 0) (d := d0)
          rw [show nI 0 = 0 from rfl, Nat.zero_mul, Nat.zero_add] at this
          rw [this]
          rfl
        have eO : oiB tm (nI SZ) c (nI k) = inL tm (nI SZ) (4 + 1) (nI (k + 1)) (nI d0) (nI 1) := by
          unfold oiB
          rw [if_pos qDg, eI]
        rw [eR, ouL, if_neg (nI_ge hkS (by omega)), nI_clamp (by omega), ec, if_neg n32, if_pos eg, eO, nE, if_neg Bool.false_ne_true, if_neg Bool.false_ne_true]
        rcases in_st (tx := tx) (tm := tm) (h := h + 1) (sg := sg) (en := en) (lc := nI ln) (ln := ln) hS htx hn240 4 1 (k + 1) d0 (by omega) (by omega) (by omega) (by omega) with ⟨k', a1, a2, a3, a4⟩ | ⟨k', z', g', a1, a2, a3, a4, a5, a6, a7, a8⟩
        · rw [if_pos a2]
          exact rd_flt (by omega) a4 a3
        · rw [a6, a8, if_neg Bool.false_ne_true]
          simp only
          rw [if_neg (nI_nle a4 (by omega)), nI_1, nI_clamp (by omega)]
          have es : skN c (nI h) = nI (h + 1) := by
            unfold skN laB
            rw [qDg, Bool.true_or, if_pos rfl, nI_1]
          rw [es]
          obtain ⟨sv1, sv2⟩ := sv_num a3 q2
          exact ih (SZ - k') k' (n + 1) ln (h + 1) f (nI g') B (upd sg n (nI z')) en (upd dr n (nI z')) dB (by omega) (by omega) (by omega) (by omega) (rd_body hI (Or.inr (Or.inl ⟨nI_lt (b := 100000) a3 (by omega), nI_pos (by omega), rfl⟩)) sv1 sv2 (by omega) (by omega) q1) (Or.inr a7)
      · rw [decide_eq_false qg] at eg
        refine rd_flt (k := k) (by omega) ?_ (ou_no hS hkS (by rw [ec]; exact n32) (by rw [ec]; exact eg))
        refine rf_stop hS hkS (R := (nI h, 0, sg, en, nI n, nI ln)) ?_
        rw [hc, ra_dig qDg]
        unfold raDig
        rw [if_pos (by decide), if_pos (by decide), hs_f (by omega) (by omega) (fun z => qg ⟨z.2, z.1⟩), if_neg Bool.false_ne_true]
    have nDg : isDg c = false := by cases hb : isDg c <;> simp_all
    by_cases q32 : c = 32
    · rw [ou_sp hS hkS (by rw [ec]; exact q32)]
      have eR : rfL tx (nI SZ) (240 - k) (nI h) dg sg en (nI n) (nI ln) = rfL tx (nI SZ) (240 - (k + 1)) (nI h) 0 sg en (nI n) (nI ln) := by
        refine rf_step hS hkS ?_
        rw [hc, ra_nod nDg]
        unfold raNod
        rw [if_pos q32]
      rw [eR]
      exact ih (d - 1) (k + 1) n ln h f 0 B sg en dr dB (by omega) (by omega) (by omega) (by omega) hI (Or.inl rfl)
    by_cases qF : isFL c = true
    · -- a fact
      obtain ⟨_, _, nT, n114, nE⟩ := fl_cs qF
      have eg := go_f (c := c) h16 h6 (Or.inl qF)
      by_cases qg : ln < 16 ∧ h < 6
      · obtain ⟨q1, q2⟩ := qg
        rw [decide_eq_true ⟨q1, q2⟩] at eg
        obtain ⟨m, hm, em⟩ := fl_n qF
        have eR : rfL tx (nI SZ) (240 - k) (nI h) dg sg en (nI n) (nI ln) = rfL tx (nI SZ) (240 - (k + 1)) (nI (h + 1)) 0 (upd sg n (-c)) en (nI (n + 1)) (nI ln) := by
          refine rf_step hS hkS ?_
          rw [hc, ra_nod nDg, ra_fl qF]
          unfold raFct
          rw [if_pos (hs_t q2 q1), ixU_n (N := 240) (M := 240) rfl hn240 (by decide), ixN_n (N := 240) (M := 240) rfl hn240 (by decide), nI_1, nI_1]
        rw [eR, ou_go hS hkS (by rw [ec]; exact q32) (by rw [ec]; exact eg) (by rw [ec]; exact nDg), ec, nE, if_neg Bool.false_ne_true, if_neg Bool.false_ne_true, if_pos qF, nI_1, nI_clamp (by omega)]
        have es : skN c (nI h) = nI (h + 1) := by
          unfold skN laB
          rw [nDg, qF, Bool.false_or, if_pos rfl, nI_1]
        rw [es]
        obtain ⟨sv1, sv2⟩ := sv_fact hm q2
        have ez : 100000 + c = nI (100097 + m) := by
          rw [em, show (100000 : Int32) = nI 100000 from rfl, nI_add]; congr 1; omega
        rw [ez]
        exact ih (d - 1) (k + 1) (n + 1) ln (h + 1) f 0 B (upd sg n (-c)) en (upd dr n (nI (100097 + m))) dB (by omega) (by omega) (by omega) (by omega) (rd_body hI (Or.inl ⟨m, hm, em ▸ qF, rfl, by rw [em]⟩) sv1 sv2 (by omega) (by omega) q1) (Or.inl rfl)
      · rw [decide_eq_false qg] at eg
        refine rd_flt (k := k) (by omega) ?_ (ou_no hS hkS (by rw [ec]; exact q32) (by rw [ec]; exact eg))
        refine rf_stop hS hkS (R := (nI h, 0, sg, en, nI n, nI ln)) ?_
        rw [hc, ra_nod nDg, ra_fl qF]
        unfold raFct
        rw [hs_f (by omega) (by omega) (fun z => qg ⟨z.2, z.1⟩), if_neg Bool.false_ne_true]
    have nF : isFL c = false := by cases hb : isFL c <;> simp_all
    have eg := go_x (c := c) h16 h6 nDg nF
    by_cases qT : isTw c = true
    · -- two numbers into one
      obtain ⟨_, _, nE⟩ := tw_c2 qT
      rw [if_pos qT] at eg
      by_cases q2 : 2 ≤ h
      · have q1 : ln < 16 := by
          rcases Nat.lt_or_ge ln 16 with q | q
          · exact q
          · have := h160 (by omega); omega
        rw [decide_eq_true q1, decide_eq_true q2] at eg
        have eR : rfL tx (nI SZ) (240 - k) (nI h) dg sg en (nI n) (nI ln) = rfL tx (nI SZ) (240 - (k + 1)) (nI (h - 2 + 1)) 0 (upd sg n (-c)) en (nI (n + 1)) (nI ln) := by
          refine rf_step hS hkS ?_
          rw [hc, ra_nod nDg, ra_tw qT]
          exact op_t rfl q2 h6 hn240
        rw [eR, ou_go hS hkS (by rw [ec]; exact q32) (by rw [ec]; exact eg) (by rw [ec]; exact nDg), ec, nE, if_neg Bool.false_ne_true, if_neg Bool.false_ne_true, nF, if_neg Bool.false_ne_true, nI_1, nI_clamp (by omega)]
        have es : skN c (nI h) = nI (h - 1) := by
          unfold skN laB
          rw [nDg, nF, Bool.or_false, if_neg Bool.false_ne_true, if_pos qT]
          exact nI_m (y := 1) (j := 1) rfl (by omega)
        rw [es, show h - 2 + 1 = h - 1 by omega]
        obtain ⟨sv1, sv2⟩ := sv_tw qT q2
        exact ih (d - 1) (k + 1) (n + 1) ln (h - 1) f 0 B (upd sg n (-c)) en (upd dr n (-c)) dB (by omega) (by omega) (by omega) (by omega) (rd_body hI (Or.inr (Or.inr ⟨c, Or.inl qT, rfl, rfl⟩)) sv1 sv2 (by omega) (by omega) q1) (Or.inl rfl)
      · rw [decide_eq_false q2, Bool.and_false] at eg
        refine rd_flt (k := k) (by omega) ?_ (ou_no hS hkS (by rw [ec]; exact q32) (by rw [ec]; exact eg))
        refine rf_stop hS hkS (R := (nI h, 0, sg, en, nI n, nI ln)) ?_
        rw [hc, ra_nod nDg, ra_tw qT]
        exact op_f (t := 2) rfl (by omega) (by omega)
    have nT : isTw c = false := by cases hb : isTw c <;> simp_all
    rw [nT, if_neg Bool.false_ne_true] at eg
    by_cases qR : c = 114
    · -- rounding
      rw [if_pos qR] at eg
      have nE : isEd c = false := by rw [qR]; rfl
      by_cases q2 : 1 ≤ h
      · have q1 : ln < 16 := by
          rcases Nat.lt_or_ge ln 16 with q | q
          · exact q
          · have := h160 (by omega); omega
        rw [decide_eq_true q1, decide_eq_true q2] at eg
        have eR : rfL tx (nI SZ) (240 - k) (nI h) dg sg en (nI n) (nI ln) = rfL tx (nI SZ) (240 - (k + 1)) (nI (h - 1 + 1)) 0 (upd sg n (-c)) en (nI (n + 1)) (nI ln) := by
          refine rf_step hS hkS ?_
          rw [hc, ra_nod nDg, qR, ra_rn]
          exact op_t rfl q2 h6 hn240
        rw [eR, ou_go hS hkS (by rw [ec]; exact q32) (by rw [ec]; exact eg) (by rw [ec]; exact nDg), ec, nE, if_neg Bool.false_ne_true, if_neg Bool.false_ne_true, nF, if_neg Bool.false_ne_true, nI_1, nI_clamp (by omega)]
        have es : skN c (nI h) = nI h := by
          unfold skN laB
          rw [nDg, nF, Bool.or_false, if_neg Bool.false_ne_true, nT, if_neg Bool.false_ne_true, nE, if_neg Bool.false_ne_true]
        rw [es, show h - 1 + 1 = h by omega, qR]
        obtain ⟨sv1, sv2⟩ := sv_rn q2
        exact ih (d - 1) (k + 1) (n + 1) ln h f 0 B (upd sg n (-114)) en (upd dr n (-114)) dB (by omega) (by omega) (by omega) (by omega) (rd_body hI (Or.inr (Or.inr ⟨114, Or.inr rfl, rfl, rfl⟩)) sv1 sv2 (by omega) (by omega) q1) (Or.inl rfl)
      · rw [decide_eq_false q2, Bool.and_false] at eg
        refine rd_flt (k := k) (by omega) ?_ (ou_no hS hkS (by rw [ec]; exact q32) (by rw [ec]; exact eg))
        refine rf_stop hS hkS (R := (nI h, 0, sg, en, nI n, nI ln)) ?_
        rw [hc, ra_nod nDg, qR, ra_rn]
        exact op_f (t := 1) rfl (by omega) (by omega)
    rw [if_neg qR] at eg
    by_cases qE : isEd c = true
    · -- the end of a line
      by_cases q2 : h = 1
      · have q1 : ln < 16 := by
          rcases Nat.lt_or_ge ln 16 with q | q
          · exact q
          · have := h160 (by omega); omega
        subst q2
        rw [decide_eq_true q1, qE, decide_eq_true rfl] at eg
        have eR : rfL tx (nI SZ) (240 - k) (nI 1) dg sg en (nI n) (nI ln) = rfL tx (nI SZ) (240 - (k + 1)) 0 0 (upd sg n (-c)) (upd en ln (nI n)) (nI (n + 1)) (nI (ln + 1)) := by
          refine rf_step hS hkS ?_
          rw [hc, ra_nod nDg, ra_ed qE]
          unfold raEnd shE
          rw [if_pos (show nI 1 = 1 from rfl), if_pos (ix_t (N := 16) (M := 16) rfl q1 (by decide)), if_pos (ix_t (N := 16) (M := 16) rfl q1 (by decide)), ixU_n (N := 240) (M := 240) rfl hn240 (by decide), ixN_n (N := 240) (M := 240) rfl hn240 (by decide), ixU_n (N := 16) (M := 16) rfl q1 (by decide), ixN_n (N := 16) (M := 16) rfl q1 (by decide), nI_1, nI_1]
        rw [eR, ou_go hS hkS (by rw [ec]; exact q32) (by rw [ec]; exact eg) (by rw [ec]; exact nDg), ec, qE, if_pos rfl, if_pos rfl, nF, if_neg Bool.false_ne_true, nI_1, nI_1, nI_clamp (by omega), nI_clamp (by omega)]
        have es : skN c (nI 1) = nI 0 := by
          unfold skN laB
          rw [nDg, nF, Bool.or_false, if_neg Bool.false_ne_true, nT, if_neg Bool.false_ne_true, qE, if_pos rfl]
          rfl
        rw [es]
        exact ih (d - 1) (k + 1) (n + 1) (ln + 1) 0 f 0 (fun j => if j = ln + 1 then n + 1 else B j) (upd sg n (-c)) (upd en ln (nI n)) (upd dr n (-c)) (upd dB (ln + 1) (nI (n + 1))) (by omega) (by omega) (by omega) (by omega) (rd_end hI ⟨c, qE, rfl, rfl⟩ (sv_ed qE) q1 hn240) (Or.inl rfl)
      · rw [decide_eq_false q2, Bool.and_false, Bool.and_false] at eg
        refine rd_flt (k := k) (by omega) ?_ (ou_no hS hkS (by rw [ec]; exact q32) (by rw [ec]; exact eg))
        refine rf_stop hS hkS (R := (nI h, 0, sg, en, nI n, nI ln)) ?_
        rw [hc, ra_nod nDg, ra_ed qE]
        unfold raEnd
        rw [if_neg (show ¬ nI h = 1 from fun z => q2 ((nI_eq (b := 1) (by omega) (by decide)).mp z))]
    have nE : isEd c = false := by cases hb : isEd c <;> simp_all
    rw [nE, Bool.false_and, Bool.and_false] at eg
    refine rd_flt (k := k) (by omega) ?_ (ou_no hS hkS (by rw [ec]; exact q32) (by rw [ec]; exact eg))
    refine rf_stop hS hkS (R := (nI h, 0, sg, en, nI n, nI ln)) ?_
    rw [hc, ra_nod nDg, ra_no q32 nF nT qR nE]
/-- the whole reading -/
theorem rd_all {tx tm : Nat → Int32} {SZ : Nat} {dl : Int32} (hS : SZ ≤ 240) (htx : ∀ j, j < SZ → tm j = tx j) (sg en dr dB : Nat → Int32) : rdR (rfL tx (nI SZ) 240 0 0 sg en 0 0) (ouL tm (nI SZ) dl 240 0 0 0 0 dr (upd dB (0 : Int32).toNatClampNeg 0)) := by
  have := rd_st (dl := dl) hS htx SZ SZ 0 0 0 0 240 0 (fun _ => 0) sg en dr (upd dB 0 0) (Nat.le_refl _) (by omega) hS (by omega) ⟨⟨by omega, rfl, pk_us, fun j hj => by omega⟩, Nat.le_refl _, fun s _ h => by omega, rfl, by omega, Or.inl ⟨rfl, rfl⟩, fun h => by omega⟩ (Or.inl rfl)
  exact this
