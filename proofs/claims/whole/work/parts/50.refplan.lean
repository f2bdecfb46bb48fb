/-! the pure layer: plans, the reference's side -/
def RR (told : Nat → Int32) (g t l : Nat) : Nat := tN (rchI (told 2) (told 3) (told (8 + g)) (nI t) (nI l))
def GN (told : Nat → Int32) (g : Nat) : Nat := tN (told (13 + g))
def GG (told : Nat → Int32) : Nat := tN (told 0)
def GO (told : Nat → Int32) : Nat := tN (told 5)
theorem GG_5 {told : Nat → Int32} (hT : TI told) : GG told ≤ 5 := tN_le (by have := hT.1.2; omega)
theorem GG_e {told : Nat → Int32} (hT : TI told) : told 0 = nI (GG told) := tN_nI hT.1.1
theorem GO_e {told : Nat → Int32} (hT : TI told) : told 5 = nI (GO told) ∧ 1 ≤ GO told ∧ GO told ≤ 96 := by
  obtain ⟨h1, h2⟩ := hT.2.2.2.2.2.1
  refine ⟨tN_nI (by omega), ?_, tN_le (by omega)⟩
  unfold GO tN; omega
theorem GG_lt {told : Nat → Int32} (hT : TI told) {g : Nat} (h : g < GG told) : (g : Int) < (told 0).toInt := by
  unfold GG tN at h; omega
theorem GN_e {told : Nat → Int32} (hT : TI told) {g : Nat} (h : g < GG told) : told (13 + g) = nI (GN told g) ∧ GN told g ≤ 3 := by
  obtain ⟨h1, h2⟩ := (hT.2.2.2.2.2.2 g (GG_lt hT h)).2
  exact ⟨tN_nI h1, tN_le (by omega)⟩
theorem rr_i {told : Nat → Int32} (hT : TI told) {g t l : Nat} (h : g < GG told) (ht : t ≤ 24) (hl : l ≤ 9) : (rchI (told 2) (told 3) (told (8 + g)) (nI t) (nI l)).toInt = if (told (8 + g)).toInt ≤ (told 3).toInt + l then min 96 (2 * (t : Int) + ((told 3).toInt + l - (told (8 + g)).toInt) / (told 2).toInt) else 0 := by
  obtain ⟨-, -, ⟨b1, b2⟩, ⟨c1, c2⟩, -, -, hk⟩ := id hT
  obtain ⟨a1, a2⟩ := (hk g (GG_lt hT h)).1
  have e := rchI_b (steep := told 2) (calm := told 3) (tears := told (8 + g)) (trust := nI t) (lik := nI l) b1 (by rw [pn_ti (by omega)]; omega) (by rw [pn_ti (by omega)]; omega) c1 c2 (by rw [pn_ti (by omega)]; omega) (by rw [pn_ti (by omega)]; omega) a1 a2
  rw [pn_ti (by omega), pn_ti (by omega)] at e
  exact e
theorem rr_e {told : Nat → Int32} (hT : TI told) {g t l : Nat} (h : g < GG told) (ht : t ≤ 24) (hl : l ≤ 9) : rchI (told 2) (told 3) (told (8 + g)) (nI t) (nI l) = nI (RR told g t l) ∧ RR told g t l ≤ 96 := by
  have e := rr_i hT h ht hl
  have hb := hT.2.2.1
  have h0 : 0 ≤ (rchI (told 2) (told 3) (told (8 + g)) (nI t) (nI l)).toInt ∧ (rchI (told 2) (told 3) (told (8 + g)) (nI t) (nI l)).toInt ≤ 96 := by
    rw [e]
    split
    · next c =>
      have := Int.ediv_nonneg (a := (told 3).toInt + l - (told (8 + g)).toInt) (b := (told 2).toInt) (by omega) (by omega)
      omega
    · omega
  exact ⟨tN_nI h0.1, tN_le (by omega)⟩
theorem rr_mono {told : Nat → Int32} (hT : TI told) : ∀ g t l t' l', t ≤ t' → t' ≤ 24 → l ≤ l' → l' ≤ 9 → g < GG told → RR told g t l ≤ RR told g t' l' := by
  intro g t l t' l' h1 h2 h3 h4 hg
  have e1 := rr_i hT hg (show t ≤ 24 by omega) (show l ≤ 9 by omega)
  have e2 := rr_i hT hg h2 h4
  have hb := hT.2.2.1
  unfold RR tN
  rw [e1, e2]
  by_cases c : (told (8 + g)).toInt ≤ (told 3).toInt + l
  · rw [if_pos c, if_pos (by omega)]
    have hd : ((told 3).toInt + l - (told (8 + g)).toInt) / (told 2).toInt ≤ ((told 3).toInt + l' - (told (8 + g)).toInt) / (told 2).toInt := Int.ediv_le_ediv (by omega) (by omega)
    omega
  · rw [if_neg c]; omega
theorem place_M {t l : Nat} (ht : t ≤ 24) (hl : l ≤ 9) : gX7_place (nI t) (nI l) = some (nI (10 * t + l)) := by
  have b1 : gX7_bound (nI t) 0 24 = some (nI t) := by
    unfold gX7_bound
    rw [if_pos (by rw [pn_le, pn_ti (by omega)]; simp only [Int32.reduceToInt]; omega), if_pos (by rw [pn_le, pn_ti (by omega)]; simp only [Int32.reduceToInt]; omega)]
  have b2 : gX7_bound (nI l) 0 9 = some (nI l) := by
    unfold gX7_bound
    rw [if_pos (by rw [pn_le, pn_ti (by omega)]; simp only [Int32.reduceToInt]; omega), if_pos (by rw [pn_le, pn_ti (by omega)]; simp only [Int32.reduceToInt]; omega)]
  unfold gX7_place
  rw [b1, wq_b1_e, b2, wq_b1_e, show (10 : Int32) = nI 10 from rfl, pk_mul, nI_add]
theorem calmT_n {told : Nat → Int32} (hT : TI told) {g t : Nat} (h : g < GG told) (ht : t ≤ 24) : calmT (nI t) (told (13 + g)) = nI (nxT (GN told) g t) := by
  obtain ⟨e, h3⟩ := GN_e hT h
  have h1 := calmT_i (t := nI t) (g := told (13 + g)) (by rw [pn_ti (by omega)]; omega) (by rw [pn_ti (by omega)]; omega) (by rw [e, pn_ti (by omega)]; omega) (by rw [e, pn_ti (by omega)]; omega)
  rw [fa_eq, h1, e, pn_ti (by omega), pn_ti (by omega), pn_ti (by unfold nxT; omega)]
  unfold nxT; omega
theorem calmL_n {l : Nat} (hl : l ≤ 9) : calmL (nI l) = nI (nxL l) := by
  have h1 := calmL_i (l := nI l) (by rw [pn_ti (by omega)]; omega) (by rw [pn_ti (by omega)]; omega)
  rw [fa_eq, h1, pn_ti (by omega), pn_ti (by unfold nxL; omega)]
  unfold nxL; omega
theorem calmly_M {told : Nat → Int32} (hT : TI told) {g t l : Nat} (h : g < GG told) (ht : t ≤ 24) (hl : l ≤ 9) : gX7_calmly told (nI g) (nI t) (nI l) = some (nI (10 * nxT (GN told) g t + nxL l)) := by
  have h5 := GG_5 hT
  obtain ⟨e, h3⟩ := GN_e hT h
  unfold gX7_calmly gX7_place
  rw [wq_chk_in (in13 (by omega) (by omega)), ix13 (by omega), bd_T (by rw [pn_ti (by omega)]; omega) (by rw [pn_ti (by omega)]; omega) (by rw [e, pn_ti (by omega)]; omega) (by rw [e, pn_ti (by omega)]; omega), wq_b1_e, bd_L (by rw [pn_ti (by omega)]; omega) (by rw [pn_ti (by omega)]; omega), wq_b1_e, wq_b1_e, calmT_n hT h ht, calmL_n hl, show (10 : Int32) = nI 10 from rfl, pk_mul, nI_add]
theorem wildly_M {t l : Nat} (ht : t ≤ 24) (hl : l ≤ 9) : gX7_wildly (nI t) (nI l) = some (nI (10 * (t - 2) + (l - 1))) := by
  have w1 : wildT (nI t) = nI (t - 2) := by
    have h1 := wildT_i (t := nI t) (by rw [pn_ti (by omega)]; omega) (by rw [pn_ti (by omega)]; omega)
    rw [fa_eq, h1, pn_ti (by omega), pn_ti (by omega)]; omega
  have w2 : wildL (nI l) = nI (l - 1) := by
    have h1 := wildL_i (l := nI l) (by rw [pn_ti (by omega)]; omega) (by rw [pn_ti (by omega)]; omega)
    rw [fa_eq, h1, pn_ti (by omega), pn_ti (by omega)]; omega
  unfold gX7_wildly gX7_place
  rw [bd_WT (by rw [pn_ti (by omega)]; omega) (by rw [pn_ti (by omega)]; omega), wq_b1_e, bd_WL (by rw [pn_ti (by omega)]; omega) (by rw [pn_ti (by omega)]; omega), wq_b1_e, wq_b1_e, w1, w2, show (10 : Int32) = nI 10 from rfl, pk_mul, nI_add]
theorem wildFrom_M {told : Nat → Int32} (hT : TI told) {g : Nat} (hg : g < 5) (a b : Int32) : ∃ w, gX7_wildFrom told (nI g) a b = some w := by
  have hz : ¬ told 2 = 0 := by intro e; have := hT.2.2.1.1; rw [e] at this; revert this; decide
  unfold gX7_wildFrom
  rw [wq_chk_in (in8 (by omega) (by omega)), wq_nz_ne hz]
  split <;> exact ⟨_, rfl⟩
def anF (p : Nat → Bool) : Nat → Nat → Bool
  | _, 0 => false
  | i, m + 1 => p i || anF p (i + 1) m
theorem anF_iff (p : Nat → Bool) : ∀ m i, anF p i m = true ↔ ∃ g, i ≤ g ∧ g < i + m ∧ p g = true
  | 0, i => ⟨(fun h => Bool.noConfusion h), (fun ⟨g, h1, h2, _⟩ => absurd h2 (by omega))⟩
  | m + 1, i => by
    rw [anF, Bool.or_eq_true, anF_iff p m (i + 1)]
    constructor
    · rintro (h | ⟨g, h1, h2, h3⟩)
      · exact ⟨i, by omega, by omega, h⟩
      · exact ⟨g, by omega, by omega, h3⟩
    · rintro ⟨g, h1, h2, h3⟩
      by_cases e : g = i
      · subst e; exact Or.inl h3
      · exact Or.inr ⟨g, by omega, by omega, h3⟩
/-- is a place nearer by g -/
def nrB (told st : Nat → Int32) (N t l g : Nat) : Bool := if N = 1 then decide (GO told ≤ RR told g t l) else (decide (1 ≤ RR told g t l) && decide (st (10 * nxT (GN told) g t + nxL l) = nI (N - 1)))
theorem nx_lt {told : Nat → Int32} {g t l : Nat} : 10 * nxT (GN told) g t + nxL l < 250 := by unfold nxT nxL; omega
theorem ne_6 {told st : Nat → Int32} (hT : TI told) {t l N : Nat} (ht : t ≤ 24) (hl : l ≤ 9) (hN : 1 ≤ N) (hN6 : N ≤ 60) (hw : 2 ≤ N → ¬ st (10 * (t - 2) + (l - 1)) = nI (N - 1)) : ∀ (m n i : Nat) (b : Bool), i + m = GG told → m < n → gX7_isNearer_L6 told st (nI t) (nI l) (nI N) n (if b = true then 1 else 0) (nI i) = some (if (b || anF (nrB told st N t l) i m) = true then 1 else 0)
  | m, 0, i, b, _, h => absurd h (by omega)
  | 0, n + 1, i, b, hi, h => by
    have h5 := GG_5 hT
    rw [gX7_isNearer_L6, GG_e hT, if_pos (by rw [pn_le, pn_ti (by omega), pn_ti (by omega)]; omega)]
    cases b
    · exact wq_z01_in (Or.inl rfl)
    · exact wq_z01_in (Or.inr rfl)
  | m + 1, n + 1, i, b, hi, h => by
    have h5 := GG_5 hT
    have hg : i < GG told := by omega
    obtain ⟨e1, e2⟩ := rr_e hT hg ht hl
    obtain ⟨o1, o2, o3⟩ := GO_e hT
    obtain ⟨w, hwf⟩ := wildFrom_M hT (show i < 5 by omega) (nI t) (nI l)
    have hge : ¬ told 0 ≤ nI i := by rw [GG_e hT, pn_le, pn_ti (by omega), pn_ti (by omega)]; omega
    have em : nI N - 1 = nI (N - 1) := pk_sub (b := 1) hN
    have step : gX7_isNearer_L6 told st (nI t) (nI l) (nI N) (n + 1) (if b = true then 1 else 0) (nI i) = gX7_isNearer_L6 told st (nI t) (nI l) (nI N) n (if (b || nrB told st N t l i) = true then 1 else 0) (nI (i + 1)) := by
      rw [gX7_isNearer_L6, if_neg hge, calmTo_M hT (by omega), wq_b1_e, e1, calmly_M hT hg ht hl, wildly_M ht hl, hwf, em, nI_1, o1]
      by_cases c1 : N = 1
      · subst c1
        have q1 : nI 1 = 1 := rfl
        have q2 : nI 1 ≤ 1 := by decide
        by_cases c2 : nI (RR told i t l) < nI (GO told)
        · have z : nrB told st 1 t l i = false := by
            unfold nrB; rw [if_pos rfl]
            rw [pn_lt, pn_ti (by omega), pn_ti (by omega)] at c2
            exact decide_eq_false (by omega)
          rw [if_pos q1, if_pos c2, if_pos q2, z, Bool.or_false]
          cases b <;> rfl
        · have z : nrB told st 1 t l i = true := by
            unfold nrB; rw [if_pos rfl]
            rw [pn_lt, pn_ti (by omega), pn_ti (by omega)] at c2
            exact decide_eq_true (by omega)
          rw [if_pos q1, if_neg c2, if_pos q2, z, Bool.or_true]
          cases b <;> rfl
      · have q1 : ¬ nI N = 1 := by rw [fa_eq, pn_ti (by omega)]; simp only [Int32.reduceToInt]; omega
        have q2 : ¬ nI N ≤ 1 := by rw [pn_le, pn_ti (by omega)]; simp only [Int32.reduceToInt]; omega
        have q3 := hw (by omega)
        have wp : 10 * (t - 2) + (l - 1) < 250 := by omega
        have np : 10 * nxT (GN told) i t + nxL l < 250 := nx_lt
        simp only [if_neg q1, if_neg q2, wq_b1_e, wq_chk_in (vp_in_nI wp (by omega)), wq_chk_in (vp_in_nI np (by omega)), pn_cl (show 10 * (t - 2) + (l - 1) < 2147483648 by omega), pn_cl (show 10 * nxT (GN told) i t + nxL l < 2147483648 by omega), if_neg q3, ite_self]
        unfold nrB
        rw [if_neg c1]
        by_cases c2 : nI (RR told i t l) ≤ 0
        · have z : ¬ 1 ≤ RR told i t l := by rw [pn_le, pn_ti (by omega)] at c2; simp only [Int32.reduceToInt] at c2; omega
          rw [if_pos c2, decide_eq_false z, Bool.false_and, Bool.or_false]
          cases b <;> rfl
        · have z : 1 ≤ RR told i t l := by rw [pn_le, pn_ti (by omega)] at c2; simp only [Int32.reduceToInt] at c2; omega
          rw [if_neg c2, decide_eq_true z, Bool.true_and]
          by_cases c3 : st (10 * nxT (GN told) i t + nxL l) = nI (N - 1)
          · rw [if_pos c3, decide_eq_true c3, Bool.or_true]
            cases b <;> rfl
          · rw [if_neg c3, decide_eq_false c3, Bool.or_false]
            cases b <;> rfl
    rw [step, ne_6 hT ht hl hN hN6 hw m n (i + 1) _ (by omega) (by omega), anF, Bool.or_assoc]
theorem near_M {told st : Nat → Int32} (hT : TI told) {t l N : Nat} (ht : t ≤ 24) (hl : l ≤ 9) (hN : 1 ≤ N) (hN6 : N ≤ 60) (hw : 2 ≤ N → ¬ st (10 * (t - 2) + (l - 1)) = nI (N - 1)) : gX7_isNearer told st (nI t) (nI l) (nI N) = some (if anF (nrB told st N t l) 0 (GG told) = true then 1 else 0) := by
  have h5 := GG_5 hT
  have z := ne_6 hT ht hl hN hN6 hw (GG told) 1000 0 false (by omega) (by omega)
  rw [Bool.false_or] at z
  exact z
