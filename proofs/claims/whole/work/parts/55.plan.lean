/-! the pure layer: plan -/
def flB (p : Nat → Bool) (v : Nat → Int32) : Nat → Int32 → Int32
  | 0, x => x
  | i + 1, x => flB p v i (if p i = true then v i else x)
theorem fl_none {p : Nat → Bool} {v : Nat → Int32} : ∀ i x, (∀ g, g < i → p g = false) → flB p v i x = x
  | 0, x, _ => rfl
  | i + 1, x, h => by rw [flB, h i (by omega), if_neg (by decide)]; exact fl_none i x (fun g hg => h g (by omega))
theorem fl_low {p : Nat → Bool} {v : Nat → Int32} {k : Nat} (hp : p k = true) (hn : ∀ g, g < k → p g = false) : ∀ i x, k < i → flB p v i x = v k
  | 0, x, h => absurd h (by omega)
  | i + 1, x, h => by
    rw [flB]
    by_cases e : k = i
    · subst e; rw [hp, if_pos rfl]; exact fl_none k _ hn
    · exact fl_low hp hn i _ (by omega)
theorem sub1 (i : Nat) : nI i + (-1) = nI i - 1 := by rw [Int32.sub_eq_add_neg]
theorem suc1 (i : Nat) : nI (i + 1) - 1 = nI i := pk_sub (b := 1) (by omega)
def lnN (told : Nat → Int32) (N : Nat) : Nat := if N = 1 then GO told else 1
theorem ff_14 {told st : Nat → Int32} (hT : TI told) {t l N : Nat} (ht : t ≤ 24) (hl : l ≤ 9) (hN : 1 ≤ N) (hN6 : N ≤ 60) (hw : 2 ≤ N → ¬ st (10 * (t - 2) + (l - 1)) = nI (N - 1)) : ∀ (i n : Nat) (x : Int32), i ≤ GG told → i < n → gX7_firstFrom_L14 told st (nI t) (nI l) (nI N) n x (nI i - 1) = some (flB (nrB told st N t l) (fun g => nI (100 * g + lnN told N)) i x)
  | i, 0, x, _, h => absurd h (by omega)
  | 0, n + 1, x, _, h => by rw [gX7_firstFrom_L14, if_pos (by decide)]; rfl
  | i + 1, n + 1, x, hi, h => by
    have h5 := GG_5 hT
    have hg : i < GG told := by omega
    obtain ⟨e1, e2⟩ := rr_e hT hg ht hl
    obtain ⟨o1, o2, o3⟩ := GO_e hT
    obtain ⟨w, hwf⟩ := wildFrom_M hT (show i < 5 by omega) (nI t) (nI l)
    have em : nI N - 1 = nI (N - 1) := pk_sub (b := 1) hN
    have step : gX7_firstFrom_L14 told st (nI t) (nI l) (nI N) (n + 1) x (nI i) = gX7_firstFrom_L14 told st (nI t) (nI l) (nI N) n (if nrB told st N t l i = true then nI (100 * i + lnN told N) else x) (nI i - 1) := by
      rw [gX7_firstFrom_L14, if_neg (by rw [pn_lt, pn_ti (by omega)]; simp only [Int32.reduceToInt]; omega), calmTo_M hT (by omega), wq_b1_e, e1, hwf, wq_b1_e, calmly_M hT hg ht hl, wildly_M ht hl, em, o1, sub1, show (100 : Int32) = nI 100 from rfl, pk_mul, nI_add]
      by_cases c1 : N = 1
      · subst c1
        rw [if_pos (show nI 1 = 1 from rfl)]
        unfold nrB lnN
        rw [if_pos rfl, if_pos rfl]
        by_cases c2 : nI (RR told i t l) < nI (GO told)
        · have z : ¬ GO told ≤ RR told i t l := by rw [pn_lt, pn_ti (by omega), pn_ti (by omega)] at c2; omega
          rw [if_pos c2, decide_eq_false z, if_neg (by decide)]
        · have z : GO told ≤ RR told i t l := by rw [pn_lt, pn_ti (by omega), pn_ti (by omega)] at c2; omega
          rw [if_neg c2, decide_eq_true z, if_pos rfl]
      · have q1 : ¬ nI N = 1 := by rw [fa_eq, pn_ti (by omega)]; simp only [Int32.reduceToInt]; omega
        have q3 := hw (by omega)
        have wp : 10 * (t - 2) + (l - 1) < 250 := by omega
        have np : 10 * nxT (GN told) i t + nxL l < 250 := nx_lt
        simp only [if_neg q1, wq_b1_e, wq_chk_in (vp_in_nI wp (by omega)), wq_chk_in (vp_in_nI np (by omega)), pn_cl (show 10 * (t - 2) + (l - 1) < 2147483648 by omega), pn_cl (show 10 * nxT (GN told) i t + nxL l < 2147483648 by omega), if_neg q3, ite_self]
        unfold nrB lnN
        rw [if_neg c1, if_neg c1]
        by_cases c2 : nI (RR told i t l) ≤ 0
        · have z : ¬ 1 ≤ RR told i t l := by rw [pn_le, pn_ti (by omega)] at c2; simp only [Int32.reduceToInt] at c2; omega
          rw [if_pos c2, decide_eq_false z, Bool.false_and, if_neg (by decide)]
        · have z : 1 ≤ RR told i t l := by rw [pn_le, pn_ti (by omega)] at c2; simp only [Int32.reduceToInt] at c2; omega
          rw [if_neg c2, decide_eq_true z, Bool.true_and]
          by_cases c3 : st (10 * nxT (GN told) i t + nxL l) = nI (N - 1)
          · rw [if_pos c3, decide_eq_true c3, if_pos rfl, nI_1]
          · rw [if_neg c3, decide_eq_false c3, if_neg (by decide)]
    rw [suc1, step, flB]
    exact ff_14 hT ht hl hN hN6 hw i n _ (by omega) (by omega)
theorem SN_eq {told st rw : Nat → Int32} {n N t l : Nat} (h : SN told n st rw) (hN : 2 ≤ N) (hn : N ≤ n + 1) (hN6 : N ≤ 60) (ht : t ≤ 24) (hl : l ≤ 9) : st (10 * t + l) = nI (N - 1) ↔ dsT told t l = N - 1 := by
  have h34 := dsT_le told t l
  rw [(h t l ht hl).1]
  show nI (cutN n (dsT told t l)) = _ ↔ _
  generalize dsT told t l = d at *
  unfold cutN
  rw [nI_eq (by (repeat' split) <;> omega) (by omega)]
  (repeat' split) <;> omega
theorem ovT_iff {told : Nat → Int32} {t l g n : Nat} (ht : t ≤ 24) (hl : l ≤ 9) (hg : g < GG told) (hd : dsT told t l = n + 2) : ovT told t l g = n + 2 ↔ (1 ≤ RR told g t l ∧ dsT told (nxT (GN told) g t) (nxL l) = n + 1) := ov_iff ht hl hg hd
theorem nr_ov {told st rw : Nat → Int32} {n N t l g : Nat} (h : SN told n st rw) (hN : 1 ≤ N) (hn : N ≤ n + 1) (ht : t ≤ 24) (hl : l ≤ 9) (hg : g < GG told) (hd : dsT told t l = N) : nrB told st N t l g = true ↔ ovT told t l g = N := by
  have h34 := dsT_le told t l
  have ht2 : nxT (GN told) g t ≤ 24 := by unfold nxT; omega
  have hl2 : nxL l ≤ 9 := by unfold nxL; omega
  unfold nrB
  by_cases c : N = 1
  · subst c
    rw [if_pos rfl, decide_eq_true_iff, ovT_e]
    (repeat' split) <;> omega
  · obtain ⟨k, rfl⟩ : ∃ k, N = k + 2 := ⟨N - 2, by omega⟩
    rw [if_neg c, Bool.and_eq_true, decide_eq_true_iff, decide_eq_true_iff, SN_eq h (by omega) hn (by omega) ht2 hl2, ovT_iff ht hl hg hd, show k + 2 - 1 = k + 1 by omega]
/-- the first goodbye of a plan -/
def koT (told : Nat → Int32) (t l : Nat) : Nat := koN (ovT told t l) (GG told)
theorem ko_spec {told : Nat → Int32} {t l : Nat} (ht : t ≤ 24) (hl : l ≤ 9) (hz : dsT told t l ≠ 0) : koT told t l < GG told ∧ ovT told t l (koT told t l) = dsT told t l ∧ ∀ g, g < koT told t l → ovT told t l g ≠ dsT told t l := by
  have em : moN (ovT told t l) (GG told) = dsT told t l := mo_dst ht hl
  have h := ((mo_spec (ovT told t l) (GG told)).2 (by rw [em]; exact hz)).1
  rw [em] at h
  exact h
theorem first_M {told st rw : Nat → Int32} (hT : TI told) {n t l : Nat} (h : SN told n st rw) (ht : t ≤ 24) (hl : l ≤ 9) (hz : dsT told t l ≠ 0) (hn : dsT told t l ≤ n + 1) : gX7_firstFrom told st (nI t) (nI l) (nI (dsT told t l)) = some (nI (100 * koT told t l + lnN told (dsT told t l))) := by
  have h34 := dsT_le told t l
  obtain ⟨k1, k2, k3⟩ := ko_spec ht hl hz
  have hw : 2 ≤ dsT told t l → ¬ st (10 * (t - 2) + (l - 1)) = nI (dsT told t l - 1) := by
    intro h2 e
    rw [SN_eq h h2 hn (by omega) (by omega) (by omega)] at e
    have hm : dsT told t l ≠ 0 ∧ dsT told t l ≤ dsT told (t - 2) (l - 1) := dst_mono (gn := GN told) (goal := GO told) (rr_mono hT) (t := t - 2) (l := l - 1) (t' := t) (l' := l) (by omega) ht (by omega) hl (fun z => by have z' : dsT told (t - 2) (l - 1) = 0 := z; omega)
    omega
  unfold gX7_firstFrom
  rw [GG_e hT, ff_14 hT ht hl (by omega) (by omega) hw (GG told) 1000 (-9) (Nat.le_refl _) (by have := GG_5 hT; omega)]
  rw [fl_low (k := koT told t l) ((nr_ov h (by omega) hn ht hl k1 rfl).mpr k2) (fun g hg => by
    cases hb : nrB told st (dsT told t l) t l g
    · rfl
    · exact absurd ((nr_ov h (by omega) hn ht hl (by omega) rfl).mp hb) (k3 g hg)) (GG told) (-9) k1]
theorem ln_spec {told : Nat → Int32} (hT : TI told) {t l : Nat} (ht : t ≤ 24) (hl : l ≤ 9) (hz : dsT told t l ≠ 0) : 1 ≤ lnN told (dsT told t l) ∧ lnN told (dsT told t l) ≤ 96 ∧ lnN told (dsT told t l) ≤ RR told (koT told t l) t l ∧ (2 ≤ dsT told t l → dsT told (nxT (GN told) (koT told t l) t) (nxL l) = dsT told t l - 1) := by
  obtain ⟨o1, o2, o3⟩ := GO_e hT
  obtain ⟨k1, k2, k3⟩ := ko_spec ht hl hz
  unfold lnN
  by_cases c : dsT told t l = 1
  · rw [if_pos c]
    refine ⟨o2, o3, ?_, fun z => by omega⟩
    rw [c, ovT_e] at k2
    by_cases d : GO told ≤ RR told (koT told t l) t l
    · exact d
    · rw [if_neg d] at k2
      split at k2 <;> omega
  · rw [if_neg c]
    obtain ⟨k, hk⟩ : ∃ k, dsT told t l = k + 2 := ⟨dsT told t l - 2, by omega⟩
    rw [hk] at k2
    have := (ovT_iff ht hl k1 hk).mp k2
    exact ⟨by omega, by omega, this.1, fun _ => by rw [this.2, hk]; omega⟩
/-- a step of the reference's plan -/
theorem pl_step {told st rw : Nat → Int32} (hT : TI told) {n0 t l D i n : Nat} (h : SN told n0 st rw) (hD : D ≤ n0) (hD6 : D ≤ 60) (ht : t ≤ 24) (hl : l ≤ 9) (hi : i < D) (hd : dsT told t l = D - i) {a2 x6 : Int32} (ha : ¬ a2 < nI i) : gX7_plan_L63 told st rw a2 (nI D) (n + 1) (nI t) (nI l) x6 (nI i) = gX7_plan_L63 told st rw a2 (nI D) n (nI (nxT (GN told) (koT told t l) t)) (nI (nxL l)) (nI (100 * koT told t l + lnN told (D - i))) (nI (i + 1)) := by
  have h5 := GG_5 hT
  have hz : dsT told t l ≠ 0 := by omega
  obtain ⟨k1, -, -⟩ := ko_spec ht hl hz
  obtain ⟨e1, e2⟩ := rr_e hT k1 ht hl
  obtain ⟨m1, m2, m3, -⟩ := ln_spec hT ht hl hz
  have hf := first_M hT h ht hl hz (by omega)
  rw [hd] at hf m1 m2 m3
  have np : 10 * nxT (GN told) (koT told t l) t + nxL l < 250 := nx_lt
  have nl : nxL l ≤ 9 := by unfold nxL; omega
  have d1 : nI (100 * koT told t l + lnN told (D - i)) / 100 = nI (koT told t l) := by
    rw [show (100 : Int32) = nI 100 from rfl, pk_div (by omega) (by omega) (by omega), show (100 * koT told t l + lnN told (D - i)) / 100 = koT told t l by omega]
  have d2 : nI (100 * koT told t l + lnN told (D - i)) - nI (koT told t l) * 100 = nI (lnN told (D - i)) := by
    rw [show (100 : Int32) = nI 100 from rfl, pk_mul, pk_sub (by omega), show 100 * koT told t l + lnN told (D - i) - koT told t l * 100 = lnN told (D - i) by omega]
  have d3 : nI (10 * nxT (GN told) (koT told t l) t + nxL l) / 10 = nI (nxT (GN told) (koT told t l) t) := by
    rw [show (10 : Int32) = nI 10 from rfl, pk_div (by omega) (by omega) (by omega), show (10 * nxT (GN told) (koT told t l) t + nxL l) / 10 = nxT (GN told) (koT told t l) t by omega]
  have d4 : nI (10 * nxT (GN told) (koT told t l) t + nxL l) - nI (nxT (GN told) (koT told t l) t) * 10 = nI (nxL l) := by
    rw [show (10 : Int32) = nI 10 from rfl, pk_mul, pk_sub (by omega), show 10 * nxT (GN told) (koT told t l) t + nxL l - nxT (GN told) (koT told t l) t * 10 = nxL l by omega]
  rw [gX7_plan_L63, if_neg ha, if_neg (by rw [pn_le, pn_ti (by omega), pn_ti (by omega)]; omega), pk_sub (by omega), hf, wq_b1_e, d1, d2, calmTo_M hT (by omega), wq_b1_e, e1, if_neg (by rw [pn_lt, pn_ti (by omega), pn_ti (by omega)]; omega), calmly_M hT k1 ht hl, wq_b1_e, d3, d4, nI_1]
theorem pl_far {told st rw : Nat → Int32} (hT : TI told) {n0 D : Nat} (h : SN told n0 st rw) (hD : D ≤ n0) (hD6 : D ≤ 60) {a2 : Int32} (ha : (D : Int) ≤ a2.toInt) : ∀ (m n i t l : Nat) (x6 : Int32), i + m = D → m < n → t ≤ 24 → l ≤ 9 → (m ≠ 0 → dsT told t l = m) → gX7_plan_L63 told st rw a2 (nI D) n (nI t) (nI l) x6 (nI i) = some (-5, st, rw)
  | m, 0, i, t, l, x6, _, hh, _, _, _ => absurd hh (by omega)
  | 0, n + 1, i, t, l, x6, hi, hh, ht, hl, hd => by
    rw [gX7_plan_L63, if_neg (by rw [pn_lt, pn_ti (by omega)]; omega), if_pos (by rw [pn_le, pn_ti (by omega), pn_ti (by omega)]; omega), if_pos (by rw [pn_le, pn_ti (by omega)]; omega)]
  | m + 1, n + 1, i, t, l, x6, hi, hh, ht, hl, hd => by
    have hd' := hd (by omega)
    rw [pl_step hT h hD hD6 ht hl (by omega) (by omega) (by rw [pn_lt, pn_ti (by omega)]; omega)]
    exact pl_far hT h hD hD6 ha m n (i + 1) _ _ _ (by omega) (by omega) (by unfold nxT; omega) (by unfold nxL; omega) (fun z => by rw [(ln_spec hT ht hl (by omega)).2.2.2 (by omega), hd']; omega)
section PN
variable {n_likings : Nat → Int32} {n_day n_trust n_ill n_done : Int32} {m_s : Nat → Int32} {t_tears t_gains t_settings : Nat → Int32} {t_goodbyes t_women : Int32} {m_told : Nat → Int32} {o_fewest o_rows o_first : Nat → Int32} {o_stands : Int32}
theorem pl_both (hT : RT t_tears t_gains t_settings t_goodbyes t_women m_told) {st rw f r w : Nat → Int32} {n0 D A : Nat} (h : SN m_told n0 st rw) (hO : OI m_told 0 f r w) (hD : D ≤ n0) (hD6 : D ≤ 60) (hA : A < D) : ∀ (m n n2 i t l : Nat) (x6 : Int32), i + m = A → t ≤ 24 → l ≤ 9 → dsT m_told t l = D - i → ∃ V, gX7_plan_L63 m_told st rw (nI A) (nI D) (n + m + 2) (nI t) (nI l) x6 (nI i) = some (V, st, rw) ∧ gX1_morningAt_L16 f w t_gains t_settings t_goodbyes (nI A) (n2 + m + 1) (nI (10 * t + l)) (nI t) (nI l) (nI i) = some V := by
  intro m
  induction m with
  | zero =>
    intro n n2 i t l x6 hi ht hl hd
    have h5 := GG_5 hT.1
    have hz : dsT m_told t l ≠ 0 := by omega
    obtain ⟨k1, -, -⟩ := ko_spec ht hl hz
    obtain ⟨p1, -, p3⟩ := hO t l ht hl (by omega)
    have p4 : w (10 * t + l) = nI (koT m_told t l) := p3 hz
    rw [show n + 0 + 2 = n + 1 + 1 from rfl, show n2 + 0 + 1 = n2 + 1 from rfl, pl_step hT.1 h hD hD6 ht hl (by omega) hd (by rw [pn_lt, pn_ti (by omega), pn_ti (by omega)]; omega), gX7_plan_L63, if_pos (by rw [pn_lt, pn_ti (by omega), pn_ti (by omega)]; omega), if_neg (by rw [pn_le, pn_ti (by omega), pn_ti (by omega)]; omega)]
    refine ⟨_, rfl, ?_⟩
    rw [gX1_morningAt_L16, if_pos (by rw [pn_le, pn_ti (by omega), pn_ti (by omega)]; omega), isPl_C (by omega), wq_b1_e, if_neg (by decide), wq_chk_in (vp_in_nI (by omega) (by omega)), pn_cl (by omega), p1, p4, set3, wq_b1_e, hT.2.2.2.1.2.2.2, (GO_e hT.1).1, hd, show (100 : Int32) = nI 100 from rfl, pk_mul, nI_add, nI_1]
    unfold lnN
    by_cases c : D - i = 1
    · rw [if_pos (show nI (D - i) = 1 from congrArg nI c), if_pos c]
    · rw [if_neg (show ¬ nI (D - i) = 1 from fun z => c ((nI_eq (b := 1) (by omega) (by omega)).mp z)), if_neg c]
  | succ m ih =>
    intro n n2 i t l x6 hi ht hl hd
    have h5 := GG_5 hT.1
    have hz : dsT m_told t l ≠ 0 := by omega
    obtain ⟨k1, -, -⟩ := ko_spec ht hl hz
    obtain ⟨-, -, p3⟩ := hO t l ht hl (by omega)
    have p4 : w (10 * t + l) = nI (koT m_told t l) := p3 hz
    rw [show n + (m + 1) + 2 = n + m + 2 + 1 by omega, show n2 + (m + 1) + 1 = n2 + m + 1 + 1 by omega, pl_step hT.1 h hD hD6 ht hl (by omega) hd (by rw [pn_lt, pn_ti (by omega), pn_ti (by omega)]; omega)]
    rw [gX1_morningAt_L16, if_neg (by rw [pn_le, pn_ti (by omega), pn_ti (by omega)]; omega), isPl_C (by omega), wq_b1_e, if_neg (by decide), wq_chk_in (vp_in_nI (by omega) (by omega)), pn_cl (by omega), p4, calmerT_C hT (by omega) (GG_lt hT.1 k1), wq_b1_e, calmerL_C, wq_b1_e, calmT_n hT.1 k1 ht, calmL_n hl, placeC, wq_b1_e, nI_1]
    exact ih n n2 (i + 1) _ _ _ (by omega) (by unfold nxT; omega) (by unfold nxL; omega) (by rw [(ln_spec hT.1 ht hl hz).2.2.2 (by omega), hd]; omega)
theorem P_plan (hT : RT t_tears t_gains t_settings t_goodbyes t_women m_told) (hN : RN n_likings n_day n_trust n_ill n_done m_s) (hO : RO o_fewest o_rows o_first o_stands m_told) (m_steps m_rows : Nat → Int32) (a1 a2 : Int32) : ∃ r f2 r2 w2 s2 st2 rw2, gX6_plan n_likings n_trust o_fewest o_rows o_first o_stands t_tears t_gains t_settings t_goodbyes t_women a1 a2 = some (r, f2, r2, w2, s2) ∧ gX7_plan m_told m_s m_steps m_rows a1 a2 = some (r, st2, rw2) ∧ RO f2 r2 w2 s2 m_told := by
  have hw4 := hT.1.2.1
  obtain ⟨hI, e0, e1, e2, e3, hl⟩ := id hN
  unfold gX6_plan gX7_plan
  rw [hT.2.2.1, hasW_C hw4.2, hasW_M hw4.1, wq_b1_e, wq_b1_e]
  by_cases c : hasB (m_told 1) a1 = 0
  · rw [if_pos c, if_pos c]; exact ⟨_, _, _, _, _, _, _, rfl, rfl, hO⟩
  · obtain ⟨j, hj5, rfl, -, hj⟩ := hasB_1 c (by omega)
    rw [if_neg c, if_neg c]
    by_cases ca : -1 ≤ a2
    rotate_left
    · rw [if_neg ca, if_neg ca]; exact ⟨_, _, _, _, _, _, _, rfl, rfl, hO⟩
    rw [if_pos ca, if_pos ca]
    obtain ⟨T, L, hTT, hL, q1, q2⟩ := TL_N (j := j) ⟨hI.2.1, hI.2.2.2.2⟩ (by omega)
    obtain ⟨f2, r2, w2, e, hO2⟩ := look_C hT hO
    obtain ⟨st2, rw2, er, hS⟩ := reck_M hT.1 hTT hL m_steps m_rows
    obtain ⟨p1, -, -⟩ := hO2 T L hTT hL (by omega)
    have h34 := dsT_le m_told T L
    rw [e, wq_b4_e, liking_C (by omega), wq_b1_e, hl j (by omega), e1, ix4 (by omega), q1, q2, fewF_C hTT hL, wq_b1_e, wq_chk_in (in4 (by omega) (by omega)), er, wq_b3_e, p1]
    by_cases d : dsT m_told T L = 0
    · rw [if_pos ((dsI_9 _ _ _).mpr d), (dsI_9 _ _ _).mpr d, if_neg (by rw [d]; decide)]
      exact ⟨_, _, _, _, _, _, _, rfl, rfl, Or.inr ⟨rfl, hO2⟩⟩
    · unfold dsR at hS
      rw [if_neg d] at hS
      rw [if_neg (fun z => d ((dsI_9 _ _ _).mp z)), if_pos (by rw [pn_le, pn_ti (by omega)]; simp only [Int32.reduceToInt]; omega)]
      unfold dsI
      rw [if_neg d]
      by_cases cb : a2 = -1
      · rw [if_pos cb, if_pos cb]
        exact ⟨_, _, _, _, _, _, _, rfl, rfl, Or.inr ⟨rfl, hO2⟩⟩
      · rw [if_neg cb, if_neg cb]
        have ha0 : 0 ≤ a2.toInt := by
          rw [pn_le, show ((-1 : Int32)).toInt = -1 by decide] at ca
          have : a2.toInt ≠ -1 := fun z => cb (by rw [fa_eq, z]; decide)
          omega
        by_cases cd : a2 < nI (dsT m_told T L)
        · rw [if_pos cd]
          rw [pn_lt, pn_ti (by omega)] at cd
          obtain ⟨A, hA, rfl, -⟩ := pn_nI (N := dsT m_told T L) ha0 cd
          obtain ⟨V, v1, v2⟩ := pl_both hT hS hO2 (Nat.le_refl _) (by omega) hA A (998 - A) (999 - A) 0 T L (-5) (by omega) hTT hL (by omega)
          rw [show 998 - A + A + 2 = 1000 by omega] at v1
          rw [show 999 - A + A + 1 = 1000 by omega] at v2
          unfold gX1_morningAt
          rw [wq_b1_e, placeC, wq_b1_e, show (0 : Int32) = nI 0 from rfl, v1, v2, wq_b1_e]
          exact ⟨_, _, _, _, _, _, _, rfl, rfl, Or.inr ⟨rfl, hO2⟩⟩
        · rw [if_neg cd]
          rw [pn_lt, pn_ti (by omega)] at cd
          rw [show (0 : Int32) = nI 0 from rfl, pl_far hT.1 hS (Nat.le_refl _) (by omega) (by omega) (dsT m_told T L) 1000 0 T L (-5) (by omega) (by omega) hTT hL (fun _ => rfl)]
          exact ⟨_, _, _, _, _, _, _, rfl, rfl, Or.inr ⟨rfl, hO2⟩⟩
end PN
