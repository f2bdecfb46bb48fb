/-! the pure layer: morning, home, falls, undo, keep, back -/
def calmT (t g : Int32) : Int32 := if (t + g) < 24 then (t + g) else 24
def wildT (t : Int32) : Int32 := if 0 < (t - 2) then (t - 2) else 0
def calmL (l : Int32) : Int32 := if (l + 1) < 9 then (l + 1) else 9
def wildL (l : Int32) : Int32 := if 0 < (l - 1) then (l - 1) else 0
def trA (calm wild m t g : Int32) : Int32 := if calm < m then (if m < wild then t else wildT t) else calmT t g
def lkA (calm wild m l : Int32) : Int32 := if calm < m then (if m < wild then l else wildL l) else calmL l
theorem bd_T {t g : Int32} (h0 : 0 ≤ t.toInt) (h1 : t.toInt ≤ 24) (g0 : 0 ≤ g.toInt) (g3 : g.toInt ≤ 3) : gX7_bound (t + g) 0 24 = some (calmT t g) := by
  have e : (t + g).toInt = t.toInt + g.toInt := fb_addI (by omega) (by omega)
  unfold gX7_bound calmT
  simp only [pn_lt, pn_le, e, Int32.reduceToInt]
  (repeat' split) <;> first | rfl | (exfalso; omega) | (refine congrArg some ?_; rw [fa_eq, e]; simp only [Int32.reduceToInt]; omega)
theorem bd_WT {t : Int32} (h0 : 0 ≤ t.toInt) (h1 : t.toInt ≤ 24) : gX7_bound (t - 2) 0 24 = some (wildT t) := by
  have e : (t - 2).toInt = t.toInt - 2 := fb_subI (y := 2) (by show _ ≤ t.toInt - 2; omega) (by show t.toInt - 2 < _; omega)
  unfold gX7_bound wildT
  simp only [pn_lt, pn_le, e, Int32.reduceToInt]
  (repeat' split) <;> first | rfl | (exfalso; omega) | (refine congrArg some ?_; rw [fa_eq, e]; simp only [Int32.reduceToInt]; omega)
theorem bd_L {l : Int32} (h0 : 0 ≤ l.toInt) (h1 : l.toInt ≤ 9) : gX7_bound (l + 1) 0 9 = some (calmL l) := by
  have e : (l + 1).toInt = l.toInt + 1 := fb_addI (y := 1) (by show _ ≤ l.toInt + 1; omega) (by show l.toInt + 1 < _; omega)
  unfold gX7_bound calmL
  simp only [pn_lt, pn_le, e, Int32.reduceToInt]
  (repeat' split) <;> first | rfl | (exfalso; omega) | (refine congrArg some ?_; rw [fa_eq, e]; simp only [Int32.reduceToInt]; omega)
theorem bd_WL {l : Int32} (h0 : 0 ≤ l.toInt) (h1 : l.toInt ≤ 9) : gX7_bound (l - 1) 0 9 = some (wildL l) := by
  have e : (l - 1).toInt = l.toInt - 1 := fb_subI (y := 1) (by show _ ≤ l.toInt - 1; omega) (by show l.toInt - 1 < _; omega)
  unfold gX7_bound wildL
  simp only [pn_lt, pn_le, e, Int32.reduceToInt]
  (repeat' split) <;> first | rfl | (exfalso; omega) | (refine congrArg some ?_; rw [fa_eq, e]; simp only [Int32.reduceToInt]; omega)
theorem calmT_i {t g : Int32} (h0 : 0 ≤ t.toInt) (h1 : t.toInt ≤ 24) (g0 : 0 ≤ g.toInt) (g3 : g.toInt ≤ 3) : (calmT t g).toInt = min 24 (t.toInt + g.toInt) := by
  have e : (t + g).toInt = t.toInt + g.toInt := fb_addI (by omega) (by omega)
  unfold calmT
  by_cases c : (t + g) < 24
  · rw [if_pos c, e]; rw [pn_lt, e] at c; simp only [Int32.reduceToInt] at c; omega
  · rw [if_neg c]; rw [pn_lt, e] at c; simp only [Int32.reduceToInt] at c ⊢; omega
theorem calmL_i {l : Int32} (h0 : 0 ≤ l.toInt) (h1 : l.toInt ≤ 9) : (calmL l).toInt = min 9 (l.toInt + 1) := by
  have e : (l + 1).toInt = l.toInt + 1 := fb_addI (y := 1) (by show _ ≤ l.toInt + 1; omega) (by show l.toInt + 1 < _; omega)
  unfold calmL
  by_cases c : (l + 1) < 9
  · rw [if_pos c, e]; rw [pn_lt, e] at c; simp only [Int32.reduceToInt] at c; omega
  · rw [if_neg c]; rw [pn_lt, e] at c; simp only [Int32.reduceToInt] at c ⊢; omega
theorem wildT_i {t : Int32} (h0 : 0 ≤ t.toInt) (h1 : t.toInt ≤ 24) : (wildT t).toInt = max 0 (t.toInt - 2) := by
  have e : (t - 2).toInt = t.toInt - 2 := fb_subI (y := 2) (by show _ ≤ t.toInt - 2; omega) (by show t.toInt - 2 < _; omega)
  unfold wildT
  by_cases c : 0 < (t - 2)
  · rw [if_pos c, e]; rw [pn_lt, e] at c; simp only [Int32.reduceToInt] at c; omega
  · rw [if_neg c]; rw [pn_lt, e] at c; simp only [Int32.reduceToInt] at c ⊢; omega
theorem wildL_i {l : Int32} (h0 : 0 ≤ l.toInt) (h1 : l.toInt ≤ 9) : (wildL l).toInt = max 0 (l.toInt - 1) := by
  have e : (l - 1).toInt = l.toInt - 1 := fb_subI (y := 1) (by show _ ≤ l.toInt - 1; omega) (by show l.toInt - 1 < _; omega)
  unfold wildL
  by_cases c : 0 < (l - 1)
  · rw [if_pos c, e]; rw [pn_lt, e] at c; simp only [Int32.reduceToInt] at c; omega
  · rw [if_neg c]; rw [pn_lt, e] at c; simp only [Int32.reduceToInt] at c ⊢; omega
theorem trA_r {calm wild m t g : Int32} (h0 : 0 ≤ t.toInt) (h1 : t.toInt ≤ 24) (g0 : 0 ≤ g.toInt) (g3 : g.toInt ≤ 3) : 0 ≤ (trA calm wild m t g).toInt ∧ (trA calm wild m t g).toInt ≤ 24 := by
  have e1 := calmT_i h0 h1 g0 g3
  have e2 := wildT_i h0 h1
  unfold trA
  (repeat' split) <;> omega
theorem lkA_r {calm wild m l : Int32} (h0 : 0 ≤ l.toInt) (h1 : l.toInt ≤ 9) : 0 ≤ (lkA calm wild m l).toInt ∧ (lkA calm wild m l).toInt ≤ 9 := by
  have e1 := calmL_i h0 h1
  have e2 := wildL_i h0 h1
  unfold lkA
  (repeat' split) <;> omega
def NJ (s : Nat → Int32) : Prop := (0 ≤ (s 1).toInt ∧ (s 1).toInt ≤ 24) ∧ ∀ k : Nat, k < 4 → 0 ≤ (s (4 + k)).toInt ∧ (s (4 + k)).toInt ≤ 9
section DY
variable {t_tears t_gains t_settings : Nat → Int32} {t_goodbyes t_women : Int32} {m_told : Nat → Int32} {n_likings : Nat → Int32} {n_day n_trust n_ill n_done : Int32} {m_s : Nat → Int32} {p_befores : Nat → Int64} {p_known m_known : Int32} {m_past : Nat → Int32}
theorem calm_C (hT : RT t_tears t_gains t_settings t_goodbyes t_women m_told) (m : Int32) : gX5_isCalm t_settings m = some (if m_told 3 < m then 0 else 1) := by
  obtain ⟨-, e1, e2, ⟨s0, s1, s2, s3⟩, ht⟩ := hT
  unfold gX5_isCalm
  rw [set1, wq_b1_e, s1]
  split <;> rfl
theorem wild_C (hT : RT t_tears t_gains t_settings t_goodbyes t_women m_told) (m : Int32) : gX5_isWild t_settings m = some (if m < m_told 4 then 0 else 1) := by
  obtain ⟨-, e1, e2, ⟨s0, s1, s2, s3⟩, ht⟩ := hT
  unfold gX5_isWild
  rw [set2, wq_b1_e, s2]
  split <;> rfl
theorem calmerT_C (hT : RT t_tears t_gains t_settings t_goodbyes t_women m_told) {k : Nat} (hk : k < 5) (h : (k : Int) < (m_told 0).toInt) (t : Int32) : gX5_calmerTrust t_gains t_goodbyes (nI k) t = some (calmT t (m_told (13 + k))) := by
  obtain ⟨⟨⟨g0, g5⟩, -⟩, e1, e2, -, ht⟩ := hT
  unfold gX5_calmerTrust calmT
  rw [e1, gain_C hk h g5, wq_b1_e, (ht k h).2]
theorem trustAfter_C (hT : RT t_tears t_gains t_settings t_goodbyes t_women m_told) {k : Nat} (hk : k < 5) (h : (k : Int) < (m_told 0).toInt) (t m : Int32) : gX5_trustAfter t_gains t_settings t_goodbyes (nI k) t m = some (trA (m_told 3) (m_told 4) m t (m_told (13 + k))) := by
  unfold gX5_trustAfter trA
  rw [calm_C hT, wq_b1_e, wild_C hT, wq_b1_e, calmerT_C hT hk h, wq_b1_e]
  by_cases c : m_told 3 < m
  · rw [if_pos c, if_pos rfl, if_pos c]
    by_cases c2 : m < m_told 4
    · rw [if_pos c2, if_pos rfl, if_pos c2]
    · rw [if_neg c2, if_neg (by decide), if_neg c2]; rfl
  · rw [if_neg c, if_neg (by decide), if_neg c]
theorem likingAfter_C (hT : RT t_tears t_gains t_settings t_goodbyes t_women m_told) (l m : Int32) : gX5_likingAfter t_settings l m = some (lkA (m_told 3) (m_told 4) m l) := by
  unfold gX5_likingAfter lkA gX5_calmerLiking
  rw [calm_C hT, wq_b1_e, wild_C hT, wq_b1_e, wq_b1_e]
  by_cases c : m_told 3 < m
  · rw [if_pos c, if_pos rfl, if_pos c]
    by_cases c2 : m < m_told 4
    · rw [if_pos c2, if_pos rfl, if_pos c2]
    · rw [if_neg c2, if_neg (by decide), if_neg c2]; rfl
  · rw [if_neg c, if_neg (by decide), if_neg c]; rfl
theorem goes_M (hT : TI m_told) (hN : NJ m_s) {k j : Nat} (hk : k < 5) (h : (k : Int) < (m_told 0).toInt) (hj : j < 4) {len : Int32} : ∃ s2, gX7_goes m_told m_s (nI k) len (nI j) = some (cryI (m_told (8 + k)) (m_told 2) (m_s 1) len (m_s (4 + j)), s2) ∧ s2 0 = m_s 0 + 1 ∧ s2 1 = trA (m_told 3) (m_told 4) (cryI (m_told (8 + k)) (m_told 2) (m_s 1) len (m_s (4 + j))) (m_s 1) (m_told (13 + k)) ∧ s2 2 = (if m_told 3 < cryI (m_told (8 + k)) (m_told 2) (m_s 1) len (m_s (4 + j)) then m_s 2 else if len < m_told 5 then m_s 2 else 1) ∧ s2 3 = m_s 3 ∧ s2 (4 + j) = lkA (m_told 3) (m_told 4) (cryI (m_told (8 + k)) (m_told 2) (m_s 1) len (m_s (4 + j))) (m_s (4 + j)) ∧ ∀ i, i < 4 → i ≠ j → s2 (4 + i) = m_s (4 + i) := by
  obtain ⟨⟨b0, b1⟩, hl⟩ := id hN
  obtain ⟨l0, l9⟩ := hl j hj
  obtain ⟨g0, g3⟩ := (hT.2.2.2.2.2.2 k h).2
  have z0 : ¬ (0 : Nat) = 4 + j := by omega
  have z1 : ¬ (1 : Nat) = 4 + j := by omega
  have z2 : ¬ (2 : Nat) = 4 + j := by omega
  have z3 : ¬ (3 : Nat) = 4 + j := by omega
  have y0 : ¬ 4 + j = (0 : Nat) := by omega
  have y1 : ¬ 4 + j = (1 : Nat) := by omega
  have y2 : ¬ 4 + j = (2 : Nat) := by omega
  unfold gX7_goes
  rw [criesNow_M hT hk hj, wq_b1_e, ix4 (by omega), ix13 (by omega), wq_chk_in (in13 (by omega) (by omega)), bd_WT b0 b1, wq_b1_e, bd_T b0 b1 g0 g3, wq_b1_e, wq_chk_in (in4 (by omega) (by omega)), wq_chk_in (in4 (by omega) (by omega)), pk_un y1, pk_un y1, bd_WL l0 l9, wq_b1_e, bd_L l0 l9, wq_b1_e]
  generalize cryI (m_told (8 + k)) (m_told 2) (m_s 1) len (m_s (4 + j)) = m
  unfold trA lkA
  by_cases c : m_told 3 < m
  · simp only [if_pos c]
    by_cases c2 : m < m_told 4
    · simp only [if_pos c2]
      refine ⟨_, rfl, pk_us, pk_un (by omega), pk_un (by omega), pk_un (by omega), pk_un (by omega), fun i hi hij => pk_un (by omega)⟩
    · simp only [if_neg c2]
      refine ⟨_, rfl, ?_, ?_, ?_, ?_, ?_, fun i hi hij => ?_⟩
      · rw [pk_us, pk_un z0, pk_un (by omega)]
      · rw [pk_un (by omega), pk_un z1, pk_us]
      · rw [pk_un (by omega), pk_un z2, pk_un (by omega)]
      · rw [pk_un (by omega), pk_un z3, pk_un (by omega)]
      · rw [pk_un y0, pk_us]
      · rw [pk_un (by omega), pk_un (by omega), pk_un (by omega)]
  · simp only [if_neg c]
    by_cases c2 : len < m_told 5
    · simp only [if_pos c2]
      refine ⟨_, rfl, ?_, ?_, ?_, ?_, ?_, fun i hi hij => ?_⟩
      · rw [pk_us, pk_un (by omega), pk_un z0, pk_un (by omega)]
      · rw [pk_un (by omega), pk_un (by omega), pk_un z1, pk_us]
      · rw [pk_un (by omega), pk_us, pk_un z2, pk_un (by omega)]
      · rw [pk_un (by omega), pk_un (by omega), pk_un z3, pk_un (by omega)]
      · rw [pk_un y0, pk_un y2, pk_us]
      · rw [pk_un (by omega), pk_un (by omega), pk_un (by omega), pk_un (by omega)]
    · simp only [if_neg c2]
      refine ⟨_, rfl, ?_, ?_, ?_, ?_, ?_, fun i hi hij => ?_⟩
      · rw [pk_us, pk_un (by omega), pk_un z0, pk_un (by omega)]
      · rw [pk_un (by omega), pk_un (by omega), pk_un z1, pk_us]
      · rw [pk_un (by omega), pk_us]
      · rw [pk_un (by omega), pk_un (by omega), pk_un z3, pk_un (by omega)]
      · rw [pk_un y0, pk_un y2, pk_us]
      · rw [pk_un (by omega), pk_un (by omega), pk_un (by omega), pk_un (by omega)]
theorem setLiking_C {lk : Nat → Int32} {k : Nat} (hk : k < 4) (v : Int32) : gX0_setLiking lk (nI k) v = some (upd lk k v) := by
  unfold gX0_setLiking
  rw [if_neg (by rw [pn_lt, pn_ti (by omega)]; simp only [Int32.reduceToInt]; omega), if_neg (by rw [pn_le, pn_ti (by omega)]; simp only [Int32.reduceToInt]; omega), wq_chk_in (vp_in_nI hk (by omega)), pn_cl (by omega)]
theorem P_morning (hT : RT t_tears t_gains t_settings t_goodbyes t_women m_told) (hN : RN n_likings n_day n_trust n_ill n_done m_s) (hP : RP p_befores p_known m_past m_known) (a1 a2 a3 : Int32) : ∃ r lk2 d2 t2 dn2 b2 k2 s2 past2 kn2, gX6_morning n_likings n_day n_trust n_ill n_done p_befores p_known t_tears t_gains t_settings t_goodbyes t_women a1 a2 a3 = some (r, lk2, d2, t2, dn2, b2, k2) ∧ gX7_morning m_told m_s m_past m_known a1 a2 a3 = some (r, s2, past2, kn2) ∧ RN lk2 d2 t2 n_ill dn2 s2 ∧ RP b2 k2 past2 kn2 := by
  unfold gX6_morning gX7_morning
  rw [morn_C hT, morn_M hT.1, wq_b1_e, wq_b1_e]
  by_cases c : mB (m_told 0) (m_told 1) a1 a2 a3 = 0
  · rw [if_pos c, if_pos c]; exact ⟨_, _, _, _, _, _, _, _, _, _, rfl, rfl, hN, hP⟩
  · obtain ⟨⟨l1, l2⟩, ⟨k, hk, rfl, hk2⟩, j, hj, rfl, hj2⟩ := mB_1 c hT.1.1.2 hT.1.2.1.2
    obtain ⟨hI, e0, e1, e2, e3, hl⟩ := id hN
    rw [if_neg c, if_neg c]
    unfold gX0_isIll gX7_isIll
    rw [e3]
    by_cases ci : ((m_s 3 >>> (nI j &&& 31)) &&& 1) = 1
    · rw [if_pos ci, wq_b1_e, if_neg (by decide), wq_b1_e, if_neg (by decide)]
      rw [e3] at hN
      exact ⟨_, _, _, _, _, _, _, _, _, _, rfl, rfl, hN, hP⟩
    · rw [if_neg ci, wq_b1_e, if_pos rfl, wq_b1_e, if_pos rfl]
      by_cases cd : m_s 0 = 999
      · rw [if_pos cd, if_neg (by rw [e0, cd]; decide)]
        rw [e3] at hN
        exact ⟨_, _, _, _, _, _, _, _, _, _, rfl, rfl, hN, hP⟩
      · have hd : (m_s 0).toInt < 999 := by
          have := lv_neT cd (a := 999) rfl
          have := hI.1.2
          omega
        obtain ⟨b2, k2, past2, kn2, q1, q2, q3⟩ := keep_both hP hI
        obtain ⟨s2, w1, w2, w3, w4, w5, w6, w7⟩ := goes_M hT.1 ⟨hI.2.1, hI.2.2.2.2⟩ hk hk2 hj (len := a2)
        have hf := fold_C hN
        rw [e3] at hf
        have hmn := minutesNow_C hT hN hk hk2 hj l1 l2
        rw [if_neg cd, if_pos (by rw [e0, pn_lt]; exact hd), hf, wq_b1_e, q1, wq_b2_e, q2, wq_b2_e, w1, wq_b2_e, hmn, wq_b1_e, trustAfter_C hT hk hk2, wq_b1_e, liking_C hj, wq_b1_e, likingAfter_C hT, wq_b1_e, setLiking_C hj, wq_b1_e, calm_C hT, wq_b1_e, set3, wq_b1_e, hT.2.2.2.1.2.2.2, hl j hj, e0, e1, e2]
        obtain ⟨b0, b1⟩ := hI.2.1
        obtain ⟨g0, g3⟩ := (hT.1.2.2.2.2.2.2 k hk2).2
        have r1 := trA_r (calm := m_told 3) (wild := m_told 4) (m := cryI (m_told (8 + k)) (m_told 2) (m_s 1) a2 (m_s (4 + j))) b0 b1 g0 g3
        have r2 := lkA_r (calm := m_told 3) (wild := m_told 4) (m := cryI (m_told (8 + k)) (m_told 2) (m_s 1) a2 (m_s (4 + j))) (hI.2.2.2.2 j hj).1 (hI.2.2.2.2 j hj).2
        have ed : (m_s 0 + 1).toInt = (m_s 0).toInt + 1 := fb_addI (y := 1) (by have := hI.1.1; show _ ≤ (m_s 0).toInt + 1; omega) (by show (m_s 0).toInt + 1 < _; omega)
        have hd0 := hI.1.1
        have hdn := hI.2.2.1
        have hil := hI.2.2.2.1
        have hlk : ∀ i, i < 4 → upd n_likings j (lkA (m_told 3) (m_told 4) (cryI (m_told (8 + k)) (m_told 2) (m_s 1) a2 (m_s (4 + j))) (m_s (4 + j))) i = s2 (4 + i) := by
          intro i hi
          by_cases ei : i = j
          · subst ei; rw [pk_us, w6]
          · rw [pk_un ei, w7 i hi ei, hl i hi]
        have hlr : ∀ i, i < 4 → 0 ≤ (s2 (4 + i)).toInt ∧ (s2 (4 + i)).toInt ≤ 9 := by
          intro i hi
          by_cases ei : i = j
          · subst ei; rw [w6]; exact r2
          · rw [w7 i hi ei]; exact hI.2.2.2.2 i hi
        have hI2 : NI s2 := by
          refine ⟨by rw [w2, ed]; omega, by rw [w3]; exact r1, ?_, by rw [w5]; exact hil, hlr⟩
          rw [w4]
          (repeat' split) <;> first | exact hdn | exact Or.inr rfl
        by_cases cc : m_told 3 < cryI (m_told (8 + k)) (m_told 2) (m_s 1) a2 (m_s (4 + j))
        · rw [if_pos cc, if_pos rfl]
          rw [if_pos cc] at w4
          exact ⟨_, _, _, _, _, _, _, _, _, _, rfl, rfl, ⟨hI2, w2.symm, w3.symm, w4.symm, w5.symm, hlk⟩, q3⟩
        · rw [if_neg cc, if_neg (by decide)]
          rw [if_neg cc] at w4
          by_cases cg : a2 < m_told 5
          · rw [if_pos cg]
            rw [if_pos cg] at w4
            exact ⟨_, _, _, _, _, _, _, _, _, _, rfl, rfl, ⟨hI2, w2.symm, w3.symm, w4.symm, w5.symm, hlk⟩, q3⟩
          · rw [if_neg cg]
            rw [if_neg cg] at w4
            exact ⟨_, _, _, _, _, _, _, _, _, _, rfl, rfl, ⟨hI2, w2.symm, w3.symm, w4.symm, w5.symm, hlk⟩, q3⟩
end DY
