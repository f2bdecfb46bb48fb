/-! the pure layer: the methods that only ask -/
section ES
variable {t_tears t_gains t_settings : Nat → Int32} {t_goodbyes t_women : Int32} {m_told : Nat → Int32} {n_likings : Nat → Int32} {n_day n_trust n_ill n_done : Int32} {m_s : Nat → Int32}
theorem P_goodbye (hT : RT t_tears t_gains t_settings t_goodbyes t_women m_told) (a1 a2 : Int32) : ∃ r, gX6_goodbye t_tears t_gains t_goodbyes a1 a2 = some r ∧ gX7_goodbye m_told a1 a2 = some r := by
  have hT' := hT
  obtain ⟨⟨⟨g0, g5⟩, -⟩, e1, e2, -, ht⟩ := hT
  unfold gX6_goodbye gX7_goodbye
  rw [e1, hasG_C g5, hasG_M g0, wq_b1_e, wq_b1_e]
  by_cases c : hasB (m_told 0) a1 = 0
  · rw [if_pos c, if_pos c]; exact ⟨_, rfl, rfl⟩
  · obtain ⟨k, hk, rfl, -, hlt⟩ := hasB_1 c g5
    rw [if_neg c, if_neg c, in_b 0 1 rfl rfl, tears_C hk hlt g5, gain_C hk hlt g5, wq_b1_e, wq_b1_e, (ht k hlt).1, (ht k hlt).2, wq_chk_in (in8 (by omega) (by omega)), wq_chk_in (in13 (by omega) (by omega)), ix8 (by omega), ix13 (by omega)]
    by_cases c0 : a2 = 0
    · subst c0; exact ⟨_, rfl, rfl⟩
    · by_cases c1 : a2 = 1
      · subst c1; exact ⟨_, rfl, rfl⟩
      · rw [if_neg c0, if_neg c1]
        have d0 := lv_neT c0 (a := 0) rfl
        have d1 := lv_neT c1 (a := 1) rfl
        rw [if_neg (by omega)]
        exact ⟨_, rfl, rfl⟩
theorem minutesNow_C (hT : RT t_tears t_gains t_settings t_goodbyes t_women m_told) (hN : RN n_likings n_day n_trust n_ill n_done m_s) {k j : Nat} (hk : k < 5) (h : (k : Int) < (m_told 0).toInt) (hj : j < 4) {len : Int32} (h2 : 1 ≤ len.toInt) (h3 : len.toInt ≤ 96) : gX6_minutesNow n_likings n_trust t_tears t_settings t_goodbyes (nI k) len (nI j) = some (cryI (m_told (8 + k)) (m_told 2) (m_s 1) len (m_s (4 + j))) := by
  obtain ⟨⟨-, ⟨q0, q1⟩, -⟩, -, d2, -, -, hl⟩ := hN
  unfold gX6_minutesNow
  rw [liking_C hj, wq_b1_e, d2, minutes_C hT hk h q0 q1 h2 h3, wq_b1_e, hl j hj]
theorem criesNow_M (hT : TI m_told) {k j : Nat} (hk : k < 5) (hj : j < 4) {len : Int32} : gX7_criesNow m_told m_s (nI k) len (nI j) = some (cryI (m_told (8 + k)) (m_told 2) (m_s 1) len (m_s (4 + j))) := by
  unfold gX7_criesNow
  rw [wq_chk_in (in8 (by omega) (by omega)), wq_chk_in (in4 (by omega) (by omega)), ix8 (by omega), ix4 (by omega), cries_M, wq_b1_e]
theorem P_would (hT : RT t_tears t_gains t_settings t_goodbyes t_women m_told) (hN : RN n_likings n_day n_trust n_ill n_done m_s) (a1 a2 a3 : Int32) : ∃ r, gX6_would n_likings n_trust t_tears t_settings t_goodbyes t_women a1 a2 a3 = some r ∧ gX7_would m_told m_s a1 a2 a3 = some r := by
  unfold gX6_would gX7_would
  rw [morn_C hT, morn_M hT.1, wq_b1_e, wq_b1_e]
  by_cases c : mB (m_told 0) (m_told 1) a1 a2 a3 = 0
  · rw [if_pos c, if_pos c]; exact ⟨_, rfl, rfl⟩
  · obtain ⟨⟨l1, l2⟩, ⟨k, hk, rfl, hk2⟩, j, hj, rfl, hj2⟩ := mB_1 c hT.1.1.2 hT.1.2.1.2
    rw [if_neg c, if_neg c, minutesNow_C hT hN hk hk2 hj l1 l2, criesNow_M hT.1 hk hj]
    exact ⟨_, rfl, rfl⟩
theorem reachNow_C (hT : RT t_tears t_gains t_settings t_goodbyes t_women m_told) (hN : RN n_likings n_day n_trust n_ill n_done m_s) {k j : Nat} (hk : k < 5) (h : (k : Int) < (m_told 0).toInt) (hj : j < 4) : gX6_reachNow n_likings n_trust t_tears t_settings t_goodbyes (nI k) (nI j) = some (rchI (m_told 2) (m_told 3) (m_told (8 + k)) (m_s 1) (m_s (4 + j))) := by
  obtain ⟨-, -, d2, -, -, hl⟩ := hN
  unfold gX6_reachNow
  rw [liking_C hj, wq_b1_e, d2, reach_C hT hk h, wq_b1_e, hl j hj]
theorem rchI_b {steep calm tears trust lik : Int32} (h1 : 1 ≤ steep.toInt) (h2 : 0 ≤ trust.toInt) (h2' : trust.toInt ≤ 24) (h3 : 0 ≤ calm.toInt) (h3' : calm.toInt ≤ 20) (h4 : 0 ≤ lik.toInt) (h4' : lik.toInt ≤ 9) (h5 : 0 ≤ tears.toInt) (h5' : tears.toInt ≤ 40) : (rchI steep calm tears trust lik).toInt = if tears.toInt ≤ calm.toInt + lik.toInt then min 96 (2 * trust.toInt + (calm.toInt + lik.toInt - tears.toInt) / steep.toInt) else 0 := by
  have e1 := mul2 h2 (by omega)
  have e2 : (calm + lik).toInt = calm.toInt + lik.toInt := fb_addI (by omega) (by omega)
  have e3 : ((calm + lik) - tears).toInt = calm.toInt + lik.toInt - tears.toInt := by rw [fb_subI (by omega) (by omega), e2]
  unfold rchI
  by_cases c : tears.toInt ≤ calm.toInt + lik.toInt
  · have hs := fb_rng steep
    have e4 : (((calm + lik) - tears) / steep).toInt = (calm.toInt + lik.toInt - tears.toInt) / steep.toInt := by
      rw [Int32.toInt_div, e3, Int.tdiv_eq_ediv_of_nonneg (by omega)]
      have hq : (calm.toInt + lik.toInt - tears.toInt) / steep.toInt ≤ calm.toInt + lik.toInt - tears.toInt := Int.ediv_le_self _ (by omega)
      have hq0 : 0 ≤ (calm.toInt + lik.toInt - tears.toInt) / steep.toInt := Int.ediv_nonneg (by omega) (by omega)
      exact fb_bmod (by omega) (by omega)
    have hq : (calm.toInt + lik.toInt - tears.toInt) / steep.toInt ≤ calm.toInt + lik.toInt - tears.toInt := Int.ediv_le_self _ (by omega)
    have hq0 : 0 ≤ (calm.toInt + lik.toInt - tears.toInt) / steep.toInt := Int.ediv_nonneg (by omega) (by omega)
    have e5 : (2 * trust + ((calm + lik) - tears) / steep).toInt = 2 * trust.toInt + (calm.toInt + lik.toInt - tears.toInt) / steep.toInt := by rw [fb_addI (by omega) (by omega), e1, e4]
    rw [if_pos c, if_pos (by rw [pn_le, e3]; simp only [Int32.reduceToInt]; omega)]
    by_cases c2 : (2 * trust + ((calm + lik) - tears) / steep) ≤ 96
    · rw [if_pos c2, e5]; rw [pn_le, e5] at c2; simp only [Int32.reduceToInt] at c2; omega
    · rw [if_neg c2]; rw [pn_le, e5] at c2; simp only [Int32.reduceToInt] at c2 ⊢; omega
  · rw [if_neg c, if_neg (by rw [pn_le, e3]; simp only [Int32.reduceToInt]; omega)]; rfl
theorem rch_rng (hT : TI m_told) (hN : NI m_s) {k j : Nat} (hk2 : (k : Int) < (m_told 0).toInt) (hj : j < 4) : 0 ≤ (rchI (m_told 2) (m_told 3) (m_told (8 + k)) (m_s 1) (m_s (4 + j))).toInt ∧ (rchI (m_told 2) (m_told 3) (m_told (8 + k)) (m_s 1) (m_s (4 + j))).toInt ≤ 96 := by
  obtain ⟨-, -, ⟨b1, b2⟩, ⟨c1, c2⟩, -, -, ht⟩ := hT
  obtain ⟨-, ⟨q0, q1⟩, -, -, hl⟩ := hN
  have h8 := (ht k hk2).1
  rw [rchI_b b1 q0 q1 c1 c2 (hl j hj).1 (hl j hj).2 h8.1 h8.2]
  have hd : 0 ≤ ((m_told 3).toInt + (m_s (4 + j)).toInt - (m_told (8 + k)).toInt) / (m_told 2).toInt ∨ (m_told 3).toInt + (m_s (4 + j)).toInt < (m_told (8 + k)).toInt := by
    rcases Int.lt_or_le ((m_told 3).toInt + (m_s (4 + j)).toInt) (m_told (8 + k)).toInt with z | z
    · exact Or.inr z
    · exact Or.inl (Int.ediv_nonneg (by omega) (by omega))
  split <;> omega
theorem P_farthest (hT : RT t_tears t_gains t_settings t_goodbyes t_women m_told) (hN : RN n_likings n_day n_trust n_ill n_done m_s) (a1 a2 : Int32) : ∃ r, gX6_farthest n_likings n_trust t_tears t_settings t_goodbyes t_women a1 a2 = some r ∧ gX7_farthest m_told m_s a1 a2 = some r := by
  have hT0 := hT.1
  obtain ⟨⟨g0, g5⟩, ⟨w0, w4⟩, -⟩ := hT.1
  obtain ⟨-, e1, e2, -⟩ := id hT
  unfold gX6_farthest gX7_farthest
  rw [e1, e2, hasG_C g5, hasG_M g0, wq_b1_e, wq_b1_e]
  by_cases c : hasB (m_told 0) a1 = 0
  · rw [if_pos c, if_pos c]; exact ⟨_, rfl, rfl⟩
  · obtain ⟨k, hk, rfl, -, hlt⟩ := hasB_1 c g5
    rw [if_neg c, if_neg c, hasW_C w4, hasW_M w0, wq_b1_e, wq_b1_e]
    by_cases c2 : hasB (m_told 1) a2 = 0
    · rw [if_pos c2, if_pos c2]; exact ⟨_, rfl, rfl⟩
    · obtain ⟨j, -, rfl, -, hlt2⟩ := hasB_1 c2 (by omega)
      have hj : j < 4 := by omega
      rw [← e1, if_neg c2, if_neg c2, reachNow_C hT hN hk hlt hj, wq_chk_in (in4 (by omega) (by omega)), ix4 (by omega), calmTo_M hT0 hk, wq_b1_e, wq_b1_e]
      have hr := rch_rng hT0 hN.1 hlt hj
      generalize rchI (m_told 2) (m_told 3) (m_told (8 + k)) (m_s 1) (m_s (4 + j)) = v at hr ⊢
      by_cases c3 : v = 0
      · subst c3; exact ⟨_, rfl, rfl⟩
      · rw [if_neg c3, if_pos (by rw [pn_le]; rw [fa_eq] at c3; simp only [Int32.reduceToInt] at c3 ⊢; omega)]
        exact ⟨_, rfl, rfl⟩
theorem P_rate (hT : RT t_tears t_gains t_settings t_goodbyes t_women m_told) (hN : RN n_likings n_day n_trust n_ill n_done m_s) (tr : Int64) (a1 a2 : Int32) : ∃ r tr', gX6_rate tr n_day n_trust t_tears t_gains t_goodbyes a1 a2 = some (r, tr') ∧ gX7_rate tr m_told m_s a1 a2 = some (r, tr') := by
  obtain ⟨⟨⟨g0, g5⟩, -⟩, e1, e2, -, ht⟩ := id hT
  obtain ⟨-, d1, d2, -⟩ := hN
  unfold gX6_rate gX7_rate
  rw [e1, hasG_C g5, wq_b1_e, in_b 0 5 rfl rfl, hasG_b g0]
  by_cases c : hasB (m_told 0) a2 = 0
  · rw [if_pos c, if_pos c]
    split <;> exact ⟨_, _, rfl, rfl⟩
  · obtain ⟨k, hk, rfl, -, hlt⟩ := hasB_1 c g5
    rw [if_neg c, if_neg c]
    unfold gX6_rateOfUnseen gX6_rateOfWave gX6_rateOfSlow gX6_rateOfQuick gX6_rateOfKiss gX6_rateOfGoodbye
    simp only [tears_C hk hlt g5, gain_C hk hlt g5, wq_b1_e, wq_b2_e, (ht k hlt).1, (ht k hlt).2, wq_chk_in (in8 (N := 22) (show 8 + k < 22 by omega) (by omega)), wq_chk_in (in13 (N := 22) (show 13 + k < 22 by omega) (by omega)), ix8 (show k < 1000 by omega), ix13 (show k < 1000 by omega), d1, d2]
    by_cases c0 : a1 = 0
    · subst c0; exact ⟨_, _, rfl, rfl⟩
    by_cases c1 : a1 = 1
    · subst c1; refine ⟨_, _, rfl, ?_⟩; rw [if_pos (by decide), if_neg (by decide), if_pos rfl, Int64.add_assoc]; rfl
    by_cases c2 : a1 = 2
    · subst c2; refine ⟨_, _, rfl, ?_⟩; rw [if_pos (by decide), if_neg (by decide), if_neg (by decide), if_pos rfl, Int64.add_assoc]; rfl
    by_cases c3 : a1 = 3
    · subst c3; refine ⟨_, _, rfl, ?_⟩; rw [if_pos (by decide), if_neg (by decide), if_neg (by decide), if_neg (by decide), if_pos rfl, Int64.add_assoc, Int64.add_assoc]; rfl
    by_cases c4 : a1 = 4
    · subst c4; refine ⟨_, _, rfl, ?_⟩; rw [if_pos (by decide), if_neg (by decide), if_neg (by decide), if_neg (by decide), if_neg (by decide), if_pos rfl, Int64.add_assoc, Int64.add_assoc]; rfl
    by_cases c5 : a1 = 5
    · subst c5; refine ⟨_, _, rfl, ?_⟩; rw [if_pos (by decide), if_neg (by decide), if_neg (by decide), if_neg (by decide), if_neg (by decide), if_neg (by decide), Int64.add_assoc]; rfl
    · rw [if_neg c0, if_neg c1, if_neg c2, if_neg c3, if_neg c4, if_neg c5]
      have d0 := lv_neT c0 (a := 0) rfl
      have d1 := lv_neT c1 (a := 1) rfl
      have d2 := lv_neT c2 (a := 2) rfl
      have d3 := lv_neT c3 (a := 3) rfl
      have d4 := lv_neT c4 (a := 4) rfl
      have d5 := lv_neT c5 (a := 5) rfl
      rw [if_neg (show ¬ (0 ≤ a1.toInt ∧ a1.toInt ≤ 5) by omega)]
      exact ⟨_, _, rfl, rfl⟩
theorem P_count (hT : RT t_tears t_gains t_settings t_goodbyes t_women m_told) (sz hs : Int32) (a1 : Int32) : ∃ r, gX6_count sz hs t_settings t_goodbyes t_women a1 = some r ∧ gX7_count sz m_told hs a1 = some r := by
  obtain ⟨-, e1, e2, ⟨s0, s1, s2, s3⟩, -⟩ := hT
  unfold gX6_count gX7_count
  rw [set0, set1, set2, set3, wq_b1_e, wq_b1_e, wq_b1_e, wq_b1_e, e1, e2, s0, s1, s2, s3]
  (repeat' split) <;> exact ⟨_, rfl, rfl⟩
end ES
/-! text -/
def RX (x_letters : Nat → Int32) (x_size : Int32) (m_text : Nat → Int32) (m_typed : Int32) : Prop := x_size = m_typed ∧ (0 ≤ m_typed.toInt ∧ m_typed.toInt ≤ 120) ∧ ∀ k : Nat, (k : Int) < m_typed.toInt → x_letters k = m_text k ∧ 0 ≤ (m_text k).toInt ∧ (m_text k).toInt ≤ 255
theorem P_type {x_letters m_text : Nat → Int32} {x_size m_typed : Int32} (h : RX x_letters x_size m_text m_typed) (a1 : Int32) : ∃ r l2 s2 t2 y2, gX6_type x_letters x_size a1 = some (r, l2, s2) ∧ gX7_type m_text m_typed a1 = some (r, t2, y2) ∧ RX l2 s2 t2 y2 := by
  have h' := h
  obtain ⟨rfl, ⟨h0, h1⟩, hl⟩ := h
  unfold gX6_type gX7_type gX4_add
  rw [in_b 0 255 rfl rfl]
  by_cases c : 0 ≤ a1.toInt ∧ a1.toInt ≤ 255
  · rw [if_neg (by rw [pn_lt]; simp only [Int32.reduceToInt]; omega), if_pos (by rw [pn_le]; simp only [Int32.reduceToInt]; omega)]
    rw [if_pos c]
    by_cases c2 : x_size = 120
    · rw [if_pos c2, c2, if_neg (by decide), if_neg (by decide), wq_b3_e]
      rw [c2] at h'
      exact ⟨_, _, _, _, _, rfl, rfl, h'⟩
    · have c3 : x_size.toInt < 120 := by rw [fa_eq] at c2; simp only [Int32.reduceToInt] at c2; omega
      obtain ⟨k, hk, rfl, he⟩ := pn_nI (N := 120) h0 (by omega)
      rw [if_neg c2, if_neg (by rw [pn_lt]; simp only [Int32.reduceToInt]; omega), if_pos (by rw [pn_lt]; exact c3), wq_chk_in (vp_in_nI hk (by omega)), wq_chk_in (vp_in_nI hk (by omega)), wq_b3_e, pn_cl (by omega)]
      refine ⟨_, _, _, _, _, rfl, rfl, rfl, ?_, ?_⟩
      · rw [nI_1, pn_ti (by omega)]; omega
      · intro j hj
        rw [nI_1, pn_ti (by omega)] at hj
        by_cases e : j = k
        · subst e; rw [pk_us, pk_us]; exact ⟨rfl, c⟩
        · rw [pk_un e, pk_un e]; exact hl j (by omega)
  · rw [if_neg c]
    simp only [pn_lt, pn_le, Int32.reduceToInt]
    by_cases c2 : a1.toInt < 0
    · rw [if_pos c2]; exact ⟨_, _, _, _, _, rfl, rfl, h'⟩
    · rw [if_neg c2, if_neg (by omega)]; exact ⟨_, _, _, _, _, rfl, rfl, h'⟩
theorem P_clear {x_letters m_text : Nat → Int32} {x_size m_typed : Int32} (h : RX x_letters x_size m_text m_typed) : ∃ r s2 y2, gX6_clear x_size = some (r, s2) ∧ gX7_clear m_typed = some (r, y2) ∧ RX x_letters s2 m_text y2 := by
  obtain ⟨rfl, -, -⟩ := h
  exact ⟨_, _, _, rfl, rfl, rfl, ⟨by decide, by decide⟩, fun k hk => by simp only [Int32.reduceToInt] at hk; omega⟩
