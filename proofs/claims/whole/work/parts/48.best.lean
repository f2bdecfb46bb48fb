/-! the pure layer: the best goodbye, the woman with whom -/
def fmx (R : Nat → Int32) : Nat → Int
  | 0 => 0
  | n + 1 => max (fmx R n) (R n).toInt
theorem fmx_0 (R : Nat → Int32) : ∀ n, 0 ≤ fmx R n
  | 0 => Int.le_refl 0
  | n + 1 => by have := fmx_0 R n; rw [fmx]; omega
section BS
variable {t_tears t_gains t_settings : Nat → Int32} {t_goodbyes t_women : Int32} {m_told : Nat → Int32} {n_likings : Nat → Int32} {n_day n_trust n_ill n_done : Int32} {m_s : Nat → Int32}
/-- the two loops: the same best -/
theorem be_8 (hT : RT t_tears t_gains t_settings t_goodbyes t_women m_told) (hN : RN n_likings n_day n_trust n_ill n_done m_s) {j G : Nat} (hj : j < 4) (hG : m_told 0 = nI G) (hG5 : G ≤ 5) :
    ∀ (m n i : Nat) (x2 x3 : Int32), i + m = G → m < n → x3.toInt = fmx (fun k => rchI (m_told 2) (m_told 3) (m_told (8 + k)) (m_s 1) (m_s (4 + j))) i → ((x2 = -9 ∧ x3 = 0) ∨ ∃ b : Nat, b < i ∧ x2 = nI b ∧ rchI (m_told 2) (m_told 3) (m_told (8 + b)) (m_s 1) (m_s (4 + j)) = x3 ∧ 0 < x3.toInt) →
    ∃ r x4, gX6_bestGoodbye_L8 n_likings n_trust t_tears t_gains t_settings t_goodbyes (nI j) n x2 x3 (nI i) = some r ∧ gX7_bestWith_L8 m_told m_s (nI j) n x2 x3 (nI i) = some r ∧ x4.toInt = fmx (fun k => rchI (m_told 2) (m_told 3) (m_told (8 + k)) (m_s 1) (m_s (4 + j))) G ∧ ((r = -9 ∧ x4 = 0) ∨ ∃ b : Nat, b < G ∧ r = nI b ∧ rchI (m_told 2) (m_told 3) (m_told (8 + b)) (m_s 1) (m_s (4 + j)) = x4 ∧ 0 < x4.toInt)
  | m, 0, i, _, _, _, h, _, _ => absurd h (by omega)
  | 0, n + 1, i, x2, x3, hi, h, hf, hb => by
    have e : i = G := by omega
    subst e
    rw [gX6_bestGoodbye_L8, gX7_bestWith_L8, hT.2.1, hG, if_pos (by rw [pn_le]; omega), if_pos (by rw [pn_le]; omega)]
    exact ⟨_, x3, rfl, rfl, hf, hb⟩
  | m + 1, n + 1, i, x2, x3, hi, h, hf, hb => by
    have hi5 : i < 5 := by omega
    have hlt : (i : Int) < (m_told 0).toInt := by rw [hG, pn_ti (by omega)]; omega
    have hge : ¬ nI G ≤ nI i := by rw [pn_le, pn_ti (by omega), pn_ti (by omega)]; omega
    have hr := rch_rng hT.1 hN.1 hlt hj
    have rc := reachNow_C hT hN hi5 hlt hj
    have g5 := hT.1.1.2
    have gi := gain_C (tt := t_gains) hi5 hlt g5
    rw [(hT.2.2.2.2 i hlt).2] at gi
    rw [hT.2.1] at rc
    rw [gX6_bestGoodbye_L8, gX7_bestWith_L8, hT.2.1, rc, gi, hG, if_neg hge, if_neg hge, wq_b1_e, wq_chk_in (in4 (by omega) (by omega)), ix4 (by omega), calmTo_M hT.1 hi5, wq_b1_e, wq_b1_e, nI_1]
    have f1 : fmx (fun k => rchI (m_told 2) (m_told 3) (m_told (8 + k)) (m_s 1) (m_s (4 + j))) (i + 1) = max x3.toInt (rchI (m_told 2) (m_told 3) (m_told (8 + i)) (m_s 1) (m_s (4 + j))).toInt := by rw [fmx, ← hf]
    -- keep
    have keep : (rchI (m_told 2) (m_told 3) (m_told (8 + i)) (m_s 1) (m_s (4 + j))).toInt ≤ x3.toInt → ∃ r x4, gX6_bestGoodbye_L8 n_likings n_trust t_tears t_gains t_settings (nI G) (nI j) n x2 x3 (nI (i + 1)) = some r ∧ gX7_bestWith_L8 m_told m_s (nI j) n x2 x3 (nI (i + 1)) = some r ∧ x4.toInt = fmx (fun k => rchI (m_told 2) (m_told 3) (m_told (8 + k)) (m_s 1) (m_s (4 + j))) G ∧ ((r = -9 ∧ x4 = 0) ∨ ∃ b : Nat, b < G ∧ r = nI b ∧ rchI (m_told 2) (m_told 3) (m_told (8 + b)) (m_s 1) (m_s (4 + j)) = x4 ∧ 0 < x4.toInt) := by
      intro hle
      have z := be_8 hT hN hj hG hG5 m n (i + 1) x2 x3 (by omega) (by omega) (by rw [f1]; exact (Int.max_eq_left hle).symm) (by
        rcases hb with hb | ⟨b, b1, b2⟩
        · exact Or.inl hb
        · exact Or.inr ⟨b, by omega, b2⟩)
      rw [hT.2.1, hG] at z
      exact z
    have take : x3.toInt ≤ (rchI (m_told 2) (m_told 3) (m_told (8 + i)) (m_s 1) (m_s (4 + j))).toInt → 0 < (rchI (m_told 2) (m_told 3) (m_told (8 + i)) (m_s 1) (m_s (4 + j))).toInt → ∃ r x4, gX6_bestGoodbye_L8 n_likings n_trust t_tears t_gains t_settings (nI G) (nI j) n (nI i) (rchI (m_told 2) (m_told 3) (m_told (8 + i)) (m_s 1) (m_s (4 + j))) (nI (i + 1)) = some r ∧ gX7_bestWith_L8 m_told m_s (nI j) n (nI i) (rchI (m_told 2) (m_told 3) (m_told (8 + i)) (m_s 1) (m_s (4 + j))) (nI (i + 1)) = some r ∧ x4.toInt = fmx (fun k => rchI (m_told 2) (m_told 3) (m_told (8 + k)) (m_s 1) (m_s (4 + j))) G ∧ ((r = -9 ∧ x4 = 0) ∨ ∃ b : Nat, b < G ∧ r = nI b ∧ rchI (m_told 2) (m_told 3) (m_told (8 + b)) (m_s 1) (m_s (4 + j)) = x4 ∧ 0 < x4.toInt) := by
      intro hle h0
      have z := be_8 hT hN hj hG hG5 m n (i + 1) (nI i) (rchI (m_told 2) (m_told 3) (m_told (8 + i)) (m_s 1) (m_s (4 + j))) (by omega) (by omega) (by rw [f1]; exact (Int.max_eq_right hle).symm) (Or.inr ⟨i, by omega, rfl, rfl, h0⟩)
      rw [hT.2.1, hG] at z
      exact z
    generalize rchI (m_told 2) (m_told 3) (m_told (8 + i)) (m_s 1) (m_s (4 + j)) = v at *
    by_cases c1 : v = x3
    · subst c1
      have hnl : ¬ v < v := by rw [pn_lt]; omega
      rw [if_pos rfl]
      simp only [if_neg hnl, if_true]
      rcases hb with ⟨b1, b2⟩ | ⟨b, b1, b2, b3, b4⟩
      · rw [if_pos b1, if_pos (show v ≤ 0 by rw [b2]; decide)]
        exact keep (Int.le_refl _)
      · have hb5 : b < 5 := by omega
        have hblt : (b : Int) < (m_told 0).toInt := by rw [hG, pn_ti (by omega)]; omega
        have gb := gain_C (tt := t_gains) hb5 hblt g5
        rw [(hT.2.2.2.2 b hblt).2, hG] at gb
        subst b2
        rw [if_neg (show ¬ nI b = -9 by rw [fa_eq, pn_ti (by omega)]; simp only [Int32.reduceToInt]; omega), if_neg (show ¬ v ≤ 0 by rw [pn_le]; simp only [Int32.reduceToInt]; omega), gb, wq_b1_e, wq_chk_in (in13 (by omega) (by omega)), wq_chk_in (in13 (by omega) (by omega)), ix13 (by omega), ix13 (by omega)]
        by_cases c2 : m_told (13 + i) ≤ m_told (13 + b)
        · rw [if_pos c2, if_pos c2]; exact keep (Int.le_refl _)
        · rw [if_neg c2, if_neg c2]; exact take (Int.le_refl _) b4
    · rw [if_neg c1]
      by_cases c2 : x3 < v
      · rw [if_pos c2, if_pos c2]
        rw [pn_lt] at c2
        have := fmx_0 (fun k => rchI (m_told 2) (m_told 3) (m_told (8 + k)) (m_s 1) (m_s (4 + j))) i
        exact take (by omega) (by omega)
      · rw [if_neg c2, if_neg c2]
        have hle : v.toInt ≤ x3.toInt := by rw [pn_lt] at c2; omega
        by_cases c3 : v ≤ 0
        · rw [if_pos c3]; exact keep hle
        · rw [if_neg c3, if_neg c1]; exact keep hle
theorem best_both (hT : RT t_tears t_gains t_settings t_goodbyes t_women m_told) (hN : RN n_likings n_day n_trust n_ill n_done m_s) {j : Nat} (hj : j < 4) :
    ∃ r x4, gX6_bestGoodbye n_likings n_trust t_tears t_gains t_settings t_goodbyes (nI j) = some r ∧ gX7_bestWith m_told m_s (nI j) = some r ∧ x4.toInt = fmx (fun k => rchI (m_told 2) (m_told 3) (m_told (8 + k)) (m_s 1) (m_s (4 + j))) (tN (m_told 0)) ∧ ((r = -9 ∧ x4 = 0) ∨ ∃ b : Nat, b < 5 ∧ r = nI b ∧ rchI (m_told 2) (m_told 3) (m_told (8 + b)) (m_s 1) (m_s (4 + j)) = x4 ∧ 0 < x4.toInt) := by
  obtain ⟨g0, g5⟩ := hT.1.1
  have hG := tN_nI g0
  have h5 : tN (m_told 0) ≤ 5 := tN_le (by omega)
  obtain ⟨r, x4, a, b, c, d⟩ := be_8 hT hN hj hG h5 (tN (m_told 0)) 1000 0 (-9) 0 (by omega) (by omega) rfl (Or.inl ⟨rfl, rfl⟩)
  refine ⟨r, x4, a, b, c, ?_⟩
  rcases d with d | ⟨q, q1, q2⟩
  · exact Or.inl d
  · exact Or.inr ⟨q, by omega, q2⟩
theorem fw_4 (hT : RT t_tears t_gains t_settings t_goodbyes t_women m_told) (hN : RN n_likings n_day n_trust n_ill n_done m_s) {j G : Nat} (hj : j < 4) (hG : m_told 0 = nI G) (hG5 : G ≤ 5) :
    ∀ (m n i : Nat) (x2 : Int32), i + m = G → m < n → x2.toInt = fmx (fun k => rchI (m_told 2) (m_told 3) (m_told (8 + k)) (m_s 1) (m_s (4 + j))) i → ∃ r, gX6_farthestWith_L4 n_likings n_trust t_tears t_settings t_goodbyes (nI j) n x2 (nI i) = some r ∧ r.toInt = fmx (fun k => rchI (m_told 2) (m_told 3) (m_told (8 + k)) (m_s 1) (m_s (4 + j))) G
  | m, 0, i, _, _, h, _ => absurd h (by omega)
  | 0, n + 1, i, x2, hi, h, hf => by
    have e : i = G := by omega
    subst e
    rw [gX6_farthestWith_L4, hT.2.1, hG, if_pos (by rw [pn_le]; omega)]
    exact ⟨_, rfl, hf⟩
  | m + 1, n + 1, i, x2, hi, h, hf => by
    have hi5 : i < 5 := by omega
    have hlt : (i : Int) < (m_told 0).toInt := by rw [hG, pn_ti (by omega)]; omega
    have hge : ¬ t_goodbyes ≤ nI i := by rw [hT.2.1, hG, pn_le, pn_ti (by omega), pn_ti (by omega)]; omega
    rw [gX6_farthestWith_L4, if_neg hge, reachNow_C hT hN hi5 hlt hj, wq_b1_e, nI_1]
    refine fw_4 hT hN hj hG hG5 m n (i + 1) _ (by omega) (by omega) ?_
    rw [fmx, ← hf]
    split
    · next c => rw [pn_lt] at c; omega
    · next c => rw [pn_lt] at c; omega
theorem farWith_C (hT : RT t_tears t_gains t_settings t_goodbyes t_women m_told) (hN : RN n_likings n_day n_trust n_ill n_done m_s) {j : Nat} (hj : j < 4) : ∃ r, gX6_farthestWith n_likings n_trust t_tears t_settings t_goodbyes (nI j) = some r ∧ r.toInt = fmx (fun k => rchI (m_told 2) (m_told 3) (m_told (8 + k)) (m_s 1) (m_s (4 + j))) (tN (m_told 0)) := by
  obtain ⟨g0, g5⟩ := hT.1.1
  exact fw_4 hT hN hj (tN_nI g0) (tN_le (by omega)) (tN (m_told 0)) 1000 0 0 (by omega) (by have : tN (m_told 0) ≤ 5 := tN_le (by omega); omega) rfl
theorem wi_7 (hT : RT t_tears t_gains t_settings t_goodbyes t_women m_told) (hN : RN n_likings n_day n_trust n_ill n_done m_s) {G : Nat} (hG : m_told 1 = nI G) (hG4 : G ≤ 4) :
    ∀ (m n i : Nat) (x1 x2 : Int32), i + m = G → m < n → 0 ≤ x2.toInt → ∃ r, gX6_bestWoman_L7 n_likings n_trust n_ill t_tears t_settings t_goodbyes t_women n x1 x2 (nI i) = some r ∧ gX7_with_L7 m_told m_s n x1 x2 (nI i) = some r
  | m, 0, i, _, _, _, h, _ => absurd h (by omega)
  | 0, n + 1, i, x1, x2, hi, h, h0 => by
    have e : i = G := by omega
    subst e
    rw [gX6_bestWoman_L7, gX7_with_L7, hT.2.2.1, hG, if_pos (by rw [pn_le]; omega), if_pos (by rw [pn_le]; omega)]
    exact ⟨_, rfl, rfl⟩
  | m + 1, n + 1, i, x1, x2, hi, h, h0 => by
    have hi4 : i < 4 := by omega
    have hge : ¬ nI G ≤ nI i := by rw [pn_le, pn_ti (by omega), pn_ti (by omega)]; omega
    obtain ⟨b, x4, -, q2, q3, q4⟩ := best_both hT hN hi4
    obtain ⟨fr, f1, f2⟩ := farWith_C hT hN hi4
    have e4 : fr = x4 := by rw [fa_eq, f2, q3]
    subst e4
    have h02 : (0 : Int32) ≤ x2 := by rw [pn_le]; exact h0
    rw [gX6_bestWoman_L7, gX7_with_L7, hT.2.2.1, hG, if_neg hge, if_neg hge, f1, q2, wq_b1_e, wq_b1_e, nI_1]
    unfold gX0_isIll gX7_isIll
    rw [hN.2.2.2.2.1]
    simp only [if_pos h02]
    have keep := wi_7 hT hN hG hG4 m n (i + 1) x1 x2 (by omega) (by omega) h0
    have r0 : 0 ≤ fr.toInt := by rw [f2]; exact fmx_0 _ _
    have take := wi_7 hT hN hG hG4 m n (i + 1) (nI i) fr (by omega) (by omega) r0
    rw [hT.2.2.1, hG, hN.2.2.2.2.1] at keep take
    by_cases ci : ((m_s 3 >>> (nI i &&& 31)) &&& 1) = 1
    · simp only [if_pos ci, wq_b1_e, if_neg (show ¬ (1 : Int32) = 0 by decide)]
      split <;> exact keep
    · simp only [if_neg ci, wq_b1_e, if_true]
      rcases q4 with ⟨z1, z2⟩ | ⟨b', z1, z2, z3, z4⟩
      · rw [if_pos z1, z2, if_pos h02]; exact keep
      · subst z2
        rw [if_neg (show ¬ nI b' = -9 by rw [fa_eq, pn_ti (by omega)]; simp only [Int32.reduceToInt]; omega), wq_chk_in (in4 (by omega) (by omega)), ix4 (by omega), calmTo_M hT.1 z1, wq_b1_e, z3]
        by_cases cl : fr ≤ x2
        · rw [if_pos cl, if_pos cl]; exact keep
        · rw [if_neg cl, if_neg cl]; exact take
theorem P_woman (hT : RT t_tears t_gains t_settings t_goodbyes t_women m_told) (hN : RN n_likings n_day n_trust n_ill n_done m_s) (a1 a2 : Int32) : ∃ r, gX6_woman n_likings n_trust n_ill t_tears t_gains t_settings t_goodbyes t_women a1 a2 = some r ∧ gX7_woman m_told m_s a1 a2 = some r := by
  obtain ⟨w0, w4⟩ := hT.1.2.1
  unfold gX6_woman gX7_woman
  rw [hT.2.2.1, hasW_C w4, wq_b1_e, hasW_b w0]
  by_cases c : hasB (m_told 1) a1 = 0
  · rw [if_pos c, if_pos c]; exact ⟨_, rfl, rfl⟩
  · obtain ⟨j, -, rfl, -, hlt⟩ := hasB_1 c (by omega)
    have hj : j < 4 := by omega
    obtain ⟨r, x4, b1, b2, -⟩ := best_both hT hN hj
    unfold gX0_isIll gX7_isIll
    rw [if_neg c, if_neg c, liking_C hj, wq_b1_e, b1, b2, wq_b1_e, wq_chk_in (in4 (by omega) (by omega)), ix4 (by omega), hN.2.2.2.2.2 j hj, hN.2.2.2.2.1]
    (repeat' split) <;> exact ⟨_, rfl, rfl⟩
theorem P_now (hT : RT t_tears t_gains t_settings t_goodbyes t_women m_told) (hN : RN n_likings n_day n_trust n_ill n_done m_s) (kn a1 : Int32) : ∃ r, gX6_now n_likings n_day n_trust n_ill n_done kn t_tears t_settings t_goodbyes t_women a1 = some r ∧ gX7_now m_told m_s kn a1 = some r := by
  obtain ⟨w0, w4⟩ := hT.1.2.1
  have h4 : tN (m_told 1) ≤ 4 := tN_le (by omega)
  obtain ⟨r, q1, q2⟩ := wi_7 hT hN (tN_nI w0) h4 (tN (m_told 1)) 1000 0 (-9) 0 (by omega) (by omega) (by decide)
  unfold gX6_now gX7_now gX6_bestWoman gX7_with
  rw [show (0 : Int32) = nI 0 from rfl] at q1 q2
  rw [show gX6_bestWoman_L7 n_likings n_trust n_ill t_tears t_settings t_goodbyes t_women 1000 (-9) 0 0 = some r from q1, show gX7_with_L7 m_told m_s 1000 (-9) 0 0 = some r from q2, wq_b1_e, hN.2.1, hN.2.2.1, hN.2.2.2.1, hN.2.2.2.2.1]
  rcases hN.1.2.2.1 with e | e <;> rw [e] <;> (repeat' split) <;> first | exact ⟨_, rfl, rfl⟩ | contradiction
end BS
