/-! the pure layer: ways, setback -/
theorem TL_N {s : Nat → Int32} (h : NJ s) {j : Nat} (hj : j < 4) : ∃ T L, T ≤ 24 ∧ L ≤ 9 ∧ s 1 = nI T ∧ s (4 + j) = nI L := by
  obtain ⟨T, h1, h2, -⟩ := pn_nI (N := 25) h.1.1 (by have := h.1.2; omega)
  obtain ⟨L, h3, h4, -⟩ := pn_nI (N := 10) (h.2 j hj).1 (by have := (h.2 j hj).2; omega)
  exact ⟨T, L, by omega, by omega, h2, h4⟩
theorem fewF_C {f : Nat → Int32} {t l : Nat} (ht : t ≤ 24) (hl : l ≤ 9) : gX1_fewestFrom f (nI t) (nI l) = some (f (10 * t + l)) := by
  unfold gX1_fewestFrom
  rw [placeC, wq_b1_e, fewAt_C (by omega), wq_b1_e]
theorem rowF_C {f : Nat → Int32} {t l : Nat} (ht : t ≤ 24) (hl : l ≤ 9) : gX1_rowsFrom f (nI t) (nI l) = some (f (10 * t + l)) := by
  unfold gX1_rowsFrom
  rw [placeC, wq_b1_e, rowAt_C (by omega), wq_b1_e]
/-- what reckons answers -/
def dsI (told : Nat → Int32) (t l : Nat) : Int32 := if dsT told t l = 0 then -9 else nI (dsT told t l)
def dsR (told : Nat → Int32) (t l : Nat) : Nat := if dsT told t l = 0 then 60 else dsT told t l
theorem reck_M {told : Nat → Int32} (hT : TI told) {t l : Nat} (ht : t ≤ 24) (hl : l ≤ 9) (st rw : Nat → Int32) : ∃ st2 rw2, gX7_reckons told st rw (nI t) (nI l) = some (dsI told t l, st2, rw2) ∧ SN told (dsR told t l) st2 rw2 := reckons_M hT ht hl
theorem dsI_9 (told : Nat → Int32) (t l : Nat) : dsI told t l = -9 ↔ dsT told t l = 0 := by
  have h := dsT_le told t l
  unfold dsI
  by_cases c : dsT told t l = 0
  · rw [if_pos c]; exact ⟨fun _ => c, fun _ => rfl⟩
  · rw [if_neg c]
    refine ⟨fun z => ?_, fun z => absurd z c⟩
    have := congrArg Int32.toInt z
    rw [pn_ti (by omega), show ((-9 : Int32)).toInt = -9 by decide] at this
    omega
theorem wy_0 {told : Nat → Int32} {t l : Nat} (h : dsT told t l = 0) : wyT told t l = 0 := by
  unfold dsT at h
  unfold wyT wyW
  rw [h, wyM]
theorem SN_row {told st rw : Nat → Int32} {t l : Nat} (ht : t ≤ 24) (hl : l ≤ 9) (h : SN told (dsT told t l) st rw) (hz : dsT told t l ≠ 0) : rw (10 * t + l) = nI (wyT told t l) := by
  rw [(h t l ht hl).2]
  unfold wvN
  rw [if_pos ⟨Nat.one_le_iff_ne_zero.mpr hz, Nat.le_refl _⟩]
  rfl
section WY
variable {n_likings : Nat → Int32} {n_day n_trust n_ill n_done : Int32} {m_s : Nat → Int32} {t_tears t_gains t_settings : Nat → Int32} {t_goodbyes t_women : Int32} {m_told : Nat → Int32} {o_fewest o_rows o_first : Nat → Int32} {o_stands : Int32}
theorem P_ways (hT : RT t_tears t_gains t_settings t_goodbyes t_women m_told) (hN : RN n_likings n_day n_trust n_ill n_done m_s) (hO : RO o_fewest o_rows o_first o_stands m_told) (m_steps m_rows : Nat → Int32) (a1 : Int32) : ∃ r f2 r2 w2 s2 st2 rw2, gX6_ways n_likings n_trust o_fewest o_rows o_first o_stands t_tears t_gains t_settings t_goodbyes t_women a1 = some (r, f2, r2, w2, s2) ∧ gX7_ways m_told m_s m_steps m_rows a1 = some (r, st2, rw2) ∧ RO f2 r2 w2 s2 m_told := by
  have hw4 := hT.1.2.1
  obtain ⟨hI, e0, e1, e2, e3, hl⟩ := id hN
  unfold gX6_ways gX7_ways
  rw [hT.2.2.1, hasW_C hw4.2, hasW_M hw4.1, wq_b1_e, wq_b1_e]
  by_cases c : hasB (m_told 1) a1 = 0
  · rw [if_pos c, if_pos c]; exact ⟨_, _, _, _, _, _, _, rfl, rfl, hO⟩
  · obtain ⟨j, hj5, rfl, -, hj⟩ := hasB_1 c (by omega)
    obtain ⟨T, L, hTT, hL, q1, q2⟩ := TL_N (j := j) ⟨hI.2.1, hI.2.2.2.2⟩ (by omega)
    obtain ⟨f2, r2, w2, e, hO2⟩ := look_C hT hO
    obtain ⟨st2, rw2, er, hS⟩ := reck_M hT.1 hTT hL m_steps m_rows
    obtain ⟨-, p2, -⟩ := hO2 T L hTT hL (by omega)
    rw [if_neg c, if_neg c, e, wq_b4_e, liking_C (by omega), wq_b1_e, hl j (by omega), e1, ix4 (by omega), q1, q2, rowF_C hTT hL, wq_b1_e, wq_chk_in (in4 (by omega) (by omega)), er, wq_b3_e, p2]
    by_cases d : dsT m_told T L = 0
    · rw [if_pos ((dsI_9 _ _ _).mpr d), wy_0 d]
      exact ⟨_, _, _, _, _, _, _, rfl, rfl, Or.inr ⟨rfl, hO2⟩⟩
    · unfold dsR at hS
      rw [if_neg d] at hS
      rw [if_neg (fun z => d ((dsI_9 _ _ _).mp z)), place_M hTT hL, wq_b1_e, wq_chk_in (vp_in_nI (by omega) (by omega)), pn_cl (by omega), SN_row hTT hL hS d]
      exact ⟨_, _, _, _, _, _, _, rfl, rfl, Or.inr ⟨rfl, hO2⟩⟩
theorem P_setback (hT : RT t_tears t_gains t_settings t_goodbyes t_women m_told) (hN : RN n_likings n_day n_trust n_ill n_done m_s) (hO : RO o_fewest o_rows o_first o_stands m_told) (m_steps m_rows m_held : Nat → Int32) (a1 a2 a3 : Int32) : ∃ r f2 r2 w2 s2 ms2 st2 rw2 h2, gX6_setback n_likings n_trust o_fewest o_rows o_first o_stands t_tears t_gains t_settings t_goodbyes t_women a1 a2 a3 = some (r, f2, r2, w2, s2) ∧ gX7_setback m_told m_s m_steps m_rows m_held a1 a2 a3 = some (r, ms2, st2, rw2, h2) ∧ RO f2 r2 w2 s2 m_told ∧ RN n_likings n_day n_trust n_ill n_done ms2 := by
  obtain ⟨hI, e0, e1, e2, e3, hl⟩ := id hN
  unfold gX6_setback gX7_setback
  rw [morn_C hT, morn_M hT.1, wq_b1_e, wq_b1_e]
  by_cases c : mB (m_told 0) (m_told 1) a1 a2 a3 = 0
  · rw [if_pos c, if_pos c]; exact ⟨_, _, _, _, _, _, _, _, _, rfl, rfl, hO, hN⟩
  · obtain ⟨⟨l1, l2⟩, ⟨k, hk, rfl, hk2⟩, j, hj, rfl, hj2⟩ := mB_1 c hT.1.1.2 hT.1.2.1.2
    have hNJ : NJ m_s := ⟨hI.2.1, hI.2.2.2.2⟩
    obtain ⟨g0, g3⟩ := (hT.1.2.2.2.2.2.2 k hk2).2
    obtain ⟨T, L, hTT, hL, q1, q2⟩ := TL_N hNJ hj
    obtain ⟨f2, r2, w2, e, hO2⟩ := look_C hT hO
    obtain ⟨st2, rw2, er, hS⟩ := reck_M hT.1 hTT hL m_steps m_rows
    obtain ⟨s2, v1, v2, v3, v4, v5, v6, v7⟩ := goes_M hT.1 hNJ hk hk2 hj (len := a2)
    have hs2 : NJ s2 := ⟨by rw [v3]; exact trA_r hNJ.1.1 hNJ.1.2 g0 g3, fun q hq => by
      by_cases e : q = j
      · subst e; rw [v6]; exact lkA_r (hNJ.2 q hq).1 (hNJ.2 q hq).2
      · rw [v7 q hq e]; exact hNJ.2 q hq⟩
    obtain ⟨T2, L2, hT2, hL2, y1, y2⟩ := TL_N hs2 hj
    obtain ⟨st3, rw3, er3, -⟩ := reck_M hT.1 hT2 hL2 st2 rw2
    obtain ⟨p1, -, -⟩ := hO2 T L hTT hL (by omega)
    obtain ⟨p3, -, -⟩ := hO2 T2 L2 hT2 hL2 (by omega)
    have hmn := minutesNow_C hT hN hk hk2 hj l1 l2
    have z1 : gX5_trustAfter t_gains t_settings t_goodbyes (nI k) (m_s 1) (cryI (m_told (8 + k)) (m_told 2) (m_s 1) a2 (m_s (4 + j))) = some (nI T2) := by rw [trustAfter_C hT hk hk2, ← v3, y1]
    have z2 : gX5_likingAfter t_settings (m_s (4 + j)) (cryI (m_told (8 + k)) (m_told 2) (m_s 1) a2 (m_s (4 + j))) = some (nI L2) := by rw [likingAfter_C hT, ← v6, y2]
    rw [← q1, ← q2] at er
    rw [← y1, ← y2] at er3
    have x1 : gX1_fewestFrom f2 (m_s 1) (m_s (4 + j)) = some (nI (dsT m_told T L)) := by rw [q1, q2, fewF_C hTT hL, p1]
    have x3 : gX1_fewestFrom f2 (nI T2) (nI L2) = some (nI (dsT m_told T2 L2)) := by rw [fewF_C hT2 hL2, p3]
    rw [if_neg c, if_neg c, e, wq_b4_e, liking_C hj, wq_b1_e, hl j hj, hmn, wq_b1_e, e1, x1, wq_b1_e, z1, wq_b1_e, z2, wq_b1_e, x3, wq_b1_e, ix4 (by omega), wq_chk_in (in4 (by omega) (by omega)), er, wq_b3_e, holds_M, wq_b1_e, v1, wq_b2_e, er3, wq_b3_e, lets_M, wq_b1_e]
    have hNN : RN n_likings n_day n_trust n_ill n_done (fa_fill (fa_fill m_s m_held 8) s2 8) := RN_congr hN (fun q hq => by rw [fa_fill_in hq, fa_fill_in hq])
    rw [e1] at hNN
    have b1 := dsT_le m_told T L
    have b2 := dsT_le m_told T2 L2
    by_cases d : dsT m_told T L = 0
    · rw [if_pos (by rw [d]; decide), if_pos ((dsI_9 _ _ _).mpr d)]
      exact ⟨_, _, _, _, _, _, _, _, _, rfl, rfl, Or.inr ⟨rfl, hO2⟩, hNN⟩
    · rw [if_neg (by rw [pn_lt, pn_ti (by omega)]; simp only [Int32.reduceToInt]; omega), if_neg (fun z => d ((dsI_9 _ _ _).mp z))]
      by_cases d2 : dsT m_told T2 L2 = 0
      · rw [if_neg (by rw [d2]; decide), if_pos ((dsI_9 _ _ _).mpr d2)]
        exact ⟨_, _, _, _, _, _, _, _, _, rfl, rfl, Or.inr ⟨rfl, hO2⟩, hNN⟩
      · rw [if_pos (by rw [pn_le, pn_ti (by omega)]; simp only [Int32.reduceToInt]; omega), if_neg (fun z => d2 ((dsI_9 _ _ _).mp z))]
        unfold dsI
        rw [if_neg d, if_neg d2]
        exact ⟨_, _, _, _, _, _, _, _, _, rfl, rfl, Or.inr ⟨rfl, hO2⟩, hNN⟩
end WY
