/-! the pure layer: leaves -/
def overI (len trust : Int32) : Int32 := if len ≤ 2 * trust then 0 else len - 2 * trust
def clampI (m : Int32) : Int32 := if m < 0 then 0 else if 60 < m then 60 else m
def cryI (tears steep trust len lik : Int32) : Int32 := clampI ((tears + steep * overI len trust) - lik)
theorem bound60 (m : Int32) : gX7_bound m 0 60 = some (clampI m) := by
  unfold gX7_bound clampI
  simp only [pn_lt, pn_le, Int32.reduceToInt]
  (repeat' split) <;> first | rfl | (exfalso; omega)
theorem within_C (m : Int32) : gX6_withinMinutes m = some (clampI m) := by
  unfold gX6_withinMinutes clampI
  simp only [pn_lt, pn_le, Int32.reduceToInt]
  (repeat' split) <;> first | rfl | (exfalso; simp only [Int32.reduceToInt] at *; omega) | (refine congrArg some ?_; rw [fa_eq]; simp only [Int32.reduceToInt] at *; omega)
theorem cries_M (tears steep trust len lik : Int32) : gX7_cries tears steep trust len lik = some (cryI tears steep trust len lik) := by
  unfold gX7_cries cryI overI
  by_cases c : len ≤ 2 * trust
  · rw [if_pos c, if_pos c, bound60, wq_b1_e]
  · rw [if_neg c, if_neg c, bound60, wq_b1_e]
theorem mul2 {x : Int32} (h0 : 0 ≤ x.toInt) (h1 : x.toInt ≤ 1000) : (2 * x).toInt = 2 * x.toInt := by
  rw [fb_mulI (by show -2147483648 ≤ 2 * x.toInt; omega) (by show 2 * x.toInt < 2147483648; omega)]; rfl
theorem beyond_C {len trust : Int32} (h0 : 0 ≤ trust.toInt) (h1 : trust.toInt ≤ 24) (h2 : 1 ≤ len.toInt) (h3 : len.toInt ≤ 96) : gX6_beyondTrust len trust = some (overI len trust) := by
  have e1 := mul2 h0 (by omega)
  have e2 : (len - 2 * trust).toInt = len.toInt - 2 * trust.toInt := by rw [fb_subI (by omega) (by omega), e1]
  unfold gX6_beyondTrust overI
  simp only [pn_lt, pn_le, e1, e2, Int32.reduceToInt]
  (repeat' split) <;> first | rfl | (exfalso; omega)
theorem set0 (ts : Nat → Int32) : gX5_setting ts 0 = some (ts 0) := rfl
theorem set1 (ts : Nat → Int32) : gX5_setting ts 1 = some (ts 1) := rfl
theorem set2 (ts : Nat → Int32) : gX5_setting ts 2 = some (ts 2) := rfl
theorem set3 (ts : Nat → Int32) : gX5_setting ts 3 = some (ts 3) := rfl
theorem hasB_in {n : Int32} {k : Nat} (hk : k < 5) (h : (k : Int) < n.toInt) : hasB n (nI k) = 1 := by
  unfold hasB; rw [pn_ti (by omega), if_pos ⟨by omega, h⟩]
theorem tears_C {tt : Nat → Int32} {gb : Int32} {k : Nat} (hk : k < 5) (h : (k : Int) < gb.toInt) (h5 : gb.toInt ≤ 5) : gX5_tearsOf tt gb (nI k) = some (tt k) := by
  unfold gX5_tearsOf
  rw [hasG_C h5, wq_b1_e, hasB_in hk h, if_neg (by decide), wq_chk_in (vp_in_nI hk (by omega)), pn_cl (by omega)]
theorem gain_C {tt : Nat → Int32} {gb : Int32} {k : Nat} (hk : k < 5) (h : (k : Int) < gb.toInt) (h5 : gb.toInt ≤ 5) : gX5_gainOf tt gb (nI k) = some (tt k) := by
  unfold gX5_gainOf
  rw [hasG_C h5, wq_b1_e, hasB_in hk h, if_neg (by decide), wq_chk_in (vp_in_nI hk (by omega)), pn_cl (by omega)]
theorem liking_C {lk : Nat → Int32} {k : Nat} (hk : k < 4) : gX0_likingOf lk (nI k) = some (lk k) := by
  unfold gX0_likingOf
  rw [if_neg (by rw [pn_lt, pn_ti (by omega)]; simp only [Int32.reduceToInt]; omega), if_neg (by rw [pn_le, pn_ti (by omega)]; simp only [Int32.reduceToInt]; omega), wq_chk_in (vp_in_nI hk (by omega)), pn_cl (by omega)]
theorem in_b {α : Type} {a b c : Int32} (lo hi : Int) (hb : b.toInt = lo) (hc : c.toInt = hi) {x y : Option α} : wq_b1 (gX7_in a b c) (fun v => if v = 0 then x else y) = if lo ≤ a.toInt ∧ a.toInt ≤ hi then y else x := by
  subst hb; subst hc
  rw [in_M, wq_b1_e]
  by_cases q : b.toInt ≤ a.toInt ∧ a.toInt ≤ c.toInt
  · rw [if_pos q, if_neg (by decide), if_pos q]
  · rw [if_neg q, if_pos rfl, if_neg q]
theorem hasG_b {α : Type} {told : Nat → Int32} {g : Int32} (h : 0 ≤ (told 0).toInt) {x y : Option α} : wq_b1 (gX7_isGoodbye told g) (fun v => if v = 0 then x else y) = if hasB (told 0) g = 0 then x else y := by rw [hasG_M h, wq_b1_e]
theorem hasW_b {α : Type} {told : Nat → Int32} {g : Int32} (h : 0 ≤ (told 1).toInt) {x y : Option α} : wq_b1 (gX7_isWoman told g) (fun v => if v = 0 then x else y) = if hasB (told 1) g = 0 then x else y := by rw [hasW_M h, wq_b1_e]
section LF
variable {t_tears t_gains t_settings : Nat → Int32} {t_goodbyes t_women : Int32} {m_told : Nat → Int32}
theorem minutes_C (hT : RT t_tears t_gains t_settings t_goodbyes t_women m_told) {k : Nat} (hk : k < 5) (h : (k : Int) < (m_told 0).toInt) {trust len lik : Int32} (h0 : 0 ≤ trust.toInt) (h1 : trust.toInt ≤ 24) (h2 : 1 ≤ len.toInt) (h3 : len.toInt ≤ 96) : gX5_minutes t_tears t_settings t_goodbyes (nI k) trust len lik = some (cryI (m_told (8 + k)) (m_told 2) trust len lik) := by
  obtain ⟨⟨⟨g0, g5⟩, -⟩, e1, e2, ⟨s0, s1, s2, s3⟩, ht⟩ := hT
  unfold gX5_minutes cryI
  rw [e1, tears_C hk h g5, wq_b1_e, set0, wq_b1_e, beyond_C h0 h1 h2 h3, wq_b1_e, within_C, wq_b1_e, (ht k h).1, s0]
def rchI (steep calm tears trust lik : Int32) : Int32 := if 0 ≤ ((calm + lik) - tears) then (if ((2 * trust) + (((calm + lik) - tears) / steep)) ≤ 96 then ((2 * trust) + (((calm + lik) - tears) / steep)) else 96) else 0
theorem calmTo_M (hT : TI m_told) {k : Nat} (hk : k < 5) {trust lik : Int32} : gX7_calmTo m_told (nI k) trust lik = some (rchI (m_told 2) (m_told 3) (m_told (8 + k)) trust lik) := by
  obtain ⟨-, -, ⟨q1, q9⟩, -⟩ := hT
  have hz : ¬ m_told 2 = 0 := by intro e; rw [e] at q1; revert q1; decide
  unfold gX7_calmTo rchI
  rw [wq_chk_in (in8 (by omega) (by omega)), ix8 (by omega)]
  by_cases c : 0 ≤ ((m_told 3 + lik) - m_told (8 + k))
  · rw [if_pos c, if_pos c, wq_nz_ne hz]; split <;> rfl
  · rw [if_neg c, if_neg c]
theorem quot_C {a b : Int32} (h : 1 ≤ b.toInt) : gX6_quotient a b = some (a / b) := by
  unfold gX6_quotient
  rw [if_pos (by rw [pn_le]; exact h), wq_nz_ne (by intro e; rw [e] at h; revert h; decide)]
theorem reach_C (hT : RT t_tears t_gains t_settings t_goodbyes t_women m_told) {k : Nat} (hk : k < 5) (h : (k : Int) < (m_told 0).toInt) {trust lik : Int32} : gX5_reach t_tears t_settings t_goodbyes (nI k) trust lik = some (rchI (m_told 2) (m_told 3) (m_told (8 + k)) trust lik) := by
  obtain ⟨⟨⟨g0, g5⟩, -, ⟨q1, q9⟩, -⟩, e1, e2, ⟨s0, s1, s2, s3⟩, ht⟩ := hT
  unfold gX5_reach rchI
  rw [set1, wq_b1_e, e1, tears_C hk h g5, wq_b1_e, (ht k h).1, s1, set0, s0]
  by_cases c : 0 ≤ ((m_told 3 + lik) - m_told (8 + k))
  · rw [if_pos c, if_pos c, wq_b1_e, quot_C q1, wq_b1_e]
    simp only [pn_lt, pn_le, Int32.reduceToInt]
    (repeat' split) <;> first | rfl | (exfalso; omega) | (refine congrArg some ?_; rw [fa_eq]; simp only [Int32.reduceToInt] at *; omega)
  · rw [if_neg c, if_neg c]
/-- what isMorning answers -/
def mB (gb wm g len w : Int32) : Int32 := if (0 ≤ g.toInt ∧ g.toInt < gb.toInt) ∧ (1 ≤ len.toInt ∧ len.toInt ≤ 96) ∧ 0 ≤ w.toInt ∧ w.toInt < wm.toInt then 1 else 0
theorem hasB_if {n g : Int32} {α : Type} {x y : α} : (if hasB n g = 0 then x else y) = if 0 ≤ g.toInt ∧ g.toInt < n.toInt then y else x := by
  unfold hasB
  by_cases c : 0 ≤ g.toInt ∧ g.toInt < n.toInt
  · rw [if_pos c, if_pos c, if_neg (by decide)]
  · rw [if_neg c, if_neg c, if_pos rfl]
theorem morn_C (hT : RT t_tears t_gains t_settings t_goodbyes t_women m_told) (g len w : Int32) : gX6_isMorning t_goodbyes t_women g len w = some (mB (m_told 0) (m_told 1) g len w) := by
  obtain ⟨⟨⟨g0, g5⟩, ⟨w0, w4⟩, -⟩, e1, e2, -⟩ := hT
  unfold gX6_isMorning mB gX6_isLength
  rw [e1, e2, hasG_C g5, wq_b1_e, hasB_if, hasW_C w4, wq_b1_e, hasB_if]
  simp only [pn_lt, pn_le, Int32.reduceToInt]
  (repeat' split) <;> first | rfl | (exfalso; omega) | (simp only [wq_b1]; (repeat' split) <;> first | rfl | (exfalso; omega) | contradiction)
theorem morn_M (hT : TI m_told) (g len w : Int32) : gX7_isMorning m_told g len w = some (mB (m_told 0) (m_told 1) g len w) := by
  obtain ⟨⟨g0, g5⟩, ⟨w0, w4⟩, -⟩ := hT
  unfold gX7_isMorning mB
  rw [hasG_M g0, wq_b1_e, hasB_if, in_M, wq_b1_e, hasW_M w0, wq_b1_e, hasB_if]
  simp only [Int32.reduceToInt]
  (repeat' split) <;> first | rfl | (exfalso; omega) | contradiction
theorem mB_1 {gb wm g len w : Int32} (h : ¬ mB gb wm g len w = 0) (h5 : gb.toInt ≤ 5) (h4 : wm.toInt ≤ 4) : (1 ≤ len.toInt ∧ len.toInt ≤ 96) ∧ (∃ k : Nat, k < 5 ∧ g = nI k ∧ (k : Int) < gb.toInt) ∧ ∃ j : Nat, j < 4 ∧ w = nI j ∧ (j : Int) < wm.toInt := by
  unfold mB at h
  by_cases c : (0 ≤ g.toInt ∧ g.toInt < gb.toInt) ∧ (1 ≤ len.toInt ∧ len.toInt ≤ 96) ∧ 0 ≤ w.toInt ∧ w.toInt < wm.toInt
  · obtain ⟨k, a1, a2, a3⟩ := pn_nI (N := 5) c.1.1 (by omega)
    obtain ⟨j, b1, b2, b3⟩ := pn_nI (N := 4) c.2.2.1 (by omega)
    exact ⟨c.2.1, ⟨k, a1, a2, by omega⟩, j, b1, b2, by omega⟩
  · rw [if_neg c] at h; exact absurd rfl h
end LF
