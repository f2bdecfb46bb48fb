/-! the pure layer: what he showed -/
def RS (h_tll h_beyond h_minutes : Nat → Int32) (h_size : Int32) (notes : Nat → Int32) (noted : Int32) (told : Nat → Int32) : Prop := h_size = noted ∧ (0 ≤ noted.toInt ∧ noted.toInt ≤ 6) ∧ ∀ k : Nat, (k : Int) < noted.toInt → (∃ g : Nat, g < 5 ∧ notes (5 * k) = nI g ∧ h_tll k = told (8 + g) - notes (5 * k + 3)) ∧ h_beyond k = overI (notes (5 * k + 2)) (notes (5 * k + 1)) ∧ h_minutes k = notes (5 * k + 4)
theorem len_C (a : Int32) : gX6_isLength a = some (if 1 ≤ a.toInt ∧ a.toInt ≤ 96 then 1 else 0) := by
  unfold gX6_isLength
  simp only [pn_lt, pn_le, Int32.reduceToInt]
  (repeat' split) <;> first | rfl | (exfalso; omega)
section SH
variable {t_tears t_gains t_settings : Nat → Int32} {t_goodbyes t_women : Int32} {m_told : Nat → Int32} {h_tll h_beyond h_minutes : Nat → Int32} {h_size m_noted : Int32} {m_notes : Nat → Int32}
theorem P_shows (hT : RT t_tears t_gains t_settings t_goodbyes t_women m_told) (hS : RS h_tll h_beyond h_minutes h_size m_notes m_noted m_told) (a1 a2 a3 a4 a5 : Int32) : ∃ r tl2 by2 mi2 sz2 nt2 nd2, gX6_shows h_tll h_beyond h_minutes h_size t_tears t_goodbyes a1 a2 a3 a4 a5 = some (r, tl2, by2, mi2, sz2) ∧ gX7_shows m_told m_notes m_noted a1 a2 a3 a4 a5 = some (r, nt2, nd2) ∧ RS tl2 by2 mi2 sz2 nt2 nd2 m_told := by
  obtain ⟨g0, g5⟩ := hT.1.1
  unfold gX6_shows gX7_shows
  rw [hT.2.1, hasG_C g5, wq_b1_e, hasG_b g0]
  by_cases c : hasB (m_told 0) a1 = 0
  · rw [if_pos c, if_pos c]; exact ⟨_, _, _, _, _, _, _, rfl, rfl, hS⟩
  rw [if_neg c, if_neg c, in_b 0 24 rfl rfl, len_C, wq_b1_e]
  by_cases c2 : 0 ≤ a2.toInt ∧ a2.toInt ≤ 24
  rotate_left
  · rw [if_neg c2]
    by_cases d2 : a2 < 0
    · rw [if_pos d2]; exact ⟨_, _, _, _, _, _, _, rfl, rfl, hS⟩
    · rw [if_neg d2, if_pos (by rw [pn_lt] at d2 ⊢; simp only [Int32.reduceToInt] at d2 ⊢; omega)]; exact ⟨_, _, _, _, _, _, _, rfl, rfl, hS⟩
  rw [if_pos c2, if_neg (by rw [pn_lt]; simp only [Int32.reduceToInt]; omega), if_neg (by rw [pn_lt]; simp only [Int32.reduceToInt]; omega), in_b 1 96 rfl rfl]
  by_cases c3 : 1 ≤ a3.toInt ∧ a3.toInt ≤ 96
  rotate_left
  · rw [if_neg c3, if_neg c3, if_pos rfl]; exact ⟨_, _, _, _, _, _, _, rfl, rfl, hS⟩
  rw [if_pos c3, if_pos c3, if_neg (by decide), in_b 0 9 rfl rfl]
  by_cases c4 : 0 ≤ a4.toInt ∧ a4.toInt ≤ 9
  rotate_left
  · rw [if_neg c4]
    by_cases d2 : a4 < 0
    · rw [if_pos d2]; exact ⟨_, _, _, _, _, _, _, rfl, rfl, hS⟩
    · rw [if_neg d2, if_pos (by rw [pn_lt] at d2 ⊢; simp only [Int32.reduceToInt] at d2 ⊢; omega)]; exact ⟨_, _, _, _, _, _, _, rfl, rfl, hS⟩
  rw [if_pos c4, if_neg (by rw [pn_lt]; simp only [Int32.reduceToInt]; omega), if_neg (by rw [pn_lt]; simp only [Int32.reduceToInt]; omega), in_b 0 60 rfl rfl]
  by_cases c5 : 0 ≤ a5.toInt ∧ a5.toInt ≤ 60
  rotate_left
  · rw [if_neg c5]
    by_cases d2 : a5 < 0
    · rw [if_pos d2]; exact ⟨_, _, _, _, _, _, _, rfl, rfl, hS⟩
    · rw [if_neg d2, if_neg (by rw [pn_lt] at d2; rw [pn_le]; simp only [Int32.reduceToInt] at d2 ⊢; omega)]; exact ⟨_, _, _, _, _, _, _, rfl, rfl, hS⟩
  obtain ⟨k, hk, rfl, -, hlt⟩ := hasB_1 c g5
  rw [if_pos c5, if_neg (by rw [pn_lt]; simp only [Int32.reduceToInt]; omega), if_pos (by rw [pn_le]; simp only [Int32.reduceToInt]; omega), tears_C hk hlt g5, wq_b1_e, beyond_C c2.1 c2.2 c3.1 c3.2, wq_b1_e, (hT.2.2.2.2 k hlt).1]
  obtain ⟨rfl, ⟨n0, n6⟩, hr⟩ := id hS
  unfold gX3_add
  by_cases c6 : h_size = 6
  · rw [if_pos c6, c6, if_neg (by decide), if_neg (by decide), wq_b5_e]
    rw [c6] at hS
    exact ⟨_, _, _, _, _, _, _, rfl, rfl, hS⟩
  · obtain ⟨N, hN, rfl, he⟩ := pn_nI (N := 6) n0 (by have := lv_neT c6 (a := 6) rfl; omega)
    rw [if_neg c6, if_neg (by rw [pn_lt, he]; simp only [Int32.reduceToInt]; omega), if_pos (by rw [pn_lt, he]; simp only [Int32.reduceToInt]; omega), wq_chk_in (vp_in_nI hN (by omega)), wq_b5_e]
    rw [show (5 : Int32) = nI 5 from rfl, pk_mul, show (1 : Int32) = nI 1 from rfl, show (2 : Int32) = nI 2 from rfl, show (3 : Int32) = nI 3 from rfl, show (4 : Int32) = nI 4 from rfl]
    simp only [nI_add]
    rw [wq_chk_in (vp_in_nI (by omega) (by omega)), wq_chk_in (vp_in_nI (by omega) (by omega)), wq_chk_in (vp_in_nI (by omega) (by omega)), wq_chk_in (vp_in_nI (by omega) (by omega)), wq_chk_in (vp_in_nI (by omega) (by omega)), pn_cl (by omega), pn_cl (by omega), pn_cl (by omega), pn_cl (by omega), pn_cl (by omega), pn_cl (by omega)]
    refine ⟨_, _, _, _, _, _, _, rfl, rfl, rfl, by rw [pn_ti (by omega)]; omega, fun j hj => ?_⟩
    rw [pn_ti (by omega)] at hj
    by_cases e : j = N
    · subst e
      rw [pk_us, pk_us, pk_us]
      refine ⟨⟨k, hk, ?_, ?_⟩, ?_, ?_⟩
      · rw [pk_un (by omega), pk_un (by omega), pk_un (by omega), pk_un (by omega), pk_us]
      · rw [pk_un (by omega), pk_us]
      · rw [pk_un (by omega), pk_un (by omega), pk_us, pk_un (by omega), pk_un (by omega), pk_un (by omega), pk_us]
      · rw [pk_us]
    · rw [pk_un e, pk_un e, pk_un e]
      obtain ⟨⟨g, q1, q2, q3⟩, q4, q5⟩ := hr j (by rw [he]; omega)
      refine ⟨⟨g, q1, ?_, ?_⟩, ?_, ?_⟩
      · rw [pk_un (by omega), pk_un (by omega), pk_un (by omega), pk_un (by omega), pk_un (by omega)]; exact q2
      · rw [pk_un (by omega), pk_un (by omega), pk_un (by omega), pk_un (by omega), pk_un (by omega)]; exact q3
      · rw [pk_un (by omega), pk_un (by omega), pk_un (by omega), pk_un (by omega), pk_un (by omega), pk_un (by omega), pk_un (by omega), pk_un (by omega), pk_un (by omega), pk_un (by omega)]; exact q4
      · rw [pk_un (by omega), pk_un (by omega), pk_un (by omega), pk_un (by omega), pk_un (by omega)]; exact q5
theorem P_forget (hS : RS h_tll h_beyond h_minutes h_size m_notes m_noted m_told) : ∃ r sz2 nd2, gX6_forget h_size = some (r, sz2) ∧ gX7_forget m_noted = some (r, nd2) ∧ RS h_tll h_beyond h_minutes sz2 m_notes nd2 m_told := by
  obtain ⟨rfl, -, -⟩ := hS
  exact ⟨_, _, _, rfl, rfl, rfl, by decide, fun k hk => absurd hk (by simp only [Int32.reduceToInt]; omega)⟩
/-- all of m from i on -/
def alF (p : Nat → Bool) : Nat → Nat → Bool
  | _, 0 => true
  | i, m + 1 => p i && alF p (i + 1) m
def fitB (h_tll h_beyond h_minutes : Nat → Int32) (steep : Int32) (k : Nat) : Bool := decide (clampI (h_tll k + steep * h_beyond k) = h_minutes k)
theorem so_2 {steep : Int32} {N : Nat} (hN : N ≤ 6) : ∀ (m n i : Nat), i + m = N → m < n → gX3_isSoBy_L2 h_tll h_beyond h_minutes (nI N) steep n (nI i) = some (if alF (fitB h_tll h_beyond h_minutes steep) i m = true then 1 else 0)
  | m, 0, i, _, h => absurd h (by omega)
  | 0, n + 1, i, hi, h => by
    rw [gX3_isSoBy_L2, if_pos (by rw [pn_le, pn_ti (by omega), pn_ti (by omega)]; omega)]
    rfl
  | m + 1, n + 1, i, hi, h => by
    rw [gX3_isSoBy_L2, if_neg (by rw [pn_le, pn_ti (by omega), pn_ti (by omega)]; omega), if_neg (by rw [pn_le, pn_ti (by omega)]; simp only [Int32.reduceToInt]; omega), wq_chk_in (vp_in_nI (by omega) (by omega)), pn_cl (by omega), within_C, wq_b1_e, nI_1]
    by_cases c : clampI (h_tll i + steep * h_beyond i) = h_minutes i
    · rw [if_pos c, so_2 hN m n (i + 1) (by omega) (by omega)]
      have e : fitB h_tll h_beyond h_minutes steep i = true := decide_eq_true c
      rw [alF, e, Bool.true_and]
    · rw [if_neg c]
      have e : fitB h_tll h_beyond h_minutes steep i = false := decide_eq_false c
      rw [alF, e, Bool.false_and]
      rfl
theorem i32_ac (a b c : Int32) : (a - c) + b = (a + b) - c := by
  rw [Int32.sub_eq_add_neg, Int32.sub_eq_add_neg, Int32.add_assoc, Int32.add_comm (-c) b, ← Int32.add_assoc]
theorem fi_15 {kk : Int32 → Int32 → Option Int32} {steep x1 : Int32} {N : Nat} (hS : RS h_tll h_beyond h_minutes (nI N) m_notes (nI N) m_told) (hN : N ≤ 6) : ∀ (m n i : Nat) (b : Bool), i + m = N → m < n → gX7_fits_L15 kk m_told m_notes (nI N) x1 steep n (if b = true then 1 else 0) (nI (5 * i)) = (if (b && alF (fitB h_tll h_beyond h_minutes steep) i m) = true then kk (x1 ||| ((1 : Int32) <<< (steep &&& 31))) (steep + 1) else kk (x1 ||| 0) (steep + 1))
  | m, 0, i, b, _, h => absurd h (by omega)
  | 0, n + 1, i, b, hi, h => by
    rw [gX7_fits_L15, show (5 : Int32) = nI 5 from rfl, pk_mul, if_pos (by rw [pn_le, pn_ti (by omega), pn_ti (by omega)]; omega)]
    cases b <;> rfl
  | m + 1, n + 1, i, b, hi, h => by
    rw [gX7_fits_L15, show (5 : Int32) = nI 5 from rfl, pk_mul, if_neg (by rw [pn_le, pn_ti (by omega), pn_ti (by omega)]; omega)]
    obtain ⟨-, -, hr⟩ := hS
    cases b with
    | false =>
      rw [if_neg (show ¬ (false = true) by decide), if_pos rfl, nI_add, show 5 * i + 5 = 5 * (i + 1) by omega]
      exact fi_15 ⟨rfl, by rw [pn_ti (by omega)]; omega, hr⟩ hN m n (i + 1) false (by omega) (by omega)
    | true =>
      obtain ⟨⟨g, q1, q2, q3⟩, q4, q5⟩ := hr i (by rw [pn_ti (by omega)]; omega)
      rw [if_pos rfl, if_neg (by decide), wq_chk_in (vp_in_nI (by omega) (by omega)), pn_cl (by omega), q2, wq_chk_in (in8 (by omega) (by omega)), ix8 (by omega), show (1 : Int32) = nI 1 from rfl, show (2 : Int32) = nI 2 from rfl, show (3 : Int32) = nI 3 from rfl, show (4 : Int32) = nI 4 from rfl]
      simp only [nI_add]
      rw [wq_chk_in (vp_in_nI (by omega) (by omega)), wq_chk_in (vp_in_nI (by omega) (by omega)), wq_chk_in (vp_in_nI (by omega) (by omega)), pn_cl (by omega), pn_cl (by omega), pn_cl (by omega), cries_M, wq_b1_e, wq_chk_in (vp_in_nI (by omega) (by omega)), pn_cl (by omega)]
      have ec : cryI (m_told (8 + g)) steep (m_notes (5 * i + 1)) (m_notes (5 * i + 2)) (m_notes (5 * i + 3)) = clampI (h_tll i + steep * h_beyond i) := by
        unfold cryI
        rw [q3, q4, i32_ac]
      rw [ec, ← q5, show 5 * i + 5 = 5 * (i + 1) by omega]
      by_cases c : clampI (h_tll i + steep * h_beyond i) = h_minutes i
      · have e : fitB h_tll h_beyond h_minutes steep i = true := decide_eq_true c
        rw [if_pos c, alF, e, Bool.true_and, Bool.true_and]
        have z := fi_15 (kk := kk) (steep := steep) (x1 := x1) ⟨rfl, by rw [pn_ti (by omega)]; omega, hr⟩ hN m n (i + 1) true (by omega) (by omega)
        rw [if_pos rfl, Bool.true_and] at z
        exact z
      · have e : fitB h_tll h_beyond h_minutes steep i = false := decide_eq_false c
        rw [if_neg c, alF, e, Bool.false_and, Bool.true_and]
        have z := fi_15 (kk := kk) (steep := steep) (x1 := x1) ⟨rfl, by rw [pn_ti (by omega)]; omega, hr⟩ hN m n (i + 1) false (by omega) (by omega)
        rw [if_neg (show ¬ (false = true) by decide), Bool.false_and] at z
        exact z
theorem fi_4 {N : Nat} (hS : RS h_tll h_beyond h_minutes (nI N) m_notes (nI N) m_told) (hN : N ≤ 6) : ∀ (m n st : Nat) (x1 : Int32), st + m = 10 → m < n → ∃ r, gX6_fits_L4 h_tll h_beyond h_minutes (nI N) n x1 (nI st) = some r ∧ gX7_fits_L4 m_told m_notes (nI N) n x1 (nI st) = some r
  | m, 0, st, _, _, h => absurd h (by omega)
  | 0, n + 1, st, x1, hs, h => by
    rw [gX6_fits_L4, gX7_fits_L4, show st = 10 by omega, if_pos (by decide), if_pos (by decide)]
    exact ⟨_, rfl, rfl⟩
  | m + 1, n + 1, st, x1, hs, h => by
    rw [gX6_fits_L4, gX7_fits_L4, if_neg (by rw [pn_lt, pn_ti (by omega)]; simp only [Int32.reduceToInt]; omega), if_neg (by rw [pn_le, pn_ti (by omega)]; simp only [Int32.reduceToInt]; omega)]
    unfold gX3_isSoBy
    rw [show (0 : Int32) = nI 0 from rfl, so_2 hN N 1000 0 (by omega) (by omega), wq_b1_e]
    have z := fi_15 (kk := gX7_fits_L4 m_told m_notes (nI N) n) (steep := nI st) (x1 := x1) hS hN N 1000 0 true (by omega) (by omega)
    rw [if_pos rfl, Bool.true_and, Nat.mul_zero, nI_1] at z
    rw [z, nI_1]
    by_cases c : alF (fitB h_tll h_beyond h_minutes (nI st)) 0 N = true
    · rw [if_pos c, if_pos c, if_neg (by decide)]
      exact fi_4 hS hN m n (st + 1) _ (by omega) (by omega)
    · rw [if_neg c, if_neg c, if_pos (by decide), Int32.or_zero]
      exact fi_4 hS hN m n (st + 1) x1 (by omega) (by omega)
theorem P_fits (hS : RS h_tll h_beyond h_minutes h_size m_notes m_noted m_told) : ∃ r, gX6_fits h_tll h_beyond h_minutes h_size = some r ∧ gX7_fits m_told m_notes m_noted = some r := by
  obtain ⟨rfl, ⟨n0, n6⟩, -⟩ := id hS
  obtain ⟨N, hN, rfl, he⟩ := pn_nI (N := 7) n0 (by omega)
  exact fi_4 hS (by omega) 9 1000 1 0 (by omega) (by omega)
end SH
