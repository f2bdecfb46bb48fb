/-! the pure layer: odds -/
theorem clampI_i (m : Int32) : (clampI m).toInt = max 0 (min 60 m.toInt) := by
  unfold clampI
  by_cases c : m < 0
  · rw [if_pos c]; rw [pn_lt] at c; simp only [Int32.reduceToInt] at c ⊢; omega
  · by_cases c2 : 60 < m
    · rw [if_neg c, if_pos c2]; rw [pn_lt] at c c2; simp only [Int32.reduceToInt] at c c2 ⊢; omega
    · rw [if_neg c, if_neg c2]; rw [pn_lt] at c c2; simp only [Int32.reduceToInt] at c c2; omega
theorem pk_remN {a d : Nat} (ha : a < 2147483648) (h0 : 0 < d) (hd : d < 2147483648) : nI a - nI a / nI d * nI d = nI (a % d) := pk_rem (by omega) h0 (by omega)
theorem mod_half {b r : Nat} (h0 : 0 < r) (h : r < b) : 2 * (b % r) < b := by
  have h1 := Nat.mod_lt b h0
  have h2 := Nat.div_add_mod b r
  have h3 : 1 ≤ b / r := (Nat.le_div_iff_mul_le h0).mpr (by omega)
  have h4 : r * 1 ≤ r * (b / r) := Nat.mul_le_mul_left r h3
  omega
theorem gd_C : ∀ (k n i a b : Nat), b < 2 ^ k → a < 2147483648 → b < 2147483648 → 2 * k + i < 64 → 2 * k + 1 < n → gX6_greatestDivisor_L7 n (nI a) (nI b) (nI i) = some (nI (Nat.gcd a b))
  | k, 0, i, a, b, _, _, _, _, h => absurd h (by omega)
  | 0, n + 1, i, a, b, hb, ha, hb2, hi, h => by
    have e : b = 0 := by omega
    subst e
    rw [gX6_greatestDivisor_L7, if_neg (by rw [pn_le, pn_ti (by omega)]; simp only [Int32.reduceToInt]; omega), if_pos (by decide), Nat.gcd_zero_right]
  | k + 1, n + 1, i, a, b, hb, ha, hb2, hi, h => by
    rw [gX6_greatestDivisor_L7, if_neg (by rw [pn_le, pn_ti (by omega)]; simp only [Int32.reduceToInt]; omega)]
    by_cases c : b = 0
    · subst c; rw [if_pos (by decide), Nat.gcd_zero_right]
    · have hz : ¬ nI b = 0 := nI_ne0 (by omega) (by omega)
      rw [if_neg hz, wq_nz_ne hz, pk_remN ha (by omega) hb2, nI_1]
      have hr := Nat.mod_lt a (show 0 < b by omega)
      obtain ⟨n2, rfl⟩ : ∃ n2, n = n2 + 1 := ⟨n - 1, by omega⟩
      rw [gX6_greatestDivisor_L7, if_neg (by rw [pn_le, pn_ti (by omega)]; simp only [Int32.reduceToInt]; omega)]
      by_cases c2 : a % b = 0
      · rw [c2, if_pos (by decide), Nat.gcd_comm, Nat.gcd_rec, c2, Nat.gcd_zero_left]
      · have hz2 : ¬ nI (a % b) = 0 := nI_ne0 (by omega) (by omega)
        have hm := mod_half (b := b) (r := a % b) (by omega) hr
        rw [if_neg hz2, wq_nz_ne hz2, pk_remN hb2 (by omega) (by omega), nI_1]
        rw [gd_C k n2 (i + 1 + 1) (a % b) (b % (a % b)) (by rw [Nat.pow_succ] at hb; omega) (by omega) (by omega) (by omega) (by omega)]
        congr 2
        rw [Nat.gcd_comm (a % b), ← Nat.gcd_rec, ← Nat.gcd_rec, Nat.gcd_comm]
theorem gd_M {z h : Nat → Int32} {a7 x8 x9 : Int32} : ∀ (k n a b : Nat), b < 2 ^ k → 0 < a + b → a < 2147483648 → b < 2147483648 → 2 * k + 1 < n → gX7_odds_L172 z h a7 x8 x9 n (nI a) (nI b) = (if a7 = 0 then some (x8 / nI (Nat.gcd a b), z, h) else some (x9 / nI (Nat.gcd a b), z, h))
  | k, 0, a, b, _, _, _, _, h => absurd h (by omega)
  | 0, n + 1, a, b, hb, h0, ha, hb2, h => by
    have e : b = 0 := by omega
    subst e
    have hz : ¬ nI a = 0 := nI_ne0 (by omega) (by omega)
    rw [gX7_odds_L172, if_pos (by decide), wq_nz_ne hz, wq_nz_ne hz, Nat.gcd_zero_right]
  | k + 1, n + 1, a, b, hb, h0, ha, hb2, h => by
    rw [gX7_odds_L172]
    by_cases c : b = 0
    · subst c
      have hz : ¬ nI a = 0 := nI_ne0 (by omega) (by omega)
      rw [if_pos (by decide), wq_nz_ne hz, wq_nz_ne hz, Nat.gcd_zero_right]
    · have hz : ¬ nI b = 0 := nI_ne0 (by omega) (by omega)
      rw [if_neg (nI_nle (by omega) (by omega)), wq_nz_ne hz, pk_remN ha (by omega) hb2]
      have hr := Nat.mod_lt a (show 0 < b by omega)
      obtain ⟨n2, rfl⟩ : ∃ n2, n = n2 + 1 := ⟨n - 1, by omega⟩
      rw [gX7_odds_L172]
      by_cases c2 : a % b = 0
      · rw [c2, if_pos (by decide), wq_nz_ne hz, wq_nz_ne hz, Nat.gcd_comm a b, Nat.gcd_rec b a, c2, Nat.gcd_zero_left]
      · have hz2 : ¬ nI (a % b) = 0 := nI_ne0 (by omega) (by omega)
        have hm := mod_half (b := b) (r := a % b) (by omega) hr
        rw [if_neg (nI_nle (by omega) (by omega)), wq_nz_ne hz2, pk_remN hb2 (by omega) (by omega)]
        rw [gd_M k n2 (a % b) (b % (a % b)) (by rw [Nat.pow_succ] at hb; omega) (by omega) (by omega) (by omega) (by omega)]
        rw [Nat.gcd_comm (a % b), ← Nat.gcd_rec, ← Nat.gcd_rec, Nat.gcd_comm b a]
theorem ho_2 {s : Nat → Int32} (h0 : Nat → Int32) : ∀ (n i : Nat), i ≤ 8 → 8 - i < n → gX7_holds_L2 s n (nI i) (fa_fill s h0 i) = some (fa_fill s h0 8)
  | 0, i, _, h => absurd h (by omega)
  | n + 1, i, hi, h => by
    rw [gX7_holds_L2]
    by_cases c : i = 8
    · subst c; rw [if_pos (by decide)]
    · rw [if_neg (by rw [pn_le, pn_ti (by omega)]; simp only [Int32.reduceToInt]; omega), wq_chk_in (vp_in_nI (by omega) (by omega)), pn_cl (by omega), nI_1, fa_fill_succ]
      exact ho_2 h0 n (i + 1) (by omega) (by omega)
theorem holds_M (s h0 : Nat → Int32) : gX7_holds s h0 = some (fa_fill s h0 8) := by
  have g := ho_2 (s := s) h0 1000 0 (by omega) (by omega)
  rw [fa_fill_0] at g
  exact g
theorem le_2 {s : Nat → Int32} (h0 : Nat → Int32) : ∀ (n i : Nat), i ≤ 8 → 8 - i < n → gX7_lets_L2 s n (nI i) (fa_fill s h0 i) = some (fa_fill s h0 8)
  | 0, i, _, h => absurd h (by omega)
  | n + 1, i, hi, h => by
    rw [gX7_lets_L2]
    by_cases c : i = 8
    · subst c; rw [if_pos (by decide)]
    · rw [if_neg (by rw [pn_le, pn_ti (by omega)]; simp only [Int32.reduceToInt]; omega), wq_chk_in (vp_in_nI (by omega) (by omega)), pn_cl (by omega), nI_1, fa_fill_succ]
      exact le_2 h0 n (i + 1) (by omega) (by omega)
theorem lets_M (s h : Nat → Int32) : gX7_lets s h = some (fa_fill h s 8) := by
  have g := le_2 (s := h) s 1000 0 (by omega) (by omega)
  rw [fa_fill_0] at g
  exact g
section OD
variable {t_tears t_gains t_settings : Nat → Int32} {t_goodbyes t_women : Int32} {m_told : Nat → Int32} {n_likings : Nat → Int32} {n_day n_trust n_ill n_done : Int32} {m_s : Nat → Int32}
/-- in how many of ten he is calm -/
def tenN (calm m mo : Int32) (x : Nat) : Nat := (if calm < m then 0 else 10 - x) + (if calm < mo then 0 else x)
theorem tenths_C (hT : RT t_tears t_gains t_settings t_goodbyes t_women m_told) {m d : Int32} {x : Nat} (hx : x ≤ 10) (m0 : 0 ≤ m.toInt) (m6 : m.toInt ≤ 60) (d0 : 1 ≤ d.toInt) (d2 : d.toInt ≤ 20) : gX5_calmTenths t_settings m (nI x) d = some (nI (tenN (m_told 3) m (clampI (m + d)) x)) := by
  have e : (m + d).toInt = m.toInt + d.toInt := fb_addI (by omega) (by omega)
  have ec : (if (m + d) < 60 then (m + d) else 60) = clampI (m + d) := by
    rw [fa_eq, clampI_i, e]
    by_cases c : (m + d) < 60
    · rw [if_pos c, e]; rw [pn_lt, e] at c; simp only [Int32.reduceToInt] at c; omega
    · rw [if_neg c]; rw [pn_lt, e] at c; simp only [Int32.reduceToInt] at c ⊢; omega
  unfold gX5_calmTenths tenN
  rw [ec, calm_C hT, wq_b1_e, calm_C hT, wq_b1_e, wq_b1_e]
  by_cases c : m_told 3 < m
  · by_cases c2 : m_told 3 < clampI (m + d)
    · rw [if_pos c, if_pos c2, if_pos rfl, if_pos rfl, if_pos c, if_pos c2]; rfl
    · rw [if_pos c, if_neg c2, if_pos rfl, if_neg (by decide), if_pos c, if_neg c2, show (0 : Int32) = nI 0 from rfl, nI_add]
  · by_cases c2 : m_told 3 < clampI (m + d)
    · rw [if_neg c, if_pos c2, if_neg (by decide), if_pos rfl, if_neg c, if_pos c2, show (0 : Int32) = nI 0 from rfl, show (10 : Int32) = nI 10 from rfl, pk_sub hx, nI_add]
    · rw [if_neg c, if_neg c2, if_neg (by decide), if_neg (by decide), if_neg c, if_neg c2, show (10 : Int32) = nI 10 from rfl, pk_sub hx, nI_add]
theorem calmerL_C (l : Int32) : gX5_calmerLiking l = some (calmL l) := rfl
theorem tenN_le {calm m mo : Int32} {x : Nat} (hx : x ≤ 10) : tenN calm m mo x ≤ 10 := by unfold tenN; (repeat' split) <;> omega
/-- the two loops side by side -/
theorem od_89 (hT : RT t_tears t_gains t_settings t_goodbyes t_women m_told) {held : Nat → Int32} {k j x : Nat} (hk : k < 5) (hk2 : (k : Int) < (m_told 0).toInt) (hj : j < 4) (hx : x ≤ 10) {len d a7 : Int32} (l1 : 1 ≤ len.toInt) (l2 : len.toInt ≤ 96) (d0 : 1 ≤ d.toInt) (d2 : d.toInt ≤ 20) {N : Nat} (hN : N ≤ 5) :
    ∀ (m n i u : Nat) (t l : Int32) (s : Nat → Int32), i + m = N → m < n → u ≤ 10 ^ i → NJ s → (0 ≤ t.toInt ∧ t.toInt ≤ 24) → (0 ≤ l.toInt ∧ l.toInt ≤ 9) → (u = 0 ∨ (t = s 1 ∧ l = s (4 + j))) → ∃ r s2, gX6_odds_L89 t_tears t_gains t_settings t_goodbyes (nI k) len (nI N) (nI x) d a7 n t l (nI u) (nI (10 ^ i)) (nI i) = some r ∧ gX7_odds_L67 m_told held (nI k) len (nI j) (nI N) (nI x) d a7 n (nI u) (nI (10 ^ i)) (nI i) s = some (r, s2, held) ∧ ∀ q, q < 8 → s2 q = held q
  | m, 0, i, u, t, l, s, _, h, _, _, _, _, _ => absurd h (by omega)
  | 0, n + 1, i, u, t, l, s, hi, h, hu, hs, ht, hl, hsync => by
    have hp : 10 ^ i ≤ 10 ^ 5 := Nat.pow_le_pow_right (by omega) (by omega)
    have hp0 : 0 < 10 ^ i := Nat.pow_pos (by omega)
    have hp5 : (10 : Nat) ^ 5 = 100000 := rfl
    have hlt : 10 ^ i < 2 ^ 17 := by have : (2 : Nat) ^ 17 = 131072 := rfl; omega
    have hc : nI N ≤ nI i := by rw [pn_le, pn_ti (by omega), pn_ti (by omega)]; omega
    rw [gX6_odds_L89, gX7_odds_L67, if_pos hc, if_pos hc, lets_M, wq_b1_e]
    unfold gX6_greatestDivisor
    rw [gd_M 17 1000 u (10 ^ i) hlt (by omega) (by omega) (by omega) (by omega), show (0 : Int32) = nI 0 from rfl, gd_C 17 1000 0 u (10 ^ i) hlt (by omega) (by omega) (by omega) (by omega), wq_b1_e, wq_b1_e]
    have hg : 0 < Nat.gcd u (10 ^ i) := Nat.gcd_pos_of_pos_right _ hp0
    have hg2 : Nat.gcd u (10 ^ i) ≤ 10 ^ i := Nat.le_of_dvd hp0 (Nat.gcd_dvd_right _ _)
    have q1 : 1 ≤ (nI (Nat.gcd u (10 ^ i))).toInt := by rw [pn_ti (by omega)]; omega
    rw [quot_C q1, quot_C q1, wq_b1_e, wq_b1_e]
    by_cases c : a7 = nI 0
    · rw [if_pos c, if_pos c]; exact ⟨_, _, rfl, rfl, fun q hq => fa_fill_in hq⟩
    · rw [if_neg c, if_neg c]; exact ⟨_, _, rfl, rfl, fun q hq => fa_fill_in hq⟩
  | m + 1, n + 1, i, u, t, l, s, hi, h, hu, hs, ht, hl, hsync => by
    have hp : 10 ^ i ≤ 10 ^ 5 := Nat.pow_le_pow_right (by omega) (by omega)
    have hp5 : (10 : Nat) ^ 5 = 100000 := rfl
    obtain ⟨g0, g3⟩ := (hT.1.2.2.2.2.2.2 k hk2).2
    obtain ⟨c0, c20⟩ := hT.1.2.2.2.1
    rw [gX6_odds_L89, gX7_odds_L67, if_neg (by rw [pn_le, pn_ti (by omega), pn_ti (by omega)]; omega), if_neg (by rw [pn_le, pn_ti (by omega), pn_ti (by omega)]; omega), criesNow_M hT.1 hk hj, wq_b1_e, bound60, wq_b1_e]
    obtain ⟨s2, w1, w2, w3, w4, w5, w6, w7⟩ := goes_M hT.1 hs hk hk2 hj (len := len)
    have hs2 : NJ s2 := ⟨by rw [w3]; exact trA_r hs.1.1 hs.1.2 g0 g3, fun q hq => by
      by_cases e : q = j
      · subst e; rw [w6]; exact lkA_r (hs.2 q hq).1 (hs.2 q hq).2
      · rw [w7 q hq e]; exact hs.2 q hq⟩
    -- the class's step
    have mc : ∀ (tt ll : Int32), 0 ≤ (cryI (m_told (8 + k)) (m_told 2) tt len ll).toInt ∧ (cryI (m_told (8 + k)) (m_told 2) tt len ll).toInt ≤ 60 := fun tt ll => by unfold cryI; rw [clampI_i]; omega
    rw [minutes_C hT hk hk2 ht.1 ht.2 l1 l2, wq_b1_e, tenths_C hT hx (mc t l).1 (mc t l).2 d0 d2, wq_b1_e, calmerT_C hT hk hk2, wq_b1_e, calmerL_C, wq_b1_e, pk_mul, show (10 : Int32) = nI 10 from rfl, pk_mul, nI_1]
    have t2 : 0 ≤ (calmT t (m_told (13 + k))).toInt ∧ (calmT t (m_told (13 + k))).toInt ≤ 24 := by rw [calmT_i ht.1 ht.2 g0 g3]; omega
    have l2' : 0 ≤ (calmL l).toInt ∧ (calmL l).toInt ≤ 9 := by rw [calmL_i hl.1 hl.2]; omega
    have hpow : 10 ^ i * 10 = 10 ^ (i + 1) := (Nat.pow_succ 10 i).symm
    -- the reference's step: one factor
    have step : ∀ f : Nat, f ≤ 10 → f = tenN (m_told 3) (cryI (m_told (8 + k)) (m_told 2) (s 1) len (s (4 + j))) (clampI (cryI (m_told (8 + k)) (m_told 2) (s 1) len (s (4 + j)) + d)) x → u * f = u * tenN (m_told 3) (cryI (m_told (8 + k)) (m_told 2) t len l) (clampI (cryI (m_told (8 + k)) (m_told 2) t len l + d)) x ∧ (u * f = 0 ∨ (calmT t (m_told (13 + k)) = s2 1 ∧ calmL l = s2 (4 + j))) := by
      intro f hf ef
      rcases hsync with h0 | ⟨h1, h2⟩
      · rw [h0, Nat.zero_mul, Nat.zero_mul]; exact ⟨rfl, Or.inl rfl⟩
      · rw [h1, h2, ← ef]
        refine ⟨rfl, ?_⟩
        by_cases cc : m_told 3 < cryI (m_told (8 + k)) (m_told 2) (s 1) len (s (4 + j))
        · left
          have hm := mc (s 1) (s (4 + j))
          have em : (cryI (m_told (8 + k)) (m_told 2) (s 1) len (s (4 + j)) + d).toInt = (cryI (m_told (8 + k)) (m_told 2) (s 1) len (s (4 + j))).toInt + d.toInt := fb_addI (by omega) (by omega)
          have cm : m_told 3 < clampI (cryI (m_told (8 + k)) (m_told 2) (s 1) len (s (4 + j)) + d) := by
            rw [pn_lt] at cc ⊢
            rw [clampI_i, em]; omega
          rw [ef]; unfold tenN; rw [if_pos cc, if_pos cm]; rfl
        · right
          rw [w3, w6]; unfold trA lkA; rw [if_neg cc, if_neg cc]; exact ⟨rfl, rfl⟩
    have go : ∀ f : Nat, f ≤ 10 → f = tenN (m_told 3) (cryI (m_told (8 + k)) (m_told 2) (s 1) len (s (4 + j))) (clampI (cryI (m_told (8 + k)) (m_told 2) (s 1) len (s (4 + j)) + d)) x → ∃ r s3, gX6_odds_L89 t_tears t_gains t_settings t_goodbyes (nI k) len (nI N) (nI x) d a7 n (calmT t (m_told (13 + k))) (calmL l) (nI (u * tenN (m_told 3) (cryI (m_told (8 + k)) (m_told 2) t len l) (clampI (cryI (m_told (8 + k)) (m_told 2) t len l + d)) x)) (nI (10 ^ i * 10)) (nI (i + 1)) = some r ∧ gX7_odds_L67 m_told held (nI k) len (nI j) (nI N) (nI x) d a7 n (nI (u * f)) (nI (10 ^ i * 10)) (nI (i + 1)) s2 = some (r, s3, held) ∧ ∀ q, q < 8 → s3 q = held q := by
      intro f hf ef
      obtain ⟨e1, e2⟩ := step f hf ef
      rw [← e1, hpow]
      exact od_89 hT hk hk2 hj hx l1 l2 d0 d2 hN m n (i + 1) (u * f) _ _ s2 (by omega) (by omega) (by rw [← hpow]; exact Nat.mul_le_mul hu hf) hs2 t2 l2' e2
    rw [w1]
    by_cases ca : m_told 3 < cryI (m_told (8 + k)) (m_told 2) (s 1) len (s (4 + j))
    · rw [if_pos ca]
      by_cases cb : m_told 3 < clampI (cryI (m_told (8 + k)) (m_told 2) (s 1) len (s (4 + j)) + d)
      · rw [if_pos cb, wq_b2_e, show (0 : Int32) = nI 0 from rfl, nI_add, pk_mul]
        exact go (0 + 0) (by omega) (by unfold tenN; rw [if_pos ca, if_pos cb])
      · rw [if_neg cb, wq_b2_e, show (0 : Int32) = nI 0 from rfl, nI_add, pk_mul]
        exact go (0 + x) (by omega) (by unfold tenN; rw [if_pos ca, if_neg cb])
    · rw [if_neg ca]
      by_cases cb : m_told 3 < clampI (cryI (m_told (8 + k)) (m_told 2) (s 1) len (s (4 + j)) + d)
      · rw [if_pos cb, wq_b2_e, show (0 : Int32) = nI 0 from rfl, pk_sub hx, nI_add, pk_mul]
        exact go (10 - x + 0) (by omega) (by unfold tenN; rw [if_neg ca, if_pos cb])
      · rw [if_neg cb, wq_b2_e, pk_sub hx, nI_add, pk_mul]
        exact go (10 - x + x) (by omega) (by unfold tenN; rw [if_neg ca, if_neg cb])
theorem P_odds (hT : RT t_tears t_gains t_settings t_goodbyes t_women m_told) (hN : RN n_likings n_day n_trust n_ill n_done m_s) (m_held : Nat → Int32) (a1 a2 a3 a4 a5 a6 a7 : Int32) : ∃ r s2 h2, gX6_odds n_likings n_trust t_tears t_gains t_settings t_goodbyes t_women a1 a2 a3 a4 a5 a6 a7 = some r ∧ gX7_odds m_told m_s m_held a1 a2 a3 a4 a5 a6 a7 = some (r, s2, h2) ∧ RN n_likings n_day n_trust n_ill n_done s2 := by
  unfold gX6_odds gX7_odds
  rw [morn_C hT, morn_M hT.1, wq_b1_e, wq_b1_e]
  by_cases c : mB (m_told 0) (m_told 1) a1 a2 a3 = 0
  · rw [if_pos c, if_pos c]; exact ⟨_, _, _, rfl, rfl, hN⟩
  obtain ⟨⟨l1, l2⟩, ⟨k, hk, rfl, hk2⟩, j, hj, rfl, hj2⟩ := mB_1 c hT.1.1.2 hT.1.2.1.2
  rw [if_neg c, if_neg c, in_b 0 5 rfl rfl]
  by_cases c4 : 0 ≤ a4.toInt ∧ a4.toInt ≤ 5
  rotate_left
  · rw [if_neg c4]
    by_cases d4 : a4 < 0
    · rw [if_pos d4]; exact ⟨_, _, _, rfl, rfl, hN⟩
    · rw [if_neg d4, if_neg (by rw [pn_lt] at d4; rw [pn_le]; simp only [Int32.reduceToInt] at d4 ⊢; omega)]; exact ⟨_, _, _, rfl, rfl, hN⟩
  rw [if_pos c4, if_neg (by rw [pn_lt]; simp only [Int32.reduceToInt]; omega), if_pos (by rw [pn_le]; simp only [Int32.reduceToInt]; omega), in_b 0 10 rfl rfl]
  by_cases c5 : 0 ≤ a5.toInt ∧ a5.toInt ≤ 10
  rotate_left
  · rw [if_neg c5]
    by_cases d4 : a5 < 0
    · rw [if_pos d4]; exact ⟨_, _, _, rfl, rfl, hN⟩
    · rw [if_neg d4, if_pos (by rw [pn_lt] at d4 ⊢; simp only [Int32.reduceToInt] at d4 ⊢; omega)]; exact ⟨_, _, _, rfl, rfl, hN⟩
  rw [if_pos c5, if_neg (by rw [pn_lt]; simp only [Int32.reduceToInt]; omega), if_neg (by rw [pn_lt]; simp only [Int32.reduceToInt]; omega), in_b 1 20 rfl rfl]
  by_cases c6 : 1 ≤ a6.toInt ∧ a6.toInt ≤ 20
  rotate_left
  · rw [if_neg c6]
    by_cases d4 : a6 < 1
    · rw [if_pos d4]; exact ⟨_, _, _, rfl, rfl, hN⟩
    · rw [if_neg d4, if_pos (by rw [pn_lt] at d4 ⊢; simp only [Int32.reduceToInt] at d4 ⊢; omega)]; exact ⟨_, _, _, rfl, rfl, hN⟩
  rw [if_pos c6, if_neg (by rw [pn_lt]; simp only [Int32.reduceToInt]; omega), if_neg (by rw [pn_lt]; simp only [Int32.reduceToInt]; omega), in_b 0 1 rfl rfl]
  by_cases c7 : 0 ≤ a7.toInt ∧ a7.toInt ≤ 1
  rotate_left
  · rw [if_neg c7]
    by_cases d4 : a7 < 0
    · rw [if_pos d4]; exact ⟨_, _, _, rfl, rfl, hN⟩
    · rw [if_neg d4, if_neg (by rw [pn_lt] at d4; rw [pn_le]; simp only [Int32.reduceToInt] at d4 ⊢; omega)]; exact ⟨_, _, _, rfl, rfl, hN⟩
  rw [if_pos c7, if_neg (by rw [pn_lt]; simp only [Int32.reduceToInt]; omega), if_pos (by rw [pn_le]; simp only [Int32.reduceToInt]; omega), holds_M, wq_b1_e, liking_C hj, wq_b1_e]
  obtain ⟨N, hN5, rfl, -⟩ := pn_nI (N := 6) c4.1 (by omega)
  obtain ⟨x, hx, rfl, -⟩ := pn_nI (N := 11) c5.1 (by omega)
  obtain ⟨hI, e0, e1, e2, e3, hl⟩ := id hN
  obtain ⟨r, s2, g1, g2, g3⟩ := od_89 hT (held := fa_fill m_s m_held 8) (a7 := a7) hk hk2 hj (x := x) (by omega) l1 l2 c6.1 c6.2 (N := N) (by omega) N 1000 0 1 n_trust (n_likings j) m_s (by omega) (by omega) (by omega) ⟨hI.2.1, hI.2.2.2.2⟩ (by rw [e1]; exact hI.2.1) (by rw [hl j hj]; exact hI.2.2.2.2 j hj) (Or.inr ⟨e1, hl j hj⟩)
  exact ⟨r, s2, _, g1, g2, RN_congr hN (fun q hq => by rw [g3 q hq, fa_fill_in hq])⟩
end OD
