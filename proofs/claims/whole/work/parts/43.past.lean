/-! the pure layer: folding, the past -/
def FN (d t l0 l1 l2 l3 il dn : Nat) : Nat := (((((((d * 32 + t) * 16 + l0) * 16 + l1) * 16 + l2) * 16 + l3) * 16 + il) * 2 + dn)
def tN (x : Int32) : Nat := x.toInt.toNat
def FS (s : Nat → Int32) : Nat := FN (tN (s 0)) (tN (s 1)) (tN (s 4)) (tN (s 5)) (tN (s 6)) (tN (s 7)) (tN (s 3)) (tN (s 2))
theorem tN_nI {x : Int32} (h : 0 ≤ x.toInt) : x = nI (tN x) := pn_of h
theorem sh1 (n : Nat) : lN n <<< (Int32.toInt64 1 &&& 63) = lN (n * 2) := wb_shl n (k := 1) (by decide)
theorem sh4 (n : Nat) : lN n <<< (Int32.toInt64 4 &&& 63) = lN (n * 16) := wb_shl n (k := 4) (by decide)
theorem sh5 (n : Nat) : lN n <<< (Int32.toInt64 5 &&& 63) = lN (n * 32) := wb_shl n (k := 5) (by decide)
theorem or16 {a b : Nat} (ha : a < 16) (h : b < 2 ^ 50) : lN (b * 16) ||| lN a = lN (b * 16 + a) := g_or (k := 4) rfl ha (by omega)
theorem or32 {a b : Nat} (ha : a < 32) (h : b < 2 ^ 50) : lN (b * 32) ||| lN a = lN (b * 32 + a) := g_or (k := 5) rfl ha (by omega)
theorem or2 {a b : Nat} (ha : a < 2) (h : b < 2 ^ 50) : lN (b * 2) ||| lN a = lN (b * 2 + a) := g_or (k := 1) rfl ha (by omega)
theorem fo_s {lk : Nat → Int32} {il dn : Int32} {x : Int64} {n i : Nat} (h : i < 4) : gX0_folded_L18 lk il dn (n + 1) x (nI i) = gX0_folded_L18 lk il dn n ((x <<< (Int32.toInt64 4 &&& 63)) ||| Int32.toInt64 (lk i)) (nI (i + 1)) := by
  rw [gX0_folded_L18, if_neg (by rw [pn_le, pn_ti (by omega)]; simp only [Int32.reduceToInt]; omega), wq_chk_in (vp_in_nI h (by omega)), pn_cl (by omega), nI_1]
theorem fold_N {lk : Nat → Int32} {d t l0 l1 l2 l3 il dn : Nat} (e0 : lk 0 = nI l0) (e1 : lk 1 = nI l1) (e2 : lk 2 = nI l2) (e3 : lk 3 = nI l3) (hd : d < 1000) (ht : t < 32) (h0 : l0 < 16) (h1 : l1 < 16) (h2 : l2 < 16) (h3 : l3 < 16) (hi : il < 16) (hn : dn < 2) : gX0_folded lk (nI d) (nI t) (nI il) (nI dn) = some (lN (FN d t l0 l1 l2 l3 il dn)) := by
  unfold gX0_folded
  rw [show (0 : Int32) = nI 0 from rfl, fo_s (by omega), fo_s (by omega), fo_s (by omega), fo_s (by omega), e0, e1, e2, e3]
  rw [nI_l (n := d) (by omega), nI_l (n := t) (by omega), nI_l (n := l0) (by omega), nI_l (n := l1) (by omega), nI_l (n := l2) (by omega), nI_l (n := l3) (by omega), sh5, or32 ht (by omega), sh4, or16 h0 (by omega), sh4, or16 h1 (by omega), sh4, or16 h2 (by omega), sh4, or16 h3 (by omega)]
  rw [gX0_folded_L18, if_pos (by decide), sh4, nI_l (n := il) (by omega), or16 hi (by omega), sh1]
  unfold FN
  rcases (show dn = 0 ∨ dn = 1 by omega) with rfl | rfl
  · rw [if_pos (by decide)]
    exact congrArg some (or2 (a := 0) (by omega) (by omega))
  · rw [if_neg (by decide)]
    exact congrArg some (or2 (a := 1) (by omega) (by omega))
theorem sr1 {n : Nat} (h : n < 2 ^ 62) : lN n >>> (Int32.toInt64 1 &&& 63) = lN (n / 2) := pf_shr (d := 1) (by decide) h
theorem sr4 {n : Nat} (h : n < 2 ^ 62) : lN n >>> (Int32.toInt64 4 &&& 63) = lN (n / 16) := pf_shr (d := 4) (by decide) h
theorem sr5 {n : Nat} (h : n < 2 ^ 62) : lN n >>> (Int32.toInt64 5 &&& 63) = lN (n / 32) := pf_shr (d := 5) (by decide) h
theorem ms15 {n : Nat} (h : n < 2 ^ 62) : lN n &&& 15 = lN (n % 16) := g_mask (s := 4) (p := 16) rfl (by omega) (by omega)
theorem ms31 {n : Nat} (h : n < 2 ^ 62) : lN n &&& 31 = lN (n % 32) := g_mask (s := 5) (p := 32) rfl (by omega) (by omega)
theorem un_s {d t il dn : Int32} {lk : Nat → Int32} {n i f : Nat} (h : i < 4) (hf : f < 2 ^ 62) : gX0_unfold_L36 d t il dn (n + 1) (lN f) (nI i) lk = gX0_unfold_L36 d t il dn n (lN (f / 16)) (nI i + (-1)) (upd lk i (nI (f % 16))) := by
  rw [gX0_unfold_L36, if_neg (by rw [pn_lt, pn_ti (by omega)]; simp only [Int32.reduceToInt]; omega), wq_chk_in (vp_in_nI h (by omega)), pn_cl (by omega), sr4 hf, ms15 hf, lN_i]
theorem unfold_L {d t il dn : Int32} {lk : Nat → Int32} {f : Nat} (hf : f < 2 ^ 62) : gX0_unfold_L36 d t il dn 1000 (lN f) 3 lk = some (upd (upd (upd (upd lk 3 (nI (f % 16))) 2 (nI (f / 16 % 16))) 1 (nI (f / 16 / 16 % 16))) 0 (nI (f / 16 / 16 / 16 % 16)), nI (f / 16 / 16 / 16 / 16 / 32), nI (f / 16 / 16 / 16 / 16 % 32), il, dn) := by
  rw [show (3 : Int32) = nI 3 from rfl, un_s (by omega) hf, show nI 3 + (-1) = nI 2 from by decide, un_s (by omega) (by omega), show nI 2 + (-1) = nI 1 from by decide, un_s (by omega) (by omega), show nI 1 + (-1) = nI 0 from by decide, un_s (by omega) (by omega)]
  rw [gX0_unfold_L36, if_pos (by decide), sr5 (by omega), ms31 (by omega), lN_i, lN_i]
theorem cmp1 {n : Nat} (h : n < 2) : (lg_cmp (lN n) 1 = 0) ↔ n = 1 := by
  rcases (show n = 0 ∨ n = 1 by omega) with rfl | rfl <;> decide
theorem unfold_N {d t il dn : Int32} {lk : Nat → Int32} {f : Nat} (hf : f < 2 ^ 62) : ∃ lk2, gX0_unfold lk d t il dn (lN f) = some (lk2, nI (f / 32 / 16 / 16 / 16 / 16 / 32), nI (f / 32 / 16 / 16 / 16 / 16 % 32), nI (f / 2 % 16), nI (f % 2)) ∧ lk2 3 = nI (f / 32 % 16) ∧ lk2 2 = nI (f / 32 / 16 % 16) ∧ lk2 1 = nI (f / 32 / 16 / 16 % 16) ∧ lk2 0 = nI (f / 32 / 16 / 16 / 16 % 16) := by
  unfold gX0_unfold
  rw [g_and1 (by omega), sr1 hf, ms15 (by omega), lN_i, sr5 hf]
  rcases (show f % 2 = 0 ∨ f % 2 = 1 by omega) with e | e
  · rw [e, if_neg (by rw [cmp1 (by omega)]; omega), unfold_L (by omega)]
    exact ⟨_, rfl, rfl, rfl, rfl, rfl⟩
  · rw [e, if_pos (by rw [cmp1 (by omega)]), unfold_L (by omega)]
    exact ⟨_, rfl, rfl, rfl, rfl, rfl⟩
theorem tN_le {x : Int32} {n : Nat} (h : x.toInt ≤ n) : tN x ≤ n := by unfold tN; omega
theorem NI_tN {s : Nat → Int32} (h : NI s) : tN (s 0) < 1000 ∧ tN (s 1) < 32 ∧ tN (s 4) < 16 ∧ tN (s 5) < 16 ∧ tN (s 6) < 16 ∧ tN (s 7) < 16 ∧ tN (s 3) < 16 ∧ tN (s 2) < 2 := by
  obtain ⟨⟨a0, a1⟩, ⟨b0, b1⟩, c, ⟨d0, d1⟩, hl⟩ := h
  have h4 : 0 ≤ (s 4).toInt ∧ (s 4).toInt ≤ 9 := hl 0 (by omega)
  have h5 : 0 ≤ (s 5).toInt ∧ (s 5).toInt ≤ 9 := hl 1 (by omega)
  have h6 : 0 ≤ (s 6).toInt ∧ (s 6).toInt ≤ 9 := hl 2 (by omega)
  have h7 : 0 ≤ (s 7).toInt ∧ (s 7).toInt ≤ 9 := hl 3 (by omega)
  unfold tN
  refine ⟨by omega, by omega, by omega, by omega, by omega, by omega, by omega, ?_⟩
  rcases c with c | c <;> rw [c] <;> decide
theorem NI_nI {s : Nat → Int32} (h : NI s) : s 0 = nI (tN (s 0)) ∧ s 1 = nI (tN (s 1)) ∧ s 2 = nI (tN (s 2)) ∧ s 3 = nI (tN (s 3)) ∧ ∀ k, k < 4 → s (4 + k) = nI (tN (s (4 + k))) := by
  obtain ⟨⟨a0, a1⟩, ⟨b0, b1⟩, c, ⟨d0, d1⟩, hl⟩ := h
  exact ⟨tN_nI a0, tN_nI b0, tN_nI (by rcases c with c | c <;> rw [c] <;> decide), tN_nI d0, fun k hk => tN_nI (hl k hk).1⟩
theorem fold_C {n_likings : Nat → Int32} {n_day n_trust n_ill n_done : Int32} {s : Nat → Int32} (h : RN n_likings n_day n_trust n_ill n_done s) : gX0_folded n_likings n_day n_trust n_ill n_done = some (lN (FS s)) := by
  obtain ⟨hI, rfl, rfl, rfl, rfl, hl⟩ := h
  obtain ⟨e0, e1, e2, e3, e4⟩ := NI_nI hI
  obtain ⟨b0, b1, b4, b5, b6, b7, b3, b2⟩ := NI_tN hI
  have g := fold_N (lk := n_likings) ((hl 0 (by omega)).trans (e4 0 (by omega))) ((hl 1 (by omega)).trans (e4 1 (by omega))) ((hl 2 (by omega)).trans (e4 2 (by omega))) ((hl 3 (by omega)).trans (e4 3 (by omega))) b0 b1 b4 b5 b6 b7 b3 b2
  rw [← e0, ← e1, ← e2, ← e3] at g
  exact g
theorem FS_lt {s : Nat → Int32} (h : NI s) : FS s < 2 ^ 62 := by
  obtain ⟨b0, b1, b4, b5, b6, b7, b3, b2⟩ := NI_tN h
  unfold FS FN
  omega
theorem unfold_C {n_likings : Nat → Int32} {n_day n_trust n_ill n_done : Int32} {s : Nat → Int32} (h : NI s) : ∃ lk2, gX0_unfold n_likings n_day n_trust n_ill n_done (lN (FS s)) = some (lk2, s 0, s 1, s 3, s 2) ∧ RN lk2 (s 0) (s 1) (s 3) (s 2) s := by
  obtain ⟨lk2, g, g3, g2, g1, g0⟩ := unfold_N (lk := n_likings) (d := n_day) (t := n_trust) (il := n_ill) (dn := n_done) (FS_lt h)
  obtain ⟨e0, e1, e2, e3, e4⟩ := NI_nI h
  obtain ⟨b0, b1, b4, b5, b6, b7, b3, b2⟩ := NI_tN h
  have x0 : FS s / 32 / 16 / 16 / 16 / 16 / 32 = tN (s 0) := by unfold FS FN; omega
  have x1 : FS s / 32 / 16 / 16 / 16 / 16 % 32 = tN (s 1) := by unfold FS FN; omega
  have x3 : FS s / 2 % 16 = tN (s 3) := by unfold FS FN; omega
  have x2 : FS s % 2 = tN (s 2) := by unfold FS FN; omega
  have x7 : FS s / 32 % 16 = tN (s 7) := by unfold FS FN; omega
  have x6 : FS s / 32 / 16 % 16 = tN (s 6) := by unfold FS FN; omega
  have x5 : FS s / 32 / 16 / 16 % 16 = tN (s 5) := by unfold FS FN; omega
  have x4 : FS s / 32 / 16 / 16 / 16 % 16 = tN (s 4) := by unfold FS FN; omega
  rw [x0, x1, x3, x2, ← e0, ← e1, ← e2, ← e3] at g
  rw [x7, ← e4 3 (by omega)] at g3
  rw [x6, ← e4 2 (by omega)] at g2
  rw [x5, ← e4 1 (by omega)] at g1
  rw [x4, ← e4 0 (by omega)] at g0
  refine ⟨lk2, g, h, rfl, rfl, rfl, rfl, fun k hk => ?_⟩
  rcases (show k = 0 ∨ k = 1 ∨ k = 2 ∨ k = 3 by omega) with rfl | rfl | rfl | rfl
  · exact g0
  · exact g1
  · exact g2
  · exact g3
/-! the past -/
def RP (p_befores : Nat → Int64) (p_known : Int32) (past : Nat → Int32) (known : Int32) : Prop := p_known = known ∧ (0 ≤ known.toInt ∧ known.toInt ≤ 10) ∧ ∀ k : Nat, (k : Int) < known.toInt → NI (fun j => past (8 * k + j)) ∧ p_befores k = lN (FS (fun j => past (8 * k + j)))
theorem NI_congr {s s2 : Nat → Int32} (h : NI s) (e : ∀ j, j < 8 → s2 j = s j) : NI s2 := by
  obtain ⟨a, b, c, d, hl⟩ := h
  refine ⟨by rw [e 0 (by omega)]; exact a, by rw [e 1 (by omega)]; exact b, by rw [e 2 (by omega)]; exact c, by rw [e 3 (by omega)]; exact d, fun k hk => by rw [e (4 + k) (by omega)]; exact hl k hk⟩
theorem FS_congr {s s2 : Nat → Int32} (e : ∀ j, j < 8 → s2 j = s j) : FS s2 = FS s := by
  unfold FS
  rw [e 0 (by omega), e 1 (by omega), e 2 (by omega), e 3 (by omega), e 4 (by omega), e 5 (by omega), e 6 (by omega), e 7 (by omega)]
theorem ke_50 {s : Nat → Int32} {K : Nat} (hK : K < 10) (p0 : Nat → Int32) : ∀ (n i : Nat), i ≤ 8 → 8 - i < n → gX7_keeps_L50 s (nI K) n (nI i) (fb_put p0 s (8 * K) i) = some (fb_put p0 s (8 * K) 8, nI (K + 1))
  | 0, i, _, h => absurd h (by omega)
  | n + 1, i, hi, h => by
    rw [gX7_keeps_L50]
    by_cases c : i = 8
    · subst c; rw [if_pos (by decide), nI_1]
    · rw [if_neg (by rw [pn_le, pn_ti (by omega)]; simp only [Int32.reduceToInt]; omega), wq_chk_in (vp_in_nI (by omega) (by omega)), show (8 : Int32) = nI 8 from rfl, pk_mul, nI_add, wq_chk_in (vp_in_nI (by omega) (by omega)), pn_cl (by omega), pn_cl (by omega), nI_1, fb_put_succ]
      exact ke_50 hK p0 n (i + 1) (by omega) (by omega)
theorem ke_11 {s : Nat → Int32} (p0 : Nat → Int32) : ∀ (n i : Nat), i ≤ 72 → 72 - i < n → gX7_keeps_L11 s (nI 10) n (nI i) (fa_fill (fun j => p0 (j + 8)) p0 i) = some (fb_put (fa_fill (fun j => p0 (j + 8)) p0 72) s (8 * 9) 8, nI 10)
  | 0, i, _, h => absurd h (by omega)
  | n + 1, i, hi, h => by
    rw [gX7_keeps_L11]
    by_cases c : i = 72
    · subst c
      rw [if_pos (by decide), show nI 10 - 1 = nI 9 from by decide, show (0 : Int32) = nI 0 from rfl, ← fb_put_0 (fa_fill (fun j => p0 (j + 8)) p0 72) s (8 * 9)]
      rw [ke_50 (by omega) _ 1000 0 (by omega) (by omega), fb_put_0]
    · rw [if_neg (by rw [pn_le, pn_ti (by omega)]; simp only [Int32.reduceToInt]; omega), show (8 : Int32) = nI 8 from rfl, nI_add, wq_chk_in (vp_in_nI (by omega) (by omega)), wq_chk_in (vp_in_nI (by omega) (by omega)), pn_cl (by omega), pn_cl (by omega), nI_1, fa_fill_out (by omega)]
      have e : upd (fa_fill (fun j => p0 (j + 8)) p0 i) i (p0 (i + 8)) = fa_fill (fun j => p0 (j + 8)) p0 (i + 1) := fa_fill_succ (fun j => p0 (j + 8)) p0 i
      rw [e]
      exact ke_11 p0 n (i + 1) (by omega) (by omega)
theorem keeps_M {s past : Nat → Int32} {K : Nat} (hK : K ≤ 10) : ∃ past2, gX7_keeps s past (nI K) = some (past2, nI (min (K + 1) 10)) ∧ (∀ j, j < 8 → past2 (8 * (min (K + 1) 10 - 1) + j) = s j) ∧ ∀ k j, k < min (K + 1) 10 - 1 → j < 8 → past2 (8 * k + j) = past (8 * (k + (if K = 10 then 1 else 0)) + j) := by
  unfold gX7_keeps
  by_cases c : K = 10
  · subst c
    rw [if_pos (by decide), show (0 : Int32) = nI 0 from rfl]
    have e := ke_11 (s := s) past 1000 0 (by omega) (by omega)
    rw [fa_fill_0] at e
    refine ⟨_, e, fun j hj => ?_, fun k j hk hj => ?_⟩
    · rw [show min (10 + 1) 10 - 1 = 9 from rfl, fb_put_in (by omega) (by omega), Nat.add_sub_cancel_left]
    · rw [show min (10 + 1) 10 - 1 = 9 from rfl] at hk
      rw [fb_put_out (by omega), fa_fill_in (by omega), if_pos rfl, show 8 * k + j + 8 = 8 * (k + 1) + j by omega]
  · have hn : ¬ nI K = 10 := by rw [fa_eq, pn_ti (by omega)]; simp only [Int32.reduceToInt]; omega
    rw [if_neg hn, show (0 : Int32) = nI 0 from rfl, show min (K + 1) 10 = K + 1 by omega]
    have e := ke_50 (s := s) (K := K) (by omega) past 1000 0 (by omega) (by omega)
    rw [fb_put_0] at e
    refine ⟨_, e, fun j hj => ?_, fun k j hk hj => ?_⟩
    · rw [show K + 1 - 1 = K by omega, fb_put_in (by omega) (by omega), Nat.add_sub_cancel_left]
    · rw [fb_put_out (by omega), if_neg c, Nat.add_zero]
theorem lo_2 {z : Int32} (b0 : Nat → Int64) : ∀ (n i : Nat), 1 ≤ i → i ≤ 10 → 10 - i < n → ∀ b, (∀ k, k + 1 < i → b k = b0 (k + 1)) → (∀ k, i ≤ k + 1 → b k = b0 k) → ∃ b2, gX2_loseOldest_L2 z n (nI i) b = some (b2, 9) ∧ ∀ k, k < 9 → b2 k = b0 (k + 1)
  | 0, i, _, _, h, _, _, _ => absurd h (by omega)
  | n + 1, i, h1, hi, h, b, ha, hb => by
    rw [gX2_loseOldest_L2]
    by_cases c : i = 10
    · subst c; rw [if_pos (by decide)]; exact ⟨b, rfl, fun k hk => ha k (by omega)⟩
    · rw [if_neg (by rw [pn_le, pn_ti (by omega)]; simp only [Int32.reduceToInt]; omega), wq_chk_in (vp_in_nI (by omega) (by omega)), show nI i - 1 = nI (i - 1) from pk_sub (b := 1) (by omega), wq_chk_in (vp_in_nI (by omega) (by omega)), pn_cl (by omega), pn_cl (by omega), nI_1]
      refine lo_2 b0 n (i + 1) (by omega) (by omega) (by omega) _ (fun k hk => ?_) (fun k hk => ?_)
      · by_cases e : k = i - 1
        · subst e; rw [pk_uLs, hb i (by omega)]; congr 1; omega
        · rw [pk_uLn e]; exact ha k (by omega)
      · rw [pk_uLn (by omega)]; exact hb k (by omega)
theorem add_C {b : Nat → Int64} {K : Nat} (hK : K ≤ 10) (v : Int64) : ∃ b2, gX2_add b (nI K) v = some (b2, nI (min (K + 1) 10)) ∧ b2 (min (K + 1) 10 - 1) = v ∧ ∀ k, k < min (K + 1) 10 - 1 → b2 k = b (k + (if K = 10 then 1 else 0)) := by
  unfold gX2_add
  by_cases c : K = 10
  · subst c
    rw [if_neg (by decide)]
    obtain ⟨b2, g, hb⟩ := lo_2 (z := nI 10) b 1000 1 (by omega) (by omega) (by omega) b (fun k hk => by omega) (fun k _ => rfl)
    unfold gX2_loseOldest
    rw [show (1 : Int32) = nI 1 from rfl, g, wq_b2_e, if_neg (by decide), if_pos (by decide), wq_chk_in (wq_lit (by decide))]
    refine ⟨_, rfl, ?_, fun k hk => ?_⟩
    · exact pk_uLs
    · rw [if_pos rfl]
      show vp_updL b2 9 v k = _
      rw [pk_uLn (by omega)]; exact hb k (by omega)
  · rw [if_pos (by rw [pn_lt, pn_ti (by omega)]; simp only [Int32.reduceToInt]; omega), if_neg (by rw [pn_lt, pn_ti (by omega)]; simp only [Int32.reduceToInt]; omega), wq_chk_in (vp_in_nI (by omega) (by omega)), pn_cl (by omega), nI_1, show min (K + 1) 10 = K + 1 by omega]
    refine ⟨_, rfl, ?_, fun k hk => ?_⟩
    · show vp_updL b K v (K + 1 - 1) = v
      rw [show K + 1 - 1 = K by omega, pk_uLs]
    · rw [pk_uLn (by omega), if_neg c]; rfl
/-- a step is remembered on both sides -/
theorem keep_both {p_befores : Nat → Int64} {p_known known : Int32} {past s : Nat → Int32} (h : RP p_befores p_known past known) (hs : NI s) : ∃ b2 k2 past2 kn2, gX2_add p_befores p_known (lN (FS s)) = some (b2, k2) ∧ gX7_keeps s past known = some (past2, kn2) ∧ RP b2 k2 past2 kn2 := by
  obtain ⟨rfl, ⟨k0, k1⟩, hr⟩ := h
  obtain ⟨K, hK, rfl, he⟩ := pn_nI (N := 11) k0 (by omega)
  obtain ⟨b2, g1, g2, g3⟩ := add_C (b := p_befores) (K := K) (by omega) (lN (FS s))
  obtain ⟨p2, f1, f2, f3⟩ := keeps_M (s := s) (past := past) (K := K) (by omega)
  refine ⟨_, _, _, _, g1, f1, rfl, by rw [pn_ti (by omega)]; omega, fun k hk => ?_⟩
  rw [pn_ti (by omega)] at hk
  by_cases e : k = min (K + 1) 10 - 1
  · subst e
    have ej : ∀ j, j < 8 → (fun j => p2 (8 * (min (K + 1) 10 - 1) + j)) j = s j := f2
    exact ⟨NI_congr hs ej, by rw [g2, FS_congr ej]⟩
  · have hk' : k < min (K + 1) 10 - 1 := by omega
    have hq : ((k + (if K = 10 then 1 else 0) : Nat) : Int) < (nI K).toInt := by rw [pn_ti (by omega)]; split <;> omega
    have ej : ∀ j, j < 8 → (fun j => p2 (8 * k + j)) j = (fun j => past (8 * (k + (if K = 10 then 1 else 0)) + j)) j := fun j hj => f3 k j hk' hj
    obtain ⟨q1, q2⟩ := hr _ hq
    exact ⟨NI_congr q1 ej, by rw [g3 k hk', q2, FS_congr ej]⟩
