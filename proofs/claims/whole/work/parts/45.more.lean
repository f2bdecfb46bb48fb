/-! the pure layer: home, falls, undo, keep, back -/
theorem fa_bits : ∀ i : Fin 16, ∀ j : Fin 4, (0 ≤ (nI i.val ^^^ ((1 : Int32) <<< (nI j.val &&& 31))).toInt ∧ (nI i.val ^^^ ((1 : Int32) <<< (nI j.val &&& 31))).toInt ≤ 15) ∧ ((nI i.val >>> (nI j.val &&& 31)) &&& 1 = 0 ∨ (nI i.val >>> (nI j.val &&& 31)) &&& 1 = 1) := by decide +kernel
theorem fa_ones : ∀ i : Fin 16, gJ6_bitCount_0f7a4 (nI i.val) = gX7_ones (nI i.val) ∧ (gX7_ones (nI i.val)).isSome = true := by decide +kernel
section MR
variable {t_tears t_gains t_settings : Nat → Int32} {t_goodbyes t_women : Int32} {m_told : Nat → Int32} {n_likings : Nat → Int32} {n_day n_trust n_ill n_done : Int32} {m_s : Nat → Int32} {p_befores : Nat → Int64} {p_known m_known : Int32} {m_past : Nat → Int32}
theorem P_home (hN : RN n_likings n_day n_trust n_ill n_done m_s) (hP : RP p_befores p_known m_past m_known) (a1 : Int32) : ∃ r d2 t2 b2 k2 s2 past2 kn2, gX6_home n_likings n_day n_trust n_ill n_done p_befores p_known a1 = some (r, d2, t2, b2, k2) ∧ gX7_home m_s m_past m_known a1 = some (r, s2, past2, kn2) ∧ RN n_likings d2 t2 n_ill n_done s2 ∧ RP b2 k2 past2 kn2 := by
  obtain ⟨hI, e0, e1, e2, e3, hl⟩ := id hN
  obtain ⟨⟨d0, d9⟩, ⟨b0, b1⟩, hdn, hil, hlr⟩ := id hI
  unfold gX6_home gX7_home
  rw [in_b 1 9 rfl rfl]
  by_cases c : 1 ≤ a1.toInt ∧ a1.toInt ≤ 9
  · rw [if_pos c, if_neg (by rw [pn_lt]; simp only [Int32.reduceToInt]; omega), if_pos (by rw [pn_le]; simp only [Int32.reduceToInt]; omega), e0]
    by_cases c2 : (m_s 0 + a1) ≤ 999
    · obtain ⟨bb, k2, past2, kn2, q1, q2, q3⟩ := keep_both hP hI
      have hf := fold_C hN
      rw [e0] at hf
      have ed : (m_s 0 + a1).toInt = (m_s 0).toInt + a1.toInt := fb_addI (by omega) (by omega)
      have et : (m_s 1 - a1).toInt = (m_s 1).toInt - a1.toInt := fb_subI (by omega) (by omega)
      have hb : gX7_bound (m_s 1 - a1) 0 24 = some (if 0 < (m_s 1 - a1) then (m_s 1 - a1) else 0) := by
        unfold gX7_bound
        simp only [pn_lt, pn_le, et, Int32.reduceToInt]
        (repeat' split) <;> first | rfl | (exfalso; omega) | (refine congrArg some ?_; rw [fa_eq, et]; simp only [Int32.reduceToInt]; omega)
      rw [if_pos c2, if_pos c2, hf, wq_b1_e, q1, wq_b2_e, q2, wq_b2_e, pk_un (show (1 : Nat) ≠ 0 by omega), hb, wq_b1_e, pk_us, e1]
      refine ⟨_, _, _, _, _, _, _, _, rfl, rfl, ⟨⟨?_, ?_, ?_, ?_, fun k hk => ?_⟩, ?_, ?_, ?_, ?_, fun k hk => ?_⟩, q3⟩
      · rw [pk_un (by omega), pk_us, ed]; rw [pn_le, ed] at c2; simp only [Int32.reduceToInt] at c2; omega
      · rw [pk_us]
        split
        · next c3 => rw [pn_lt, et] at c3; rw [et]; simp only [Int32.reduceToInt] at c3; omega
        · decide
      · rw [pk_un (by omega), pk_un (by omega)]; exact hdn
      · rw [pk_un (by omega), pk_un (by omega)]; exact hil
      · rw [pk_un (by omega), pk_un (by omega)]; exact hlr k hk
      · rw [pk_un (by omega), pk_us]
      · rw [pk_us]
      · rw [pk_un (by omega), pk_un (by omega)]; exact e2
      · rw [pk_un (by omega), pk_un (by omega)]; exact e3
      · rw [pk_un (by omega), pk_un (by omega)]; exact hl k hk
    · rw [if_neg c2, if_neg c2]
      rw [e0] at hN
      exact ⟨_, _, _, _, _, _, _, _, rfl, rfl, hN, hP⟩
  · rw [if_neg c]
    by_cases c2 : a1 < 1
    · rw [if_pos c2]; exact ⟨_, _, _, _, _, _, _, _, rfl, rfl, hN, hP⟩
    · rw [if_neg c2, if_neg (by rw [pn_lt] at c2; rw [pn_le]; simp only [Int32.reduceToInt] at c2 ⊢; omega)]
      exact ⟨_, _, _, _, _, _, _, _, rfl, rfl, hN, hP⟩
theorem P_falls (hT : RT t_tears t_gains t_settings t_goodbyes t_women m_told) (hN : RN n_likings n_day n_trust n_ill n_done m_s) (hP : RP p_befores p_known m_past m_known) (a1 a2 : Int32) : ∃ r il2 b2 k2 s2 past2 kn2, gX6_falls n_likings n_day n_trust n_ill n_done p_befores p_known t_women a1 a2 = some (r, il2, b2, k2) ∧ gX7_falls m_told m_s m_past m_known a1 a2 = some (r, s2, past2, kn2) ∧ RN n_likings n_day n_trust il2 n_done s2 ∧ RP b2 k2 past2 kn2 := by
  obtain ⟨hI, e0, e1, e2, e3, hl⟩ := id hN
  obtain ⟨hd, hb, hdn, ⟨i0, i15⟩, hlr⟩ := id hI
  obtain ⟨w0, w4⟩ := hT.1.2.1
  unfold gX6_falls gX7_falls
  rw [hT.2.2.1, hasW_C w4, wq_b1_e, hasW_b w0]
  by_cases c : hasB (m_told 1) a1 = 0
  · rw [if_pos c, if_pos c]; exact ⟨_, _, _, _, _, _, _, rfl, rfl, hN, hP⟩
  · obtain ⟨j, -, rfl, -, hlt⟩ := hasB_1 c (by omega)
    have hj : j < 4 := by omega
    rw [if_neg c, if_neg c, in_b 0 1 rfl rfl]
    by_cases c2 : 0 ≤ a2.toInt ∧ a2.toInt ≤ 1
    · rw [if_pos c2, if_neg (by rw [pn_lt]; simp only [Int32.reduceToInt]; omega), if_pos (by rw [pn_le]; simp only [Int32.reduceToInt]; omega), e3]
      obtain ⟨x, hx, ex, exi⟩ := pn_nI (N := 16) i0 (by omega)
      have hf := fold_C hN
      rw [e3] at hf
      obtain ⟨bb, k2, past2, kn2, q1, q2, q3⟩ := keep_both hP hI
      obtain ⟨f1, f2⟩ := fa_bits ⟨x, hx⟩ ⟨j, hj⟩
      simp only [← ex] at f1 f2
      obtain ⟨y, hy, ey, eyi⟩ := pn_nI (N := 16) f1.1 (by omega)
      obtain ⟨o1, o2⟩ := fa_ones ⟨y, hy⟩
      simp only [← ey] at o1 o2
      obtain ⟨v, ev⟩ := Option.isSome_iff_exists.mp o2
      rw [ev] at o1
      unfold gX0_isIll
      have step : ∀ r2 : Int32, RN n_likings n_day n_trust (m_s 3 ^^^ ((1 : Int32) <<< (nI j &&& 31))) n_done (upd m_s 3 (m_s 3 ^^^ ((1 : Int32) <<< (nI j &&& 31)))) := fun _ => by
        refine ⟨⟨?_, ?_, ?_, ?_, fun k hk => ?_⟩, ?_, ?_, ?_, ?_, fun k hk => ?_⟩
        · rw [pk_un (by omega)]; exact hd
        · rw [pk_un (by omega)]; exact hb
        · rw [pk_un (by omega)]; exact hdn
        · rw [pk_us]; exact f1
        · rw [pk_un (by omega)]; exact hlr k hk
        · rw [pk_un (by omega)]; exact e0
        · rw [pk_un (by omega)]; exact e1
        · rw [pk_un (by omega)]; exact e2
        · rw [pk_us]
        · rw [pk_un (by omega)]; exact hl k hk
      simp only [hf, wq_b1_e, q1, wq_b2_e, o1, q2, pk_us, ev]
      rw [e3] at hN
      rcases (show a2.toInt = 0 ∨ a2.toInt = 1 by omega) with h2 | h2
      · have ea : a2 = 0 := by rw [fa_eq]; exact h2
        subst ea
        rcases f2 with f2 | f2
        · rw [f2]; exact ⟨_, _, _, _, _, _, _, rfl, rfl, hN, hP⟩
        · rw [f2]; exact ⟨_, _, _, _, _, _, _, rfl, rfl, step 0, q3⟩
      · have ea : a2 = 1 := by rw [fa_eq]; exact h2
        subst ea
        rcases f2 with f2 | f2
        · rw [f2]; exact ⟨_, _, _, _, _, _, _, rfl, rfl, step 0, q3⟩
        · rw [f2]; exact ⟨_, _, _, _, _, _, _, rfl, rfl, hN, hP⟩
    · rw [if_neg c2]
      by_cases c3 : a2 < 0
      · rw [if_pos c3]; exact ⟨_, _, _, _, _, _, _, rfl, rfl, hN, hP⟩
      · rw [if_neg c3, if_neg (by rw [pn_lt] at c3; rw [pn_le]; simp only [Int32.reduceToInt] at c3 ⊢; omega)]
        exact ⟨_, _, _, _, _, _, _, rfl, rfl, hN, hP⟩
theorem un_22 {past : Nat → Int32} {K : Nat} (hK : K < 10) (s0 : Nat → Int32) : ∀ (n i : Nat), i ≤ 8 → 8 - i < n → gX7_undo_L22 past (nI K) n (nI i) (fa_fill (fun j => past (8 * K + j)) s0 i) = some (nI K, fa_fill (fun j => past (8 * K + j)) s0 8, nI K)
  | 0, i, _, h => absurd h (by omega)
  | n + 1, i, hi, h => by
    rw [gX7_undo_L22]
    by_cases c : i = 8
    · subst c; rw [if_pos (by decide)]
    · rw [if_neg (by rw [pn_le, pn_ti (by omega)]; simp only [Int32.reduceToInt]; omega), show (8 : Int32) = nI 8 from rfl, pk_mul, nI_add, wq_chk_in (vp_in_nI (by omega) (by omega)), wq_chk_in (vp_in_nI (by omega) (by omega)), pn_cl (by omega), pn_cl (by omega), nI_1]
      have e : upd (fa_fill (fun j => past (8 * K + j)) s0 i) i (past (8 * K + i)) = fa_fill (fun j => past (8 * K + j)) s0 (i + 1) := fa_fill_succ (fun j => past (8 * K + j)) s0 i
      rw [e]
      exact un_22 hK s0 n (i + 1) (by omega) (by omega)
theorem RN_congr {s s2 : Nat → Int32} (h : RN n_likings n_day n_trust n_ill n_done s) (e : ∀ j, j < 8 → s2 j = s j) : RN n_likings n_day n_trust n_ill n_done s2 := by
  obtain ⟨hI, e0, e1, e2, e3, hl⟩ := h
  exact ⟨NI_congr hI e, by rw [e 0 (by omega)]; exact e0, by rw [e 1 (by omega)]; exact e1, by rw [e 2 (by omega)]; exact e2, by rw [e 3 (by omega)]; exact e3, fun k hk => by rw [e (4 + k) (by omega)]; exact hl k hk⟩
theorem P_undo (hN : RN n_likings n_day n_trust n_ill n_done m_s) (hP : RP p_befores p_known m_past m_known) : ∃ r lk2 d2 t2 il2 dn2 k2 s2 kn2, gX6_undo n_likings n_day n_trust n_ill n_done p_befores p_known = some (r, lk2, d2, t2, il2, dn2, k2) ∧ gX7_undo m_s m_past m_known = some (r, s2, kn2) ∧ RN lk2 d2 t2 il2 dn2 s2 ∧ RP p_befores k2 m_past kn2 := by
  obtain ⟨rfl, ⟨k0, k1⟩, hr⟩ := id hP
  obtain ⟨K, hK, rfl, he⟩ := pn_nI (N := 11) k0 (by omega)
  unfold gX6_undo gX7_undo gX2_takeLatest
  by_cases c : K = 0
  · subst c
    rw [if_neg (by decide), if_pos (by decide)]
    exact ⟨_, _, _, _, _, _, _, _, _, rfl, rfl, hN, hP⟩
  · have hk : ¬ nI K = 0 := by rw [fa_eq, he]; simp only [Int32.reduceToInt]; omega
    have e1 : nI K - 1 = nI (K - 1) := pk_sub (b := 1) (by omega)
    obtain ⟨q1, q2⟩ := hr (K - 1) (by omega)
    obtain ⟨lk2, u1, u2⟩ := unfold_C (n_likings := n_likings) (n_day := n_day) (n_trust := n_trust) (n_ill := n_ill) (n_done := n_done) q1
    have g := un_22 (past := m_past) (K := K - 1) (by omega) m_s 1000 0 (by omega) (by omega)
    rw [fa_fill_0] at g
    rw [if_pos (by rw [pn_le, he]; simp only [Int32.reduceToInt]; omega), if_neg (by rw [pn_lt, he]; simp only [Int32.reduceToInt]; omega), if_pos (by rw [pn_le, he]; simp only [Int32.reduceToInt]; omega), e1, wq_chk_in (vp_in_nI (by omega) (by omega)), pn_cl (by omega), wq_b2_e, q2, u1, wq_b5_e, if_neg hk, show (0 : Int32) = nI 0 from rfl, g]
    refine ⟨_, _, _, _, _, _, _, _, _, rfl, rfl, RN_congr u2 (fun j hj => fa_fill_in hj), rfl, ?_, fun k hk => ?_⟩
    · rw [pn_ti (by omega)]; omega
    · rw [pn_ti (by omega)] at hk; exact hr k (by omega)
/-! images -/
def RI (r_images : Nat → Int64) (m_images m_kept : Nat → Int32) : Prop := ∀ k : Nat, k < 2 → (m_kept k = 0 ∧ r_images k = -1) ∨ (m_kept k = 1 ∧ NI (fun j => m_images (8 * k + j)) ∧ r_images k = lN (FS (fun j => m_images (8 * k + j))))
variable {r_images : Nat → Int64} {m_images m_kept : Nat → Int32}
theorem kp_13 {kept : Nat → Int32} {A : Nat} (hA : A < 2) (s i0 : Nat → Int32) : ∀ (n i : Nat), i ≤ 8 → 8 - i < n → gX7_keep_L13 s kept (nI A) n (nI i) (fb_put i0 s (8 * A) i) = some (s 0, fb_put i0 s (8 * A) 8, upd kept A 1)
  | 0, i, _, h => absurd h (by omega)
  | n + 1, i, hi, h => by
    rw [gX7_keep_L13]
    by_cases c : i = 8
    · subst c; rw [if_pos (by decide), wq_chk_in (vp_in_nI hA (by omega)), pn_cl (by omega)]
    · rw [if_neg (by rw [pn_le, pn_ti (by omega)]; simp only [Int32.reduceToInt]; omega), wq_chk_in (vp_in_nI (by omega) (by omega)), show (8 : Int32) = nI 8 from rfl, pk_mul, nI_add, wq_chk_in (vp_in_nI (by omega) (by omega)), pn_cl (by omega), pn_cl (by omega), nI_1, fb_put_succ]
      exact kp_13 hA s i0 n (i + 1) (by omega) (by omega)
theorem P_keep (hN : RN n_likings n_day n_trust n_ill n_done m_s) (hI : RI r_images m_images m_kept) (a1 : Int32) : ∃ r ri2 im2 kp2, gX6_keep r_images n_likings n_day n_trust n_ill n_done a1 = some (r, ri2) ∧ gX7_keep m_s m_images m_kept a1 = some (r, im2, kp2) ∧ RI ri2 im2 kp2 := by
  unfold gX6_keep gX7_keep
  rw [in_b 0 1 rfl rfl]
  by_cases c : 0 ≤ a1.toInt ∧ a1.toInt ≤ 1
  · obtain ⟨A, hA, rfl, he⟩ := pn_nI (N := 2) c.1 (by omega)
    have g := kp_13 (kept := m_kept) hA m_s m_images 1000 0 (by omega) (by omega)
    rw [fb_put_0] at g
    rw [if_pos c, if_neg (by rw [pn_lt, he]; simp only [Int32.reduceToInt]; omega), if_pos (by rw [pn_lt, he]; simp only [Int32.reduceToInt]; omega), fold_C hN, wq_b1_e, wq_chk_in (vp_in_nI hA (by omega)), pn_cl (by omega), show (0 : Int32) = nI 0 from rfl, g, hN.2.1]
    refine ⟨_, _, _, _, rfl, rfl, fun k hk => ?_⟩
    by_cases e : k = A
    · subst e
      rw [pk_us, pk_uLs]
      have ej : ∀ j, j < 8 → (fun j => fb_put m_images m_s (8 * k) 8 (8 * k + j)) j = m_s j := fun j hj => by
        show fb_put m_images m_s (8 * k) 8 (8 * k + j) = m_s j
        rw [fb_put_in (by omega) (by omega), Nat.add_sub_cancel_left]
      exact Or.inr ⟨rfl, NI_congr hN.1 ej, by rw [FS_congr ej]⟩
    · rw [pk_un e, pk_uLn e]
      have ej : ∀ j, j < 8 → (fun j => fb_put m_images m_s (8 * A) 8 (8 * k + j)) j = (fun j => m_images (8 * k + j)) j := fun j hj => fb_put_out (by omega)
      rcases hI k hk with h | ⟨h1, h2, h3⟩
      · exact Or.inl h
      · exact Or.inr ⟨h1, NI_congr h2 ej, by rw [FS_congr ej]; exact h3⟩
  · rw [if_neg c]
    by_cases c2 : a1 < 0
    · rw [if_pos c2]; exact ⟨_, _, _, _, rfl, rfl, hI⟩
    · rw [if_neg c2, if_neg (by rw [pn_lt] at c2 ⊢; simp only [Int32.reduceToInt] at c2 ⊢; omega)]
      exact ⟨_, _, _, _, rfl, rfl, hI⟩
theorem bk_25 {z : Int32} {im : Nat → Int32} {A : Nat} (hA : A < 2) (s0 : Nat → Int32) : ∀ (n i : Nat), i ≤ 8 → 8 - i < n → gX7_back_L25 z im (nI A) n (nI i) (fa_fill (fun j => im (8 * A + j)) s0 i) = some (im (8 * A + 0), fa_fill (fun j => im (8 * A + j)) s0 8, 0)
  | 0, i, _, h => absurd h (by omega)
  | n + 1, i, hi, h => by
    rw [gX7_back_L25]
    by_cases c : i = 8
    · subst c; rw [if_pos (by decide), fa_fill_in (show 0 < 8 by omega)]
    · rw [if_neg (by rw [pn_le, pn_ti (by omega)]; simp only [Int32.reduceToInt]; omega), show (8 : Int32) = nI 8 from rfl, pk_mul, nI_add, wq_chk_in (vp_in_nI (by omega) (by omega)), wq_chk_in (vp_in_nI (by omega) (by omega)), pn_cl (by omega), pn_cl (by omega), nI_1]
      have e : upd (fa_fill (fun j => im (8 * A + j)) s0 i) i (im (8 * A + i)) = fa_fill (fun j => im (8 * A + j)) s0 (i + 1) := fa_fill_succ (fun j => im (8 * A + j)) s0 i
      rw [e]
      exact bk_25 hA s0 n (i + 1) (by omega) (by omega)
theorem cmpm1 {n : Nat} (h : n < 2 ^ 62) : ¬ lg_cmp (lN n) (-1) = 0 := by
  have h2 : (lN n).toInt = n := pk_lT (by omega)
  unfold lg_cmp
  rw [if_pos (by show (-1 : Int64) < lN n; rw [fa_lt64, h2]; show (-1 : Int) < n; omega)]
  decide
theorem P_back (hN : RN n_likings n_day n_trust n_ill n_done m_s) (hP : RP p_befores p_known m_past m_known) (hI : RI r_images m_images m_kept) (a1 : Int32) : ∃ r lk2 d2 t2 il2 dn2 k2 s2 kn2, gX6_back r_images n_likings n_day n_trust n_ill n_done p_known a1 = some (r, lk2, d2, t2, il2, dn2, k2) ∧ gX7_back m_s m_known m_images m_kept a1 = some (r, s2, kn2) ∧ RN lk2 d2 t2 il2 dn2 s2 ∧ RP p_befores k2 m_past kn2 := by
  unfold gX6_back gX7_back
  rw [in_b 0 1 rfl rfl]
  by_cases c : 0 ≤ a1.toInt ∧ a1.toInt ≤ 1
  · obtain ⟨A, hA, rfl, he⟩ := pn_nI (N := 2) c.1 (by omega)
    rw [if_pos c, if_neg (by rw [pn_lt, he]; simp only [Int32.reduceToInt]; omega), if_pos (by rw [pn_lt, he]; simp only [Int32.reduceToInt]; omega), wq_chk_in (vp_in_nI hA (by omega)), wq_chk_in (vp_in_nI hA (by omega)), pn_cl (by omega)]
    rcases hI A hA with ⟨h1, h2⟩ | ⟨h1, h2, h3⟩
    · rw [h1, h2, if_pos rfl, if_pos (by decide)]
      exact ⟨_, _, _, _, _, _, _, _, _, rfl, rfl, hN, hP⟩
    · obtain ⟨lk2, u1, u2⟩ := unfold_C (n_likings := n_likings) (n_day := n_day) (n_trust := n_trust) (n_ill := n_ill) (n_done := n_done) h2
      have g := bk_25 (z := m_known) (im := m_images) hA m_s 1000 0 (by omega) (by omega)
      rw [fa_fill_0] at g
      rw [h1, h3, if_neg (cmpm1 (FS_lt h2)), if_neg (by decide), u1, wq_b5_e, show (0 : Int32) = nI 0 from rfl, g]
      exact ⟨_, _, _, _, _, _, _, _, _, rfl, rfl, RN_congr u2 (fun j hj => fa_fill_in hj), rfl, by decide, fun k hk => absurd hk (by simp only [Int32.reduceToInt]; omega)⟩
  · rw [if_neg c]
    by_cases c2 : a1 < 0
    · rw [if_pos c2]; exact ⟨_, _, _, _, _, _, _, _, _, rfl, rfl, hN, hP⟩
    · rw [if_neg c2, if_neg (by rw [pn_lt] at c2 ⊢; simp only [Int32.reduceToInt] at c2 ⊢; omega)]
      exact ⟨_, _, _, _, _, _, _, _, _, rfl, rfl, hN, hP⟩
end MR
