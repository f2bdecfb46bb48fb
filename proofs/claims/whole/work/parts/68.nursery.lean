/-! the pure layer: nursery -/
theorem sa_C (ds : Nat → Int32) (a b : Int32) : gX5_startAnew ds a b = some (upd (upd (upd (upd ds 0 2) 1 5) 2 25) 3 48, 0, 0) := rfl
theorem rd_2 {g : Nat → Int32} {size m1 m2 m3 m4 : Int32} : ∀ (r k i : Nat) (d : Nat → Int32), i + r = 22 → r < k → (∀ j, j < i → d j = 0) → ∃ d2 : Nat → Int32, (∀ j, j < 22 → d2 j = 0) ∧ gX7_reads_L2 g size m1 m2 m3 m4 k (nI i) d = wq_b4 (gX7_token g size 0 m2 m3 m4) (fun w24 w25 w26 w27 => gX7_reads_L60 g size 1000 (upd (upd (upd (upd d2 2 2) 3 5) 4 25) 5 48) w24 w25 w26 w27)
  | r, 0, i, d, _, h, _ => absurd h (by omega)
  | 0, k + 1, i, d, h, _, hd => ⟨d, fun j hj => hd j (by omega), by rw [gX7_reads_L2, if_pos (by rw [pn_le, pn_ti (by omega)]; simp only [Int32.reduceToInt]; omega)]⟩
  | r + 1, k + 1, i, d, h, hk, hd => by
    rw [gX7_reads_L2, if_neg (by rw [pn_le, pn_ti (by omega)]; simp only [Int32.reduceToInt]; omega), wq_chk_in (vp_in_nI (by omega) (by omega)), pn_cl (by omega), nI_1]
    refine rd_2 r k (i + 1) (upd d i 0) (by omega) (by omega) (fun j hj => ?_)
    by_cases c : j = i
    · rw [c, uq_at]
    · rw [uq_no _ _ c]; exact hd j (by omega)
theorem rd_M (g : Nat → Int32) (size : Int32) (draft : Nat → Int32) (m1 m2 m3 m4 : Int32) : ∃ d2 : Nat → Int32, (∀ j, j < 22 → d2 j = 0) ∧ gX7_reads g size draft m1 m2 m3 m4 = wq_b4 (gX7_token g size 0 m2 m3 m4) (fun w24 w25 w26 w27 => gX7_reads_L60 g size 1000 (upd (upd (upd (upd d2 2 2) 3 5) 4 25) 5 48) w24 w25 w26 w27) := rd_2 22 1000 0 draft rfl (by omega) (fun j hj => by omega)
theorem RDb_0 {d2 : Nat → Int32} (h : ∀ j, j < 22 → d2 j = 0) (tt gg lk ds : Nat → Int32) : RDb tt gg lk (upd (upd (upd (upd ds 0 2) 1 5) 2 25) 3 48) 0 0 0 (upd (upd (upd (upd d2 2 2) 3 5) 4 25) 5 48) ∧ (upd (upd (upd (upd d2 2 2) 3 5) 4 25) 5 48) 6 = nI 0 := by
  have e : ∀ j, 6 ≤ j ∨ j < 2 → j < 22 → (upd (upd (upd (upd d2 2 2) 3 5) 4 25) 5 48) j = 0 := by
    intro j hj hj2
    rw [uq_no _ _ (by omega), uq_no _ _ (by omega), uq_no _ _ (by omega), uq_no _ _ (by omega)]
    exact h j hj2
  refine ⟨⟨by omega, e 0 (by omega) (by omega), e 1 (by omega) (by omega), e 7 (by omega) (by omega), fun i hi => ?_, fun k hk => by omega, fun k hk => by omega, fun k _ hk => e _ (by omega) (by omega)⟩, e 6 (by omega) (by omega)⟩
  rcases (show i = 0 ∨ i = 1 ∨ i = 2 ∨ i = 3 by omega) with h | h | h | h
  · subst h; exact ⟨rfl, show ((1 : Nat) : Int) ≤ (2 : Int32).toInt by decide, show (2 : Int32).toInt ≤ ((9 : Nat) : Int) by decide⟩
  · subst h; exact ⟨rfl, show ((0 : Nat) : Int) ≤ (5 : Int32).toInt by decide, show (5 : Int32).toInt ≤ ((20 : Nat) : Int) by decide⟩
  · subst h; exact ⟨rfl, show ((21 : Nat) : Int) ≤ (25 : Int32).toInt by decide, show (25 : Int32).toInt ≤ ((60 : Nat) : Int) by decide⟩
  · subst h; exact ⟨rfl, show ((1 : Nat) : Int) ≤ (48 : Int32).toInt by decide, show (48 : Int32).toInt ≤ ((96 : Nat) : Int) by decide⟩
theorem tell_P {f g : Nat → Int32} {n : Nat} (hn : n ≤ 120) (hfg : ∀ k, k < n → f k = g k) (hg : ∀ k, k < n → 0 ≤ (g k).toInt) (p0 fault st0 : Int32) (tt gg lk ds : Nat → Int32) (G0 W0 : Int32) (draft : Nat → Int32) (m1 m2 m3 m4 : Int32) : TLR n (gX4_tell f (nI n) p0 fault st0 tt gg lk ds G0 W0) (gX7_reads g (nI n) draft m1 m2 m3 m4) := by
  obtain ⟨d2, hd, e⟩ := rd_M g (nI n) draft m1 m2 m3 m4
  obtain ⟨hR, h6⟩ := RDb_0 hd tt gg lk ds
  rw [e]
  unfold gX4_tell
  rw [sa_C, wq_b3_e]
  exact tell_L hn hfg hg n 0 0 1000 1000 tt gg lk _ _ 0 0 0 fault m2 m3 m4 (by omega) (by omega) (by omega) (by omega) (by omega) hR h6
theorem bg_28 {told kept : Nat → Int32} {kn nd : Int32} : ∀ (r k i : Nat) (s : Nat → Int32), i + r = 8 → r < k → (∀ j, j < i → s j = if j < 4 then 0 else told (14 + j)) → ∃ s2 : Nat → Int32, (∀ j, j < 8 → s2 j = if j < 4 then 0 else told (14 + j)) ∧ gX7_begins_L28 told kn kept nd k (nI i) s = some (told, s2, 0, upd (upd kept 0 0) 1 0, 0)
  | r, 0, i, s, _, h, _ => absurd h (by omega)
  | 0, k + 1, i, s, h, _, hs => ⟨s, fun j hj => hs j (by omega), by rw [gX7_begins_L28, if_pos (by rw [pn_le, pn_ti (by omega)]; simp only [Int32.reduceToInt]; omega)]⟩
  | r + 1, k + 1, i, s, h, hk, hs => by
    rw [gX7_begins_L28, if_neg (by rw [pn_le, pn_ti (by omega)]; simp only [Int32.reduceToInt]; omega)]
    by_cases c : i < 4
    · rw [if_neg (by rw [pn_le, pn_ti (by omega)]; simp only [Int32.reduceToInt]; omega), wq_chk_in (vp_in_nI (by omega) (by omega)), pn_cl (by omega), nI_1]
      refine bg_28 r k (i + 1) _ (by omega) (by omega) (fun j hj => ?_)
      by_cases d : j = i
      · rw [d, uq_at, if_pos c]
      · rw [uq_no _ _ d]; exact hs j (by omega)
    · have ei : (18 + nI i) - 4 = nI (14 + i) := by
        rw [show (18 : Int32) = nI 18 from rfl, show (4 : Int32) = nI 4 from rfl, nI_add, pk_sub (by omega)]
        exact congrArg nI (by omega)
      rw [if_pos (by rw [pn_le, pn_ti (by omega)]; simp only [Int32.reduceToInt]; omega), ei, wq_chk_in (vp_in_nI (by omega) (by omega)), wq_chk_in (vp_in_nI (by omega) (by omega)), pn_cl (by omega), pn_cl (by omega), nI_1]
      refine bg_28 r k (i + 1) _ (by omega) (by omega) (fun j hj => ?_)
      by_cases d : j = i
      · rw [d, uq_at, if_neg c]
      · rw [uq_no _ _ d]; exact hs j (by omega)
theorem bg_2 {draft s kept : Nat → Int32} {kn nd : Int32} : ∀ (r k i : Nat) (t : Nat → Int32), i + r = 22 → r < k → (∀ j, j < i → t j = draft j) → ∃ t2 : Nat → Int32, (∀ j, j < 22 → t2 j = draft j) ∧ gX7_begins_L2 draft s kn kept nd k (nI i) t = gX7_begins_L28 t2 kn kept nd 1000 0 s
  | r, 0, i, t, _, h, _ => absurd h (by omega)
  | 0, k + 1, i, t, h, _, ht => ⟨t, fun j hj => ht j (by omega), by rw [gX7_begins_L2, if_pos (by rw [pn_le, pn_ti (by omega)]; simp only [Int32.reduceToInt]; omega)]⟩
  | r + 1, k + 1, i, t, h, hk, ht => by
    rw [gX7_begins_L2, if_neg (by rw [pn_le, pn_ti (by omega)]; simp only [Int32.reduceToInt]; omega), wq_chk_in (vp_in_nI (by omega) (by omega)), pn_cl (by omega), nI_1]
    refine bg_2 r k (i + 1) (upd t i (draft i)) (by omega) (by omega) (fun j hj => ?_)
    by_cases c : j = i
    · rw [c, uq_at]
    · rw [uq_no _ _ c]; exact ht j (by omega)
theorem begins_M (told draft s : Nat → Int32) (kn : Int32) (kept : Nat → Int32) (nd : Int32) : ∃ t2 s2 : Nat → Int32, (∀ j, j < 22 → t2 j = draft j) ∧ (∀ j, j < 8 → s2 j = if j < 4 then 0 else draft (14 + j)) ∧ gX7_begins told draft s kn kept nd = some (t2, s2, 0, upd (upd kept 0 0) 1 0, 0) := by
  obtain ⟨t2, h1, e1⟩ := bg_2 (draft := draft) (s := s) (kept := kept) (kn := kn) (nd := nd) 22 1000 0 told rfl (by omega) (fun j hj => by omega)
  obtain ⟨s2, h2, e2⟩ := bg_28 (told := t2) (kept := kept) (kn := kn) (nd := nd) 8 1000 0 s rfl (by omega) (fun j hj => by omega)
  refine ⟨t2, s2, h1, fun j hj => ?_, ?_⟩
  · rw [h2 j hj]
    by_cases c : j < 4
    · rw [if_pos c, if_pos c]
    · rw [if_neg c, if_neg c, h1 _ (by omega)]
  · unfold gX7_begins
    exact e1.trans e2
theorem laf_C {lk : Nat → Int32} {W k : Nat} (hW : W ≤ 4) (hk : k < 4) : gX5_likingAtFirst lk (nI W) (nI k) = some (if k < W then lk k else 0) := by
  unfold gX5_likingAtFirst gX5_hasWoman
  rw [if_neg (by rw [pn_lt, pn_ti (by omega)]; simp only [Int32.reduceToInt]; omega)]
  by_cases c : k < W
  · rw [if_neg (by rw [pn_le, pn_ti (by omega), pn_ti (by omega)]; omega), if_neg (by rw [pn_le, pn_ti (by omega)]; simp only [Int32.reduceToInt]; omega), wq_b1_e, if_neg (by decide), wq_chk_in (vp_in_nI (by omega) (by omega)), pn_cl (by omega), if_pos c]
  · rw [if_pos (by rw [pn_le, pn_ti (by omega), pn_ti (by omega)]; omega), wq_b1_e, if_pos rfl, if_neg c]
theorem sn_2 {lk : Nat → Int32} {W : Nat} (hW : W ≤ 4) {d t il dn : Int32} : ∀ (r k i : Nat) (l : Nat → Int32), i + r = 4 → r < k → (∀ j, j < i → l j = if j < W then lk j else 0) → ∃ l2 : Nat → Int32, (∀ j, j < 4 → l2 j = if j < W then lk j else 0) ∧ gX0_startAnew_L2 d t il dn lk (nI W) k (nI i) l = some (l2, 0, 0, 0, 0)
  | r, 0, i, l, _, h, _ => absurd h (by omega)
  | 0, k + 1, i, l, h, _, hl => ⟨l, fun j hj => hl j (by omega), by rw [gX0_startAnew_L2, if_pos (by rw [pn_le, pn_ti (by omega)]; simp only [Int32.reduceToInt]; omega)]⟩
  | r + 1, k + 1, i, l, h, hk, hl => by
    rw [gX0_startAnew_L2, if_neg (by rw [pn_le, pn_ti (by omega)]; simp only [Int32.reduceToInt]; omega), laf_C hW (by omega), wq_b1_e, wq_chk_in (vp_in_nI (by omega) (by omega)), pn_cl (by omega), nI_1]
    refine sn_2 hW r k (i + 1) _ (by omega) (by omega) (fun j hj => ?_)
    by_cases c : j = i
    · rw [c, uq_at]
    · rw [uq_no _ _ c]; exact hl j (by omega)
theorem RT_of {tt gg lk ds draft t2 : Nat → Int32} {G W b : Nat} (hR : RDb tt gg lk ds G W b draft) (h : ∀ j, j < 22 → t2 j = draft j) : RT tt gg ds (nI G) (nI W) t2 := by
  obtain ⟨⟨hG, hW, hb⟩, h0, h1, h7, hs, hg, hl, hz⟩ := hR
  have s0 := hs 0 (by omega)
  have s1 := hs 1 (by omega)
  have s2 := hs 2 (by omega)
  have s3 := hs 3 (by omega)
  have e0 := h 0 (by omega)
  have e1 := h 1 (by omega)
  have f0 := h (2 + 0) (by omega)
  have f1 := h (2 + 1) (by omega)
  have f2 := h (2 + 2) (by omega)
  have f3 := h (2 + 3) (by omega)
  have t0 : (t2 0).toInt = G := by rw [e0, h0, pn_ti (by omega)]
  have t1 : (t2 1).toInt = W := by rw [e1, h1, pn_ti (by omega)]
  rw [← f0] at s0
  rw [← f1] at s1
  rw [← f2] at s2
  rw [← f3] at s3
  refine ⟨⟨by rw [t0]; omega, by rw [t1]; omega, s0.2, s1.2, s2.2, s3.2, fun k hk => ?_⟩, by rw [e0, h0], by rw [e1, h1], ⟨s0.1, s1.1, s2.1, s3.1⟩, fun k hk => ?_⟩
  · rw [t0] at hk
    rw [h _ (by omega), h (13 + k) (by omega)]
    exact (hg k (by omega)).2.2
  · rw [t0] at hk
    rw [h _ (by omega), h (13 + k) (by omega)]
    exact ⟨(hg k (by omega)).1, (hg k (by omega)).2.1⟩
theorem RN_of {tt gg lk ds draft l2 s2 : Nat → Int32} {G W b : Nat} (hR : RDb tt gg lk ds G W b draft) (hl2 : ∀ j, j < 4 → l2 j = if j < W then lk j else 0) (h : ∀ j, j < 8 → s2 j = if j < 4 then 0 else draft (14 + j)) : RN l2 0 0 0 0 s2 := by
  obtain ⟨⟨hG, hW, hb⟩, h0, h1, h7, hs, hg, hl, hz⟩ := hR
  have z : ∀ j, j < 4 → s2 j = 0 := fun j hj => by rw [h j (by omega), if_pos hj]
  have y : ∀ k, k < 4 → s2 (4 + k) = draft (18 + k) := fun k hk => by rw [h _ (by omega), if_neg (by omega)]; exact congrArg draft (by omega)
  refine ⟨⟨by rw [z 0 (by omega)]; decide, by rw [z 1 (by omega)]; decide, Or.inl (z 2 (by omega)), by rw [z 3 (by omega)]; decide, fun k hk => ?_⟩, (z 0 (by omega)).symm, (z 1 (by omega)).symm, (z 2 (by omega)).symm, (z 3 (by omega)).symm, fun k hk => ?_⟩
  · rw [y k hk]
    by_cases c : k < W
    · exact (hl k c).2
    · rw [hz k (by omega) hk]; decide
  · rw [y k hk, hl2 k hk]
    by_cases c : k < W
    · rw [if_pos c]; exact (hl k c).1
    · rw [if_neg c, hz k (by omega) hk]
section NU
variable {r_images : Nat → Int64} {x_letters : Nat → Int32} {x_size : Int32} {n_likings : Nat → Int32} {n_day n_trust n_ill n_done : Int32} {p_befores : Nat → Int64} {p_known : Int32} {h_tll h_beyond h_minutes : Nat → Int32} {h_size : Int32} {o_fewest o_rows o_first : Nat → Int32} {o_stands : Int32} {t_tears t_gains t_likings t_settings : Nat → Int32} {t_goodbyes t_women : Int32} {m_text m_told m_s m_past m_images m_kept m_notes : Nat → Int32} {m_typed m_known m_noted : Int32}
theorem P_nursery (hX : RX x_letters x_size m_text m_typed) (hT : RT t_tears t_gains t_settings t_goodbyes t_women m_told) (hN : RN n_likings n_day n_trust n_ill n_done m_s) (hP : RP p_befores p_known m_past m_known) (hS : RS h_tll h_beyond h_minutes h_size m_notes m_noted m_told) (hI : RI r_images m_images m_kept) (hO : RO o_fewest o_rows o_first o_stands m_told) (x_place x_fault x_stold : Int32) (d_tears d_gains d_likings d_settings : Nat → Int32) (d_goodbyes d_women : Int32) (m_draft : Nat → Int32) (m_at m_sort m_start m_value : Int32) :
    ∃ r ri2 xs2 xp2 xf2 xt2 nl2 nd2 nt2 ni2 nn2 pk2 hs2 os2 t1 t2 t3 t4 t5 t6 d1 d2 d3 d4 d5 d6 y2 mt2 md2 ms2 mk2 mp2 mn2 ma2 mo2 mst2 mv2, gX6_nursery r_images x_letters x_size x_place x_fault x_stold n_likings n_day n_trust n_ill n_done p_known h_size o_stands t_tears t_gains t_likings t_settings t_goodbyes t_women d_tears d_gains d_likings d_settings d_goodbyes d_women = some (r, ri2, xs2, xp2, xf2, xt2, nl2, nd2, nt2, ni2, nn2, pk2, hs2, os2, t1, t2, t3, t4, t5, t6, d1, d2, d3, d4, d5, d6) ∧ gX7_nursery m_text m_typed m_told m_draft m_s m_known m_kept m_noted m_at m_sort m_start m_value = some (r, y2, mt2, md2, ms2, mk2, mp2, mn2, ma2, mo2, mst2, mv2) ∧ RX x_letters xs2 m_text y2 ∧ RT t1 t2 t4 t5 t6 mt2 ∧ RN nl2 nd2 nt2 ni2 nn2 ms2 ∧ RP p_befores pk2 m_past mk2 ∧ RS h_tll h_beyond h_minutes hs2 m_notes mn2 mt2 ∧ RI ri2 m_images mp2 ∧ RO o_fewest o_rows o_first os2 mt2 := by
  obtain ⟨ex, hx, hxl⟩ := hX
  obtain ⟨n, hn, en, en2⟩ := pn_nI (N := 121) hx.1 (by omega)
  subst ex
  rw [en]
  have hfg : ∀ k, k < n → x_letters k = m_text k := fun k hk => (hxl k (by omega)).1
  have hg : ∀ k, k < n → 0 ≤ (m_text k).toInt := fun k hk => (hxl k (by omega)).2.1
  have key := tell_P (by omega) hfg hg x_place x_fault x_stold d_tears d_gains d_likings d_settings d_goodbyes d_women m_draft m_at m_sort m_start m_value
  unfold gX6_nursery gX7_nursery
  rcases key with ⟨s, hs, ⟨pl, ft, st2, u2, g2, l2, z2, G2, W2, e1⟩, d, a, so2, va2, e2⟩ | ⟨j, pl, ft, b2, u2, g2, l2, z2, G2, W2, d, a, so2, st2, va2, hj, e1, e2, hR, h6⟩
  · have neg : ¬ (0 : Int32) ≤ -10 - nI s := by
      rw [pn_le, fb_subI (by rw [pn_ti (by omega)]; simp only [Int32.reduceToInt]; omega) (by rw [pn_ti (by omega)]; simp only [Int32.reduceToInt]; omega), pn_ti (by omega)]
      simp only [Int32.reduceToInt]; omega
    rw [e1, e2, wq_b10_e, wq_b6_e, if_neg neg, if_pos rfl]
    refine ⟨_, _, _, _, _, _, _, _, _, _, _, _, _, _, _, _, _, _, _, _, _, _, _, _, _, _, _, _, _, _, _, _, _, _, _, _, _, rfl, rfl, ?_, hT, hN, hP, hS, hI, hO⟩
    rw [← en]
    exact ⟨rfl, hx, hxl⟩
  · have pos : (0 : Int32) ≤ nI j := by rw [pn_le, pn_ti (by omega)]; simp only [Int32.reduceToInt]; omega
    obtain ⟨mt2, ms2, hm1, hm2, em⟩ := begins_M m_told d m_s m_known m_kept m_noted
    obtain ⟨nl2, hl2, el⟩ := sn_2 (lk := l2) (W := W2) hR.1.2.1 (d := n_day) (t := n_trust) (il := n_ill) (dn := n_done) 4 1000 0 n_likings rfl (by omega) (fun j hj => by omega)
    have el' : gX0_startAnew n_likings n_day n_trust n_ill n_done l2 (nI W2) = some (nl2, 0, 0, 0, 0) := el
    rw [e1, e2, wq_b10_e, wq_b6_e, if_pos pos, if_neg (by decide), em, wq_b5_e]
    unfold gX4_empty gX2_empty gX3_empty
    rw [wq_b2_e, el', wq_b5_e, wq_b1_e, wq_b2_e]
    have er : mt2 6 = nI j := by rw [hm1 6 (by omega), h6]
    rw [er]
    refine ⟨_, _, _, _, _, _, _, _, _, _, _, _, _, _, _, _, _, _, _, _, _, _, _, _, _, _, _, _, _, _, _, _, _, _, _, _, _, rfl, rfl, ⟨rfl, by decide, fun k hk => ?_⟩, RT_of hR hm1, RN_of hR hl2 hm2, ⟨rfl, by decide, fun k hk => ?_⟩, ⟨rfl, by decide, fun k hk => ?_⟩, ?_, Or.inl rfl⟩
    · exact absurd hk (by show ¬ ((k : Int) < 0); omega)
    · exact absurd hk (by show ¬ ((k : Int) < 0); omega)
    · exact absurd hk (by show ¬ ((k : Int) < 0); omega)
    · intro k hk
      rcases (show k = 0 ∨ k = 1 by omega) with h | h <;> (subst h; exact Or.inl ⟨rfl, rfl⟩)
end NU
