/-! the pure layer: plans, the reference's rounds -/
def cutN (n d : Nat) : Nat := if d ≤ n then d else 0
def wvN (told : Nat → Int32) (n t l : Nat) : Nat := if 1 ≤ dst (RR told) (GN told) (GG told) (GO told) t l ∧ dst (RR told) (GN told) (GG told) (GO told) t l ≤ n then wyM (RR told) (GN told) (GG told) (GO told) (dst (RR told) (GN told) (GG told) (GO told) t l) t l else 0
theorem wvN_lt (told : Nat → Int32) (n t l : Nat) : wvN told n t l < 1000003 := by
  unfold wvN; split
  · exact wyM_lt _ _ _ _ _ _ _
  · omega
/-- what a term of waysFrom is -/
def wtN (told st rw : Nat → Int32) (N t l g : Nat) : Nat := if N = 1 then (if GO told ≤ RR told g t l then RR told g t l - GO told + 1 else 0) else (if st (10 * nxT (GN told) g t + nxL l) = nI (N - 1) then (RR told g t l * tN (rw (10 * nxT (GN told) g t + nxL l))) % 1000003 else 0)
theorem wtN_lt {told st rw : Nat → Int32} {N t l g : Nat} (h : RR told g t l ≤ 96) : wtN told st rw N t l g < 1000003 := by
  unfold wtN; (repeat' split) <;> first | omega | exact Nat.mod_lt _ (by omega)
theorem remM {a : Nat} (ha : a < 2147483648) : nI a - nI a / 1000003 * 1000003 = nI (a % 1000003) := pk_rem (d := 1000003) (by omega) (by omega) (by omega)
theorem wa_6 {told st rw : Nat → Int32} (hT : TI told) {t l N : Nat} (ht : t ≤ 24) (hl : l ≤ 9) (hN : 1 ≤ N) (hN6 : N ≤ 60) (hw : 2 ≤ N → ¬ st (10 * (t - 2) + (l - 1)) = nI (N - 1)) (hr : ∀ p, p < 250 → rw p = nI (tN (rw p)) ∧ tN (rw p) < 1000003) : ∀ (m n i : Nat), i + m = GG told → m < n → gX7_waysFrom_L6 told st rw (nI t) (nI l) (nI N) n (nI (fb_sm (wtN told st rw N t l) i)) (nI i) = some (nI (fb_sm (wtN told st rw N t l) (GG told) % 1000003))
  | m, 0, i, _, h => absurd h (by omega)
  | 0, n + 1, i, hi, h => by
    have h5 := GG_5 hT
    have e : i = GG told := by omega
    subst e
    have hb : fb_sm (wtN told st rw N t l) (GG told) ≤ GG told * 1000003 := fb_sm_bound (fun k hk => Nat.le_of_lt (wtN_lt (rr_e hT hk ht hl).2))
    have hb2 : GG told * 1000003 ≤ 5 * 1000003 := Nat.mul_le_mul_right _ h5
    rw [gX7_waysFrom_L6, if_pos (by rw [GG_e hT, pn_le]; omega), remM (by omega)]
  | m + 1, n + 1, i, hi, h => by
    have h5 := GG_5 hT
    have hg : i < GG told := by omega
    obtain ⟨e1, e2⟩ := rr_e hT hg ht hl
    obtain ⟨o1, o2, o3⟩ := GO_e hT
    obtain ⟨w, hwf⟩ := wildFrom_M hT (show i < 5 by omega) (nI t) (nI l)
    have hge : ¬ told 0 ≤ nI i := by rw [GG_e hT, pn_le, pn_ti (by omega), pn_ti (by omega)]; omega
    have em : nI N - 1 = nI (N - 1) := pk_sub (b := 1) hN
    have np : 10 * nxT (GN told) i t + nxL l < 250 := nx_lt
    have wp : 10 * (t - 2) + (l - 1) < 250 := by omega
    have step : gX7_waysFrom_L6 told st rw (nI t) (nI l) (nI N) (n + 1) (nI (fb_sm (wtN told st rw N t l) i)) (nI i) = gX7_waysFrom_L6 told st rw (nI t) (nI l) (nI N) n (nI (fb_sm (wtN told st rw N t l) (i + 1))) (nI (i + 1)) := by
      rw [gX7_waysFrom_L6, if_neg hge, calmTo_M hT (by omega), wq_b1_e, e1, hwf, wq_b1_e, calmly_M hT hg ht hl, wq_b1_e, wildly_M ht hl, em, nI_1, o1, fb_sm_succ]
      by_cases c1 : N = 1
      · subst c1
        rw [if_pos (show nI 1 = 1 from rfl)]
        unfold wtN
        rw [if_pos rfl]
        by_cases c2 : nI (RR told i t l) < nI (GO told)
        · have z : ¬ GO told ≤ RR told i t l := by rw [pn_lt, pn_ti (by omega), pn_ti (by omega)] at c2; omega
          rw [if_pos c2, if_neg z, show (0 : Int32) = nI 0 from rfl, nI_add]
        · have z : GO told ≤ RR told i t l := by rw [pn_lt, pn_ti (by omega), pn_ti (by omega)] at c2; omega
          rw [if_neg c2, if_pos z, pk_sub z, nI_1, nI_add]
      · have q1 : ¬ nI N = 1 := by rw [fa_eq, pn_ti (by omega)]; simp only [Int32.reduceToInt]; omega
        have q3 := hw (by omega)
        obtain ⟨r1, r2⟩ := hr _ np
        simp only [if_neg q1, wq_b1_e, wq_chk_in (vp_in_nI wp (by omega)), wq_chk_in (vp_in_nI np (by omega)), pn_cl (show 10 * (t - 2) + (l - 1) < 2147483648 by omega), pn_cl (show 10 * nxT (GN told) i t + nxL l < 2147483648 by omega), if_neg q3, ite_self]
        unfold wtN
        rw [if_neg c1]
        by_cases c3 : st (10 * nxT (GN told) i t + nxL l) = nI (N - 1)
        · have hm : RR told i t l * tN (rw (10 * nxT (GN told) i t + nxL l)) ≤ 96 * 1000003 := Nat.mul_le_mul e2 (Nat.le_of_lt r2)
          rw [if_pos c3, if_pos c3, r1, pk_mul, remM (by omega), nI_add, show (0 : Int32) = nI 0 from rfl, nI_add, Nat.add_zero, ← r1]
        · rw [if_neg c3, if_neg c3, show (0 : Int32) = nI 0 from rfl, nI_add, nI_add]
    rw [step]
    exact wa_6 hT ht hl hN hN6 hw hr m n (i + 1) (by omega) (by omega)
theorem ways_M {told st rw : Nat → Int32} (hT : TI told) {t l N : Nat} (ht : t ≤ 24) (hl : l ≤ 9) (hN : 1 ≤ N) (hN6 : N ≤ 60) (hw : 2 ≤ N → ¬ st (10 * (t - 2) + (l - 1)) = nI (N - 1)) (hr : ∀ p, p < 250 → rw p = nI (tN (rw p)) ∧ tN (rw p) < 1000003) : gX7_waysFrom told st rw (nI t) (nI l) (nI N) = some (nI (fb_sm (wtN told st rw N t l) (GG told) % 1000003)) := by
  have h5 := GG_5 hT
  exact wa_6 hT ht hl hN hN6 hw hr (GG told) 1000 0 (by omega) (by omega)
/-- mid-round: places below q are of round N, the others of round N - 1 -/
def MI (told : Nat → Int32) (q N : Nat) (st rw : Nat → Int32) : Prop := ∀ t l, t ≤ 24 → l ≤ 9 → st (10 * t + l) = nI (cutN (if 10 * t + l < q then N else N - 1) (dst (RR told) (GN told) (GG told) (GO told) t l)) ∧ rw (10 * t + l) = nI (wvN told (if 10 * t + l < q then N else N - 1) t l)
theorem MI_rw {told st rw : Nat → Int32} {q N : Nat} (h : MI told q N st rw) : ∀ p, p < 250 → rw p = nI (tN (rw p)) ∧ tN (rw p) < 1000003 := by
  intro p hp
  have e := (h (p / 10) (p % 10) (by omega) (by omega)).2
  rw [show 10 * (p / 10) + p % 10 = p by omega] at e
  have hlt := wvN_lt told (if p < q then N else N - 1) (p / 10) (p % 10)
  have e2 : tN (rw p) = wvN told (if p < q then N else N - 1) (p / 10) (p % 10) := by rw [e]; unfold tN; rw [pn_ti (by omega)]; omega
  rw [e2]
  exact ⟨e, hlt⟩
theorem MI_eq {told st rw : Nat → Int32} {q N t l : Nat} (h : MI told q N st rw) (hN : 2 ≤ N) (hN6 : N ≤ 60) (ht : t ≤ 24) (hl : l ≤ 9) : st (10 * t + l) = nI (N - 1) ↔ dst (RR told) (GN told) (GG told) (GO told) t l = N - 1 := by
  have h34 := dst_le (R := RR told) (gn := GN told) (G := GG told) (goal := GO told) (t := t) (l := l)
  rw [(h t l ht hl).1]
  generalize dst (RR told) (GN told) (GG told) (GO told) t l = d at *
  unfold cutN
  rw [nI_eq (by (repeat' split) <;> omega) (by omega)]
  (repeat' split) <;> omega
/-- one place of a round -/
theorem MI_step {told st rw : Nat → Int32} (hT : TI told) {N t l : Nat} (ht : t ≤ 24) (hl : l ≤ 9) (hN : 1 ≤ N) (hN6 : N ≤ 60) (h : MI told (10 * t + l) N st rw) {kk53 kk31 : Int32 → (Nat → Int32) → (Nat → Int32) → Option (Int32 × (Nat → Int32) × (Nat → Int32))} {a1 a2 : Int32} {n : Nat} : ∃ st2 rw2, MI told (10 * t + l + 1) N st2 rw2 ∧ gX7_reckons_L63 kk53 kk31 told a1 a2 (nI N) (nI t) (n + 1) (nI l) st rw = gX7_reckons_L63 kk53 kk31 told a1 a2 (nI N) (nI t) n (nI (l + 1)) st2 rw2 := by
  have h34 := dst_le (R := RR told) (gn := GN told) (G := GG told) (goal := GO told) (t := t) (l := l)
  obtain ⟨s1, s2⟩ := h t l ht hl
  rw [if_neg (by omega)] at s1 s2
  rw [gX7_reckons_L63, if_neg (by rw [pn_lt, pn_ti (by omega)]; simp only [Int32.reduceToInt]; omega), place_M ht hl, wq_b1_e, wq_chk_in (vp_in_nI (by omega) (by omega)), pn_cl (by omega), nI_1]
  have other : ∀ t' l', t' ≤ 24 → l' ≤ 9 → ¬ (t' = t ∧ l' = l) → (10 * t' + l' < 10 * t + l + 1 ↔ 10 * t' + l' < 10 * t + l) := fun t' l' _ _ _ => by omega
  have same : cutN N (dst (RR told) (GN told) (GG told) (GO told) t l) = cutN (N - 1) (dst (RR told) (GN told) (GG told) (GO told) t l) → wvN told N t l = wvN told (N - 1) t l → MI told (10 * t + l + 1) N st rw := by
    intro z1 z2 t' l' ht' hl'
    by_cases e : t' = t ∧ l' = l
    · obtain ⟨rfl, rfl⟩ := e
      rw [if_pos (by omega), z1, z2]; exact ⟨s1, s2⟩
    · have := h t' l' ht' hl'
      simp only [other t' l' ht' hl' e]
      exact this
  by_cases c0 : st (10 * t + l) = 0
  · rw [if_pos c0]
    have hd : dst (RR told) (GN told) (GG told) (GO told) t l = 0 ∨ N ≤ dst (RR told) (GN told) (GG told) (GO told) t l := by
      rw [s1, show (0 : Int32) = nI 0 from rfl, nI_eq (by unfold cutN; split <;> omega) (by omega)] at c0
      unfold cutN at c0
      split at c0 <;> omega
    have hw : 2 ≤ N → ¬ st (10 * (t - 2) + (l - 1)) = nI (N - 1) := by
      intro h2 e
      rw [MI_eq h h2 hN6 (by omega) (by omega)] at e
      have := dst_mono (gn := GN told) (goal := GO told) (rr_mono hT) (t := t - 2) (l := l - 1) (t' := t) (l' := l) (by omega) ht (by omega) hl (by omega)
      omega
    have near : anF (nrB told st N t l) 0 (GG told) = true ↔ dst (RR told) (GN told) (GG told) (GO told) t l = N := by
      rw [anF_iff]
      by_cases c1 : N = 1
      · subst c1
        rw [dst_1 ht hl]
        constructor
        · rintro ⟨g, -, g2, g3⟩
          unfold nrB at g3; rw [if_pos rfl] at g3
          exact ⟨g, by omega, of_decide_eq_true g3⟩
        · rintro ⟨g, g2, g3⟩
          exact ⟨g, by omega, by omega, by unfold nrB; rw [if_pos rfl]; exact decide_eq_true g3⟩
      · have hs := dst_s (R := RR told) (gn := GN told) (G := GG told) (goal := GO told) (n := N - 1) ht hl (by omega) (by omega)
        rw [show N - 1 + 1 = N by omega] at hs
        rw [hs]
        constructor
        · rintro ⟨g, -, g2, g3⟩
          unfold nrB at g3; rw [if_neg c1, Bool.and_eq_true] at g3
          exact ⟨g, by omega, of_decide_eq_true g3.1, (MI_eq h (by omega) hN6 (by unfold nxT; omega) (by unfold nxL; omega)).mp (of_decide_eq_true g3.2)⟩
        · rintro ⟨g, g2, g3, g4⟩
          refine ⟨g, by omega, by omega, ?_⟩
          unfold nrB; rw [if_neg c1, Bool.and_eq_true]
          exact ⟨decide_eq_true g3, decide_eq_true ((MI_eq h (by omega) hN6 (by unfold nxT; omega) (by unfold nxL; omega)).mpr g4)⟩
    rw [near_M hT ht hl hN hN6 hw, wq_b1_e]
    by_cases cn : dst (RR told) (GN told) (GG told) (GO told) t l = N
    · rw [if_pos (near.mpr cn), if_neg (by decide), wq_b1_e, ways_M hT ht hl hN hN6 hw (MI_rw h), wq_b1_e, wq_chk_in (vp_in_nI (by omega) (by omega)), wq_b1_e, wq_chk_in (vp_in_nI (by omega) (by omega))]
      have ew : fb_sm (wtN told st rw N t l) (GG told) % 1000003 = wyM (RR told) (GN told) (GG told) (GO told) N t l := by
        by_cases c1 : N = 1
        · subst c1
          rw [wyM]
          exact congrArg (fun x => x % 1000003) (fb_sm_cong (fun g hg => by unfold wtN; rw [if_pos rfl]))
        · obtain ⟨n', rfl⟩ : ∃ n', N = n' + 2 := ⟨N - 2, by omega⟩
          rw [wyM]
          refine congrArg (fun x => x % 1000003) (fb_sm_cong (fun g hg => ?_))
          have ht2 : nxT (GN told) g t ≤ 24 := by unfold nxT; omega
          have hl2 : nxL l ≤ 9 := by unfold nxL; omega
          have ee := MI_eq h (by omega) hN6 ht2 hl2
          unfold wtN
          rw [if_neg c1]
          rw [show n' + 2 - 1 = n' + 1 by omega] at ee ⊢
          by_cases cd : dst (RR told) (GN told) (GG told) (GO told) (nxT (GN told) g t) (nxL l) = n' + 1
          · rw [if_pos (ee.mpr cd), if_pos cd]
            have er := (h _ _ ht2 hl2).2
            have ev : wvN told (if 10 * nxT (GN told) g t + nxL l < 10 * t + l then n' + 2 else n' + 2 - 1) (nxT (GN told) g t) (nxL l) = wyM (RR told) (GN told) (GG told) (GO told) (n' + 1) (nxT (GN told) g t) (nxL l) := by
              unfold wvN
              rw [cd, if_pos (by split <;> omega)]
            rw [ev] at er
            have el := wyM_lt (RR told) (GN told) (GG told) (GO told) (n' + 1) (nxT (GN told) g t) (nxL l)
            have et : tN (rw (10 * nxT (GN told) g t + nxL l)) = wyM (RR told) (GN told) (GG told) (GO told) (n' + 1) (nxT (GN told) g t) (nxL l) := by rw [er]; unfold tN; rw [pn_ti (by omega)]; omega
            rw [et]
          · rw [if_neg (fun z => cd (ee.mp z)), if_neg cd]
      rw [ew, pn_cl (show 10 * t + l < 2147483648 by omega)]
      refine ⟨_, _, ?_, rfl⟩
      intro t' l' ht' hl'
      by_cases e : t' = t ∧ l' = l
      · obtain ⟨rfl, rfl⟩ := e
        rw [if_pos (by omega), pk_us, pk_us]
        unfold cutN wvN
        rw [cn, if_pos (Nat.le_refl N), if_pos ⟨hN, Nat.le_refl N⟩]
        exact ⟨rfl, rfl⟩
      · have := h t' l' ht' hl'
        rw [pk_un (by omega), pk_un (by omega)]
        simp only [other t' l' ht' hl' e]
        exact this
    · rw [if_neg (fun z => cn (near.mp z)), if_pos rfl]
      refine ⟨st, rw, same ?_ ?_, rfl⟩
      · unfold cutN; (repeat' split) <;> omega
      · unfold wvN; rw [if_neg (by omega), if_neg (by omega)]
  · rw [if_neg c0]
    have hd : 1 ≤ dst (RR told) (GN told) (GG told) (GO told) t l ∧ dst (RR told) (GN told) (GG told) (GO told) t l ≤ N - 1 := by
      rw [s1, show (0 : Int32) = nI 0 from rfl, nI_eq (by unfold cutN; split <;> omega) (by omega)] at c0
      unfold cutN at c0
      split at c0 <;> omega
    refine ⟨st, rw, same ?_ ?_, rfl⟩
    · unfold cutN; (repeat' split) <;> omega
    · unfold wvN; rw [if_pos (by omega), if_pos (by omega)]
theorem re_63 {told : Nat → Int32} (hT : TI told) {N t : Nat} (ht : t ≤ 24) (hN : 1 ≤ N) (hN6 : N ≤ 60) {kk53 kk31 : Int32 → (Nat → Int32) → (Nat → Int32) → Option (Int32 × (Nat → Int32) × (Nat → Int32))} {a1 a2 : Int32} : ∀ (m n l : Nat) (st rw : Nat → Int32), l + m = 10 → m < n → MI told (10 * t + l) N st rw → ∃ st2 rw2, MI told (10 * (t + 1)) N st2 rw2 ∧ gX7_reckons_L63 kk53 kk31 told a1 a2 (nI N) (nI t) n (nI l) st rw = kk53 (nI (t + 1)) st2 rw2
  | m, 0, l, st, rw, _, h, _ => absurd h (by omega)
  | 0, n + 1, l, st, rw, hl, h, hM => by
    have e : l = 10 := by omega
    subst e
    refine ⟨st, rw, hM, ?_⟩
    rw [gX7_reckons_L63, if_pos (by decide), nI_1]
  | m + 1, n + 1, l, st, rw, hl, h, hM => by
    obtain ⟨st2, rw2, h2, e⟩ := MI_step hT ht (show l ≤ 9 by omega) hN hN6 hM (kk53 := kk53) (kk31 := kk31) (a1 := a1) (a2 := a2) (n := n)
    obtain ⟨st3, rw3, h3, e3⟩ := re_63 hT ht hN hN6 m n (l + 1) st2 rw2 (by omega) (by omega) h2
    exact ⟨st3, rw3, h3, e.trans e3⟩
theorem re_53 {told : Nat → Int32} (hT : TI told) {N : Nat} (hN : 1 ≤ N) (hN6 : N ≤ 60) {kk31 : Int32 → (Nat → Int32) → (Nat → Int32) → Option (Int32 × (Nat → Int32) × (Nat → Int32))} {a1 a2 : Int32} : ∀ (m n t : Nat) (st rw : Nat → Int32), t + m = 25 → m < n → MI told (10 * t) N st rw → ∃ st2 rw2, MI told 250 N st2 rw2 ∧ gX7_reckons_L53 kk31 told a1 a2 (nI N) n (nI t) st rw = kk31 (nI (N + 1)) st2 rw2
  | m, 0, t, st, rw, _, h, _ => absurd h (by omega)
  | 0, n + 1, t, st, rw, ht, h, hM => by
    have e : t = 25 := by omega
    subst e
    refine ⟨st, rw, hM, ?_⟩
    rw [gX7_reckons_L53, if_pos (by decide), nI_1]
  | m + 1, n + 1, t, st, rw, ht, h, hM => by
    rw [gX7_reckons_L53, if_neg (by rw [pn_lt, pn_ti (by omega)]; simp only [Int32.reduceToInt]; omega)]
    obtain ⟨st2, rw2, h2, e⟩ := re_63 hT (show t ≤ 24 by omega) hN hN6 (kk53 := gX7_reckons_L53 kk31 told a1 a2 (nI N) n) (kk31 := kk31) (a1 := a1) (a2 := a2) 10 1000 0 st rw (by omega) (by omega) hM
    obtain ⟨st3, rw3, h3, e3⟩ := re_53 hT hN hN6 m n (t + 1) st2 rw2 (by omega) (by omega) h2
    exact ⟨st3, rw3, h3, e.trans e3⟩
/-- after n rounds -/
def SN (told : Nat → Int32) (n : Nat) (st rw : Nat → Int32) : Prop := ∀ t l, t ≤ 24 → l ≤ 9 → st (10 * t + l) = nI (cutN n (dst (RR told) (GN told) (GG told) (GO told) t l)) ∧ rw (10 * t + l) = nI (wvN told n t l)
theorem SN_MI {told st rw : Nat → Int32} {n : Nat} (h : SN told n st rw) : MI told 0 (n + 1) st rw := by
  intro t l ht hl
  rw [if_neg (by omega), show n + 1 - 1 = n by omega]
  exact h t l ht hl
theorem MI_SN {told st rw : Nat → Int32} {n : Nat} (h : MI told 250 n st rw) : SN told n st rw := by
  intro t l ht hl
  have := h t l ht hl
  rw [if_pos (by omega)] at this
  exact this
theorem re_31 {told : Nat → Int32} (hT : TI told) {t l : Nat} (ht : t ≤ 24) (hl : l ≤ 9) : ∀ (m n N : Nat) (st rw : Nat → Int32), N + m = 60 → m + 1 < n → SN told N st rw → (dst (RR told) (GN told) (GG told) (GO told) t l = 0 ∨ N ≤ dst (RR told) (GN told) (GG told) (GO told) t l) → ∃ st2 rw2, gX7_reckons_L31 told (nI t) (nI l) n (nI (N + 1)) st rw = some (if dst (RR told) (GN told) (GG told) (GO told) t l = 0 then -9 else nI (dst (RR told) (GN told) (GG told) (GO told) t l), st2, rw2) ∧ SN told (if dst (RR told) (GN told) (GG told) (GO told) t l = 0 then 60 else dst (RR told) (GN told) (GG told) (GO told) t l) st2 rw2
  | m, 0, N, st, rw, _, h, _, _ => absurd h (by omega)
  | m, n + 1, N, st, rw, hm, h, hS, hd => by
    have h34 := dst_le (R := RR told) (gn := GN told) (G := GG told) (goal := GO told) (t := t) (l := l)
    obtain ⟨s1, s2⟩ := hS t l ht hl
    have ret : (st (10 * t + l) = 0 → dst (RR told) (GN told) (GG told) (GO told) t l = 0) → (dst (RR told) (GN told) (GG told) (GO told) t l = 0 → N = 60) → (¬ dst (RR told) (GN told) (GG told) (GO told) t l = 0 → dst (RR told) (GN told) (GG told) (GO told) t l = N) → ∃ st2 rw2, (if st (10 * t + l) = 0 then some (-9, st, rw) else some (st (10 * t + l), st, rw)) = some (if dst (RR told) (GN told) (GG told) (GO told) t l = 0 then -9 else nI (dst (RR told) (GN told) (GG told) (GO told) t l), st2, rw2) ∧ SN told (if dst (RR told) (GN told) (GG told) (GO told) t l = 0 then 60 else dst (RR told) (GN told) (GG told) (GO told) t l) st2 rw2 := by
      intro z0 z1 z2
      by_cases c : dst (RR told) (GN told) (GG told) (GO told) t l = 0
      · rw [if_pos c, if_pos c]
        have e0 : st (10 * t + l) = 0 := by rw [s1, c]; unfold cutN; rw [if_pos (by omega)]; rfl
        rw [if_pos e0]
        rw [z1 c] at hS
        exact ⟨_, _, rfl, hS⟩
      · rw [if_neg c, if_neg c, if_neg (fun z => c (z0 z))]
        have e1 : st (10 * t + l) = nI (dst (RR told) (GN told) (GG told) (GO told) t l) := by rw [s1]; unfold cutN; rw [if_pos (by have := z2 c; omega)]
        rw [e1, z2 c]
        exact ⟨_, _, rfl, hS⟩
    rw [gX7_reckons_L31, place_M ht hl]
    simp only [wq_b1_e, wq_chk_in (vp_in_nI (show 10 * t + l < 250 by omega) (by omega)), pn_cl (show 10 * t + l < 2147483648 by omega)]
    have hz : st (10 * t + l) = 0 ↔ (dst (RR told) (GN told) (GG told) (GO told) t l = 0 ∨ N < dst (RR told) (GN told) (GG told) (GO told) t l) := by
      rw [s1, show (0 : Int32) = nI 0 from rfl, nI_eq (by unfold cutN; split <;> omega) (by omega)]
      unfold cutN
      split <;> omega
    by_cases c : m = 0
    · rw [if_pos (by rw [pn_lt, pn_ti (by omega)]; simp only [Int32.reduceToInt]; omega)]
      exact ret (fun z => by rcases hz.mp z with z | z <;> omega) (fun _ => by omega) (fun z => by omega)
    · rw [if_neg (by rw [pn_lt, pn_ti (by omega)]; simp only [Int32.reduceToInt]; omega)]
      by_cases c2 : st (10 * t + l) = 0
      · rw [if_pos c2]
        obtain ⟨st2, rw2, h2, e⟩ := re_53 hT (N := N + 1) (by omega) (by omega) (kk31 := gX7_reckons_L31 told (nI t) (nI l) n) (a1 := nI t) (a2 := nI l) 25 1000 0 st rw (by omega) (by omega) (SN_MI hS)
        rw [show (0 : Int32) = nI 0 from rfl, e]
        exact re_31 hT ht hl (m - 1) n (N + 1) st2 rw2 (by omega) (by omega) (MI_SN h2) (by rcases hz.mp c2 with z | z <;> omega)
      · rw [if_neg c2]
        have hnz : ¬ (dst (RR told) (GN told) (GG told) (GO told) t l = 0 ∨ N < dst (RR told) (GN told) (GG told) (GO told) t l) := fun z => c2 (hz.mpr z)
        have hq := ret (fun z => absurd z c2) (fun z => absurd (Or.inl z) hnz) (fun z => by omega)
        exact hq
theorem re_2 {told : Nat → Int32} {a1 a2 : Int32} : ∀ (m n i : Nat) (st rw : Nat → Int32), i + m = 250 → m < n → (∀ p, p < i → st p = 0 ∧ rw p = 0) → ∃ st2 rw2, gX7_reckons_L2 told a1 a2 n (nI i) st rw = gX7_reckons_L31 told a1 a2 1000 1 st2 rw2 ∧ ∀ p, p < 250 → st2 p = 0 ∧ rw2 p = 0
  | m, 0, i, st, rw, _, h, _ => absurd h (by omega)
  | 0, n + 1, i, st, rw, hi, h, hz => by
    have e : i = 250 := by omega
    subst e
    refine ⟨st, rw, ?_, hz⟩
    rw [gX7_reckons_L2, if_pos (by decide)]
  | m + 1, n + 1, i, st, rw, hi, h, hz => by
    rw [gX7_reckons_L2, if_neg (by rw [pn_le, pn_ti (by omega)]; simp only [Int32.reduceToInt]; omega), wq_chk_in (vp_in_nI (by omega) (by omega)), pn_cl (by omega), nI_1]
    refine re_2 m n (i + 1) _ _ (by omega) (by omega) (fun p hp => ?_)
    by_cases e : p = i
    · subst e; rw [pk_us, pk_us]; exact ⟨rfl, rfl⟩
    · rw [pk_un e, pk_un e]; exact hz p (by omega)
theorem reckons_M {told st rw : Nat → Int32} (hT : TI told) {t l : Nat} (ht : t ≤ 24) (hl : l ≤ 9) : ∃ st2 rw2, gX7_reckons told st rw (nI t) (nI l) = some (if dst (RR told) (GN told) (GG told) (GO told) t l = 0 then -9 else nI (dst (RR told) (GN told) (GG told) (GO told) t l), st2, rw2) ∧ SN told (if dst (RR told) (GN told) (GG told) (GO told) t l = 0 then 60 else dst (RR told) (GN told) (GG told) (GO told) t l) st2 rw2 := by
  obtain ⟨st2, rw2, e, hz⟩ := re_2 (told := told) (a1 := nI t) (a2 := nI l) 250 1000 0 st rw (by omega) (by omega) (fun p hp => by omega)
  have h0 : SN told 0 st2 rw2 := by
    intro t' l' ht' hl'
    obtain ⟨z1, z2⟩ := hz (10 * t' + l') (by omega)
    rw [z1, z2]
    unfold cutN wvN
    refine ⟨?_, ?_⟩
    · split
      · next c => rw [Nat.le_zero.mp c]; rfl
      · rfl
    · rw [if_neg (by omega)]; rfl
  obtain ⟨st3, rw3, e3, h3⟩ := re_31 hT ht hl 60 1000 0 st2 rw2 (by omega) (by omega) h0 (by omega)
  refine ⟨st3, rw3, ?_, h3⟩
  unfold gX7_reckons
  rw [show (0 : Int32) = nI 0 from rfl, e]
  exact e3
