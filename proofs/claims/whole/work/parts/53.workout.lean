/-! the pure layer: plans, the class works out -/
theorem placeC (a b : Nat) : gX1_placeOf (nI a) (nI b) = some (nI (10 * a + b)) := by
  unfold gX1_placeOf
  rw [show (10 : Int32) = nI 10 from rfl, pk_mul, nI_add, Nat.mul_comm]
theorem isPl_C {p : Nat} (h : p < 250) : gX1_isPlace (nI p) = some 1 := by
  unfold gX1_isPlace
  rw [if_neg (by rw [pn_lt, pn_ti (by omega)]; simp only [Int32.reduceToInt]; omega), if_neg (by rw [pn_le, pn_ti (by omega)]; simp only [Int32.reduceToInt]; omega)]
theorem fewAt_C {f : Nat → Int32} {p : Nat} (h : p < 250) : gX1_fewestAt f (nI p) = some (f p) := by
  unfold gX1_fewestAt
  rw [isPl_C h, wq_b1_e, if_neg (by decide), wq_chk_in (vp_in_nI h (by omega)), pn_cl (by omega)]
theorem rowAt_C {f : Nat → Int32} {p : Nat} (h : p < 250) : gX1_rowsAt f (nI p) = some (f p) := by
  unfold gX1_rowsAt
  rw [isPl_C h, wq_b1_e, if_neg (by decide), wq_chk_in (vp_in_nI h (by omega)), pn_cl (by omega)]
def LPo (ov wv : Nat → Nat) (p i : Nat) (f r w : Nat → Int32) : Prop := f p = nI (moN ov i) ∧ r p = nI (soN ov wv i) ∧ (moN ov i ≠ 0 → w p = nI (koN ov i))
theorem mo_le {ov : Nat → Nat} {B : Nat} (h : ∀ g, ov g ≤ B) (i : Nat) : moN ov i ≤ B := by
  by_cases c : moN ov i = 0
  · omega
  · obtain ⟨⟨-, b2, -⟩, -⟩ := (mo_spec ov i).2 c
    rw [← b2]; exact h _
theorem so_zero {ov wv : Nat → Nat} : ∀ i, (∀ g, g < i → ov g = 0) → soN ov wv i = 0
  | 0, _ => rfl
  | i + 1, h => by rw [soN, if_pos (h i (by omega))]; exact so_zero i (fun g hg => h g (by omega))
theorem skip_C {ov wv : Nat → Nat} {p i : Nat} {f r w : Nat → Int32} (h : LPo ov wv p i f r w) (hz : ov i = 0) : LPo ov wv p (i + 1) f r w := by
  unfold LPo at *
  rw [moN, soN, koN, if_pos hz, if_pos hz, if_pos hz]; exact h
theorem offer_C {ov wv : Nat → Nat} {p i : Nat} {f r w : Nat → Int32} (h : LPo ov wv p i f r w) (hp : p < 250) (hz : ov i ≠ 0) (hb : ∀ g, ov g ≤ 35) (hw : wv i ≤ 100000000) : ∃ f2 r2 w2, gX1_offer f r w (nI p) (nI i) (nI (ov i)) (nI (wv i)) = some (f2, r2, w2) ∧ LPo ov wv p (i + 1) f2 r2 w2 ∧ ∀ q, q ≠ p → f2 q = f q ∧ r2 q = r q ∧ w2 q = w q := by
  obtain ⟨h1, h2, h3⟩ := h
  have hm := mo_le hb i
  have hbi := hb i
  have hs := so_lt ov wv i
  unfold gX1_offer LPo
  rw [isPl_C hp, wq_b1_e, if_neg (by decide), wq_chk_in (vp_in_nI hp (by omega)), pn_cl (by omega), remM (by omega), h1, h2, nI_add, remM (by omega), moN, soN, koN, if_neg hz, if_neg hz, if_neg hz]
  have ze : nI (moN ov i) = 0 ↔ moN ov i = 0 := by rw [show (0 : Int32) = nI 0 from rfl, nI_eq (by omega) (by omega)]
  have le : nI (moN ov i) ≤ nI (ov i) ↔ moN ov i ≤ ov i := by rw [pn_le, pn_ti (by omega), pn_ti (by omega)]; omega
  have ee : nI (ov i) = nI (moN ov i) ↔ ov i = moN ov i := nI_eq (by omega) (by omega)
  by_cases c : moN ov i = 0
  · rw [if_pos (ze.mpr c), if_pos (Or.inl c), if_pos (Or.inl c), if_pos (Or.inl c)]
    exact ⟨_, _, _, rfl, ⟨pk_us, pk_us, fun _ => pk_us⟩, fun q hq => ⟨pk_un hq, pk_un hq, pk_un hq⟩⟩
  · rw [if_neg (fun z => c (ze.mp z))]
    by_cases d : ov i < moN ov i
    · rw [if_neg (fun z => absurd (le.mp z) (by omega)), if_pos (Or.inr d), if_pos (Or.inr d), if_pos (Or.inr d)]
      exact ⟨_, _, _, rfl, ⟨pk_us, pk_us, fun _ => pk_us⟩, fun q hq => ⟨pk_un hq, pk_un hq, pk_un hq⟩⟩
    · have nd : ¬ (moN ov i = 0 ∨ ov i < moN ov i) := by omega
      rw [if_pos (le.mpr (by omega)), if_neg nd, if_neg nd, if_neg nd]
      by_cases e : ov i = moN ov i
      · rw [if_pos (ee.mpr e), if_pos e]
        exact ⟨_, _, _, rfl, ⟨h1, pk_us, h3⟩, fun q hq => ⟨rfl, pk_un hq, rfl⟩⟩
      · rw [if_neg (fun z => e (ee.mp z)), if_neg e]
        exact ⟨_, _, _, rfl, ⟨h1, h2, h3⟩, fun q hq => ⟨rfl, rfl, rfl⟩⟩
def dsT (told : Nat → Int32) (t l : Nat) : Nat := dst (RR told) (GN told) (GG told) (GO told) t l
def wyT (told : Nat → Int32) (t l : Nat) : Nat := wyW (RR told) (GN told) (GG told) (GO told) t l
def ovT (told : Nat → Int32) (t l : Nat) : Nat → Nat := ovN (RR told) (GN told) (GG told) (GO told) t l
def wwT (told : Nat → Int32) (t l : Nat) : Nat → Nat := wwN (RR told) (GN told) (GG told) (GO told) t l
theorem dsT_le (told : Nat → Int32) (t l : Nat) : dsT told t l ≤ 34 := dst_le
theorem wyT_lt (told : Nat → Int32) (t l : Nat) : wyT told t l < 1000003 := wyM_lt _ _ _ _ _ _ _
theorem ovT_e (told : Nat → Int32) (t l g : Nat) : ovT told t l g = if GO told ≤ RR told g t l then 1 else if 1 ≤ RR told g t l ∧ ¬ 10 * nxT (GN told) g t + nxL l = 10 * t + l ∧ dsT told (nxT (GN told) g t) (nxL l) ≠ 0 then dsT told (nxT (GN told) g t) (nxL l) + 1 else 0 := rfl
theorem wwT_e (told : Nat → Int32) (t l g : Nat) : wwT told t l g = if GO told ≤ RR told g t l then RR told g t l - GO told + 1 else RR told g t l * wyT told (nxT (GN told) g t) (nxL l) := rfl
theorem ovT_le (told : Nat → Int32) (t l g : Nat) : ovT told t l g ≤ 35 := by
  have h := dsT_le told (nxT (GN told) g t) (nxL l)
  rw [ovT_e]
  (repeat' split) <;> omega
/-- places from q on are worked out -/
def OI (told : Nat → Int32) (q : Nat) (f r w : Nat → Int32) : Prop := ∀ t l, t ≤ 24 → l ≤ 9 → q ≤ 10 * t + l → f (10 * t + l) = nI (dsT told t l) ∧ r (10 * t + l) = nI (wyT told t l) ∧ (dsT told t l ≠ 0 → w (10 * t + l) = nI (koN (ovT told t l) (GG told)))
theorem OI_keep {told f r w f2 r2 w2 : Nat → Int32} {p : Nat} (h : OI told (p + 1) f r w) (hk : ∀ q, q ≠ p → f2 q = f q ∧ r2 q = r q ∧ w2 q = w q) : OI told (p + 1) f2 r2 w2 := by
  intro t l ht hl hq
  obtain ⟨a, b, c⟩ := hk (10 * t + l) (by omega)
  rw [a, b, c]; exact h t l ht hl hq
section WO
variable {t_tears t_gains t_settings : Nat → Int32} {t_goodbyes t_women : Int32} {told : Nat → Int32}
theorem wo_42 (hT : RT t_tears t_gains t_settings t_goodbyes t_women told) {t l : Nat} (ht : t ≤ 24) (hl : l ≤ 9) : ∀ (m n i : Nat) (f r w : Nat → Int32), i + m = GG told → m < n → LPo (ovT told t l) (wwT told t l) (10 * t + l) i f r w → OI told (10 * t + l + 1) f r w → ∃ f2 r2 w2, gX1_workOutFrom_L42 t_tears t_gains t_settings t_goodbyes (nI t) (nI l) (nI (10 * t + l)) (nI (GO told)) n (nI i) f r w = some (f2, r2, w2) ∧ LPo (ovT told t l) (wwT told t l) (10 * t + l) (GG told) f2 r2 w2 ∧ OI told (10 * t + l + 1) f2 r2 w2
  | m, 0, i, f, r, w, _, h, _, _ => absurd h (by omega)
  | 0, n + 1, i, f, r, w, hi, h, hL, hO => by
    have h5 := GG_5 hT.1
    have e : i = GG told := by omega
    subst e
    rw [gX1_workOutFrom_L42, if_pos (by rw [hT.2.1, GG_e hT.1, pn_le]; omega)]
    exact ⟨f, r, w, rfl, hL, hO⟩
  | m + 1, n + 1, i, f, r, w, hi, h, hL, hO => by
    have h5 := GG_5 hT.1
    have hg : i < GG told := by omega
    obtain ⟨e1, e2⟩ := rr_e hT.1 hg ht hl
    obtain ⟨o1, o2, o3⟩ := GO_e hT.1
    have hge : ¬ t_goodbyes ≤ nI i := by rw [hT.2.1, GG_e hT.1, pn_le, pn_ti (by omega), pn_ti (by omega)]; omega
    have np : 10 * nxT (GN told) i t + nxL l < 250 := nx_lt
    have nt : nxT (GN told) i t ≤ 24 ∧ t ≤ nxT (GN told) i t := by unfold nxT; omega
    have nl : nxL l ≤ 9 ∧ l ≤ nxL l := by unfold nxL; omega
    have hov := ovT_e told t l i
    have hww := wwT_e told t l i
    rw [gX1_workOutFrom_L42, if_neg hge, reach_C hT (by omega) (GG_lt hT.1 hg), wq_b1_e, e1, nI_1]
    by_cases c1 : GO told ≤ RR told i t l
    · rw [if_pos c1] at hov hww
      obtain ⟨f2, r2, w2, ho, hL2, hk⟩ := offer_C hL (by omega) (by omega) (ovT_le told t l) (by omega)
      rw [hov, hww] at ho
      rw [if_neg (by rw [pn_lt, pn_ti (by omega), pn_ti (by omega)]; omega), pk_sub c1, nI_1, show (1 : Int32) = nI 1 from rfl, ho, wq_b3_e]
      exact wo_42 hT ht hl m n (i + 1) f2 r2 w2 (by omega) (by omega) hL2 (OI_keep hO hk)
    · rw [if_neg c1] at hov hww
      rw [if_pos (by rw [pn_lt, pn_ti (by omega), pn_ti (by omega)]; omega)]
      by_cases c2 : 1 ≤ RR told i t l
      · rw [if_neg (by rw [pn_lt, pn_ti (by omega)]; simp only [Int32.reduceToInt]; omega), calmerT_C hT (by omega) (GG_lt hT.1 hg), wq_b1_e, calmerL_C, wq_b1_e, calmT_n hT.1 hg ht, calmL_n hl, placeC, wq_b1_e]
        by_cases c3 : 10 * nxT (GN told) i t + nxL l = 10 * t + l
        · rw [if_neg (fun z => z.2.1 c3)] at hov
          rw [if_pos (congrArg nI c3)]
          exact wo_42 hT ht hl m n (i + 1) f r w (by omega) (by omega) (skip_C hL hov) hO
        · obtain ⟨q1, q2, -⟩ := hO _ _ nt.1 nl.1 (by omega)
          have d34 := dsT_le told (nxT (GN told) i t) (nxL l)
          rw [if_neg (fun z => c3 ((nI_eq (by omega) (by omega)).mp z)), fewAt_C np, wq_b1_e, q1]
          by_cases c4 : dsT told (nxT (GN told) i t) (nxL l) = 0
          · rw [if_neg (fun z => z.2.2 c4)] at hov
            rw [if_pos (by rw [c4]; decide)]
            exact wo_42 hT ht hl m n (i + 1) f r w (by omega) (by omega) (skip_C hL hov) hO
          · rw [if_pos ⟨c2, c3, c4⟩] at hov
            have hm : RR told i t l * wyT told (nxT (GN told) i t) (nxL l) ≤ 96 * 1000003 := Nat.mul_le_mul e2 (Nat.le_of_lt (wyT_lt _ _ _))
            obtain ⟨f2, r2, w2, ho, hL2, hk⟩ := offer_C hL (by omega) (by omega) (ovT_le told t l) (by omega)
            rw [hov, hww] at ho
            rw [if_neg (by rw [pn_le, pn_ti (by omega)]; simp only [Int32.reduceToInt]; omega), wq_b1_e, rowAt_C np, wq_b1_e, q2, nI_1, pk_mul, ho, wq_b3_e]
            exact wo_42 hT ht hl m n (i + 1) f2 r2 w2 (by omega) (by omega) hL2 (OI_keep hO hk)
      · rw [if_neg (fun z => c2 z.1)] at hov
        rw [if_pos (by rw [pn_lt, pn_ti (by omega)]; simp only [Int32.reduceToInt]; omega)]
        exact wo_42 hT ht hl m n (i + 1) f r w (by omega) (by omega) (skip_C hL hov) hO
theorem woF_C (hT : RT t_tears t_gains t_settings t_goodbyes t_women told) {t l : Nat} (ht : t ≤ 24) (hl : l ≤ 9) {f r w : Nat → Int32} (hO : OI told (10 * t + l + 1) f r w) : ∃ f2 r2 w2, gX1_workOutFrom f r w t_tears t_gains t_settings t_goodbyes (nI t) (nI l) = some (f2, r2, w2) ∧ OI told (10 * t + l) f2 r2 w2 := by
  have h5 := GG_5 hT.1
  have s3 := hT.2.2.2.1.2.2.2
  obtain ⟨f2, r2, w2, e, ⟨l1, l2, l3⟩, hO2⟩ := wo_42 hT ht hl (GG told) 1000 0 (upd f (10 * t + l) 0) (upd r (10 * t + l) 0) w (by omega) (by omega) ⟨pk_us, pk_us, fun z => absurd rfl z⟩ (OI_keep hO (fun q hq => ⟨pk_un hq, pk_un hq, rfl⟩))
  have em : moN (ovT told t l) (GG told) = dsT told t l := mo_dst ht hl
  refine ⟨f2, r2, w2, ?_, ?_⟩
  · unfold gX1_workOutFrom
    rw [placeC, wq_b1_e, isPl_C (by omega), wq_b1_e, if_neg (by decide), wq_chk_in (vp_in_nI (by omega) (by omega)), set3, wq_b1_e, pn_cl (by omega), s3, (GO_e hT.1).1]
    exact e
  · intro t' l' ht' hl' hq
    by_cases e' : t' = t ∧ l' = l
    · obtain ⟨rfl, rfl⟩ := e'
      rw [em] at l1 l3
      refine ⟨l1, ?_, l3⟩
      rw [l2]
      rcases so_wy (R := RR told) (gn := GN told) (G := GG told) (goal := GO told) ht hl with z | z
      · exact congrArg nI z
      · have z2 : moN (ovT told t' l') (GG told) = 0 := em.trans z
        rw [so_zero _ ((mo_spec _ _).1 z2)]
        unfold wyT wyW
        rw [z, wyM]
    · exact hO2 t' l' ht' hl' (by omega)
theorem wo_10 (hT : RT t_tears t_gains t_settings t_goodbyes t_women told) {t : Nat} (ht : t ≤ 24) {kk3 : Int32 → (Nat → Int32) → (Nat → Int32) → (Nat → Int32) → Option ((Nat → Int32) × (Nat → Int32) × (Nat → Int32) × Int32)} {s : Int32} : ∀ (m n : Nat) (f r w : Nat → Int32), m ≤ 10 → m < n → OI told (10 * t + m) f r w → ∃ f2 r2 w2, gX1_workOut_L10 kk3 s t_tears t_gains t_settings t_goodbyes (nI t) n (nI m + (-1)) f r w = kk3 (nI t + (-1)) f2 r2 w2 ∧ OI told (10 * t) f2 r2 w2
  | m, 0, f, r, w, _, h, _ => absurd h (by omega)
  | 0, n + 1, f, r, w, hm, h, hO => by
    rw [gX1_workOut_L10, if_pos (by decide)]
    exact ⟨f, r, w, rfl, hO⟩
  | m + 1, n + 1, f, r, w, hm, h, hO => by
    have e : nI (m + 1) + (-1) = nI m := by rw [show nI (m + 1) + (-1) = nI (m + 1) - nI 1 from by rw [Int32.sub_eq_add_neg]; rfl, pk_sub (by omega)]; rfl
    obtain ⟨f2, r2, w2, e2, h2⟩ := woF_C hT ht (show m ≤ 9 by omega) (f := f) (r := r) (w := w) hO
    rw [gX1_workOut_L10, e, if_neg (by rw [pn_lt, pn_ti (by omega)]; simp only [Int32.reduceToInt]; omega), e2, wq_b3_e]
    exact wo_10 hT ht m n f2 r2 w2 (by omega) (by omega) h2
theorem wo_3 (hT : RT t_tears t_gains t_settings t_goodbyes t_women told) {s : Int32} : ∀ (m n : Nat) (f r w : Nat → Int32), m ≤ 25 → m < n → OI told (10 * m) f r w → ∃ f2 r2 w2, gX1_workOut_L3 s t_tears t_gains t_settings t_goodbyes n (nI m + (-1)) f r w = some (f2, r2, w2, 1) ∧ OI told 0 f2 r2 w2
  | m, 0, f, r, w, _, h, _ => absurd h (by omega)
  | 0, n + 1, f, r, w, hm, h, hO => by
    rw [gX1_workOut_L3, if_pos (by decide)]
    exact ⟨f, r, w, rfl, hO⟩
  | m + 1, n + 1, f, r, w, hm, h, hO => by
    have e : nI (m + 1) + (-1) = nI m := by rw [show nI (m + 1) + (-1) = nI (m + 1) - nI 1 from by rw [Int32.sub_eq_add_neg]; rfl, pk_sub (by omega)]; rfl
    obtain ⟨f2, r2, w2, e2, h2⟩ := wo_10 hT (show m ≤ 24 by omega) (kk3 := gX1_workOut_L3 s t_tears t_gains t_settings t_goodbyes n) (s := s) 10 1000 f r w (by omega) (by omega) hO
    rw [gX1_workOut_L3, e, if_neg (by rw [pn_lt, pn_ti (by omega)]; simp only [Int32.reduceToInt]; omega), show (9 : Int32) = nI 10 + (-1) by decide, e2]
    exact wo_3 hT m n f2 r2 w2 (by omega) (by omega) h2
/-- the outlook: it doesn't stand, or it is worked out -/
def RO (o_fewest o_rows o_first : Nat → Int32) (o_stands : Int32) (told : Nat → Int32) : Prop := o_stands = 0 ∨ (o_stands = 1 ∧ OI told 0 o_fewest o_rows o_first)
theorem look_C (hT : RT t_tears t_gains t_settings t_goodbyes t_women told) {f r w : Nat → Int32} {s : Int32} (h : RO f r w s told) : ∃ f2 r2 w2, gX6_lookAhead f r w s t_tears t_gains t_settings t_goodbyes = some (f2, r2, w2, 1) ∧ OI told 0 f2 r2 w2 := by
  unfold gX6_lookAhead gX1_workOut
  rcases h with rfl | ⟨rfl, h⟩
  · obtain ⟨f2, r2, w2, e2, h2⟩ := wo_3 hT (s := 0) 25 1000 f r w (by omega) (by omega) (fun t l ht hl hq => by omega)
    rw [if_pos rfl, show (24 : Int32) = nI 25 + (-1) by decide, e2, wq_b4_e]
    exact ⟨f2, r2, w2, rfl, h2⟩
  · rw [if_neg (by decide)]
    exact ⟨f, r, w, rfl, h⟩
end WO
