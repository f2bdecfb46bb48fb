/-! the pure layer: nursery, a number of the reference -/
theorem nu_no {f : Nat → Int32} {n p lo hi : Nat} (h : ¬ isD (ltI f n (skN f n p)) = true) : nuK f n p lo hi = false := by
  have e : nuE f n p = skN f n p := by
    unfold nuE
    cases hm : n - skN f n p with
    | zero => rw [dgF]
    | succ m => rw [dgF, if_neg h]
  unfold nuK okN
  exact decide_eq_false (fun z => by have := z.1; omega)
theorem nu_yes {f : Nat → Int32} {n p lo hi : Nat} (hh : hi ≤ 96) (hq : skN f n p < n) (h : isD (ltI f n (skN f n p)) = true) : nuE f n p = dgF f n (n - (skN f n p + 1)) (skN f n p + 1) ∧ (nuK f n p lo hi = true ↔ (lo ≤ rvF f n (decide (ltI f n (skN f n p) = 48)) (n - (skN f n p + 1)) (skN f n p + 1) (dgV f n (skN f n p)) ∧ rvF f n (decide (ltI f n (skN f n p) = 48)) (n - (skN f n p + 1)) (skN f n p + 1) (dgV f n (skN f n p)) ≤ hi)) ∧ (nuK f n p lo hi = true → nuV f n p = rvF f n (decide (ltI f n (skN f n p) = 48)) (n - (skN f n p + 1)) (skN f n p + 1) (dgV f n (skN f n p))) := by
  unfold nuK nuE nuV okN
  generalize skN f n p = q at *
  obtain ⟨e1, e2, e3⟩ := isD_e h
  have hd : dgV f n q ≤ 9 := by unfold dgV; omega
  have hle := dg_le f n (n - (q + 1)) (q + 1) (by omega)
  rw [show n - q = n - (q + 1) + 1 by omega, dgF, cvF, if_pos h, if_pos h, show min 100 (10 * 0 + dgV f n q) = dgV f n q by omega]
  refine ⟨rfl, ?_⟩
  rw [decide_eq_true_eq]
  by_cases c : ltI f n q = 48
  · have d0 : dgV f n q = 0 := by unfold dgV; rw [c]; rfl
    rw [decide_eq_true c, d0]
    rcases rz_2 f n (n - (q + 1)) (q + 1) 0 (by omega) with ⟨r1, r2, r3⟩ | ⟨r1, r2⟩
    · rw [r1, r2, r3 0]
      exact ⟨⟨fun z => z.2.2, fun z => ⟨by omega, fun y => by omega, z⟩⟩, fun _ => rfl⟩
    · rw [r2]
      exact ⟨⟨fun z => absurd ⟨by omega, c⟩ z.2.1, fun z => by omega⟩, fun z => absurd ⟨by omega, c⟩ z.2.1⟩
  · rw [decide_eq_false c]
    rcases cr_eq f n (n - (q + 1)) (q + 1) (dgV f n q) (dgV f n q) (Or.inl ⟨rfl, by omega⟩) with ⟨r1, r2⟩ | ⟨r1, r2⟩
    · rw [← r1]
      exact ⟨⟨fun z => z.2.2, fun z => ⟨by omega, fun y => c y.2, z⟩⟩, fun _ => rfl⟩
    · rw [r1]
      exact ⟨⟨fun z => by have := z.2.2.2; omega, fun z => by omega⟩, fun z => by have := z.2.2.2; omega⟩
theorem isW_nd {x : Int32} (h : isW x = true) : ¬ isD x = true := by
  rcases of_decide_eq_true h with h | h | h | h | h | h <;> (rw [h]; decide)
theorem num_M {f : Nat → Int32} {n p lo hi : Nat} (hn : n ≤ 120) (hp : p ≤ n) (hf : ∀ k, k < n → 0 ≤ (f k).toInt) (hl : lo ≤ 96) (hh : hi ≤ 96) {a1 : Int32} (ha : vp_in a1 22) (draft : Nat → Int32) (s1 s2 s3 : Int32) : ∃ aa so va, gX7_number f (nI n) draft (nI p) s1 s2 s3 a1 (nI lo) (nI hi) = some (if nuK f n p lo hi = true then 1 else 0, upd draft (Int32.toNatClampNeg a1) va, aa, so, nI (skN f n p), va) ∧ (nuK f n p lo hi = true → aa = nI (nuE f n p) ∧ va = nI (nuV f n p)) := by
  obtain ⟨h1, h2, h3⟩ := skN_spec f hp
  unfold gX7_number
  rw [tk_M hn hp hf]
  unfold tkR
  by_cases c0 : n ≤ skN f n p
  · have hk := nu_no (f := f) (n := n) (p := p) (lo := lo) (hi := hi) (by rw [lt_end c0]; decide)
    rw [if_pos c0, wq_b4_e, wq_chk_in ha, if_neg (by decide), hk]
    exact ⟨_, _, _, rfl, fun z => absurd z (by decide)⟩
  rw [if_neg c0]
  by_cases c1 : isW (ltI f n (skN f n p)) = true
  · have hk := nu_no (f := f) (n := n) (p := p) (lo := lo) (hi := hi) (isW_nd c1)
    rw [if_pos c1, wq_b4_e, wq_chk_in ha, if_neg (by decide), hk]
    exact ⟨_, _, _, rfl, fun z => absurd z (by decide)⟩
  rw [if_neg c1]
  by_cases c2 : isD (ltI f n (skN f n p)) = true
  · obtain ⟨k1, k2, k3⟩ := nu_yes (lo := lo) hh (by omega) c2
    have hr := rv_le f n (decide (ltI f n (skN f n p) = 48)) (n - (skN f n p + 1)) (skN f n p + 1) (dgV f n (skN f n p)) (by have := isD_e c2; unfold dgV; omega)
    rw [if_pos c2, wq_b4_e, wq_chk_in ha, if_pos rfl, in_M, wq_b1_e, ← k1]
    generalize rvF f n (decide (ltI f n (skN f n p) = 48)) (n - (skN f n p + 1)) (skN f n p + 1) (dgV f n (skN f n p)) = r at *
    rw [pn_ti (by omega), pn_ti (by omega), pn_ti (by omega)]
    by_cases c3 : nuK f n p lo hi = true
    · have := k2.mp c3
      rw [if_pos (show (lo : Int) ≤ r ∧ (r : Int) ≤ hi by omega), if_neg (by decide), if_pos c3]
      exact ⟨_, _, _, rfl, fun _ => ⟨rfl, congrArg nI (k3 c3).symm⟩⟩
    · have : ¬ (lo ≤ r ∧ r ≤ hi) := fun z => c3 (k2.mpr z)
      rw [if_neg (show ¬ ((lo : Int) ≤ r ∧ (r : Int) ≤ hi) by omega), if_pos rfl, if_neg c3]
      exact ⟨_, _, _, rfl, fun z => absurd z c3⟩
  · have hk := nu_no (f := f) (n := n) (p := p) (lo := lo) (hi := hi) c2
    rw [if_neg c2]
    by_cases c3 : ltI f n (skN f n p) = 59
    · rw [if_pos c3, wq_b4_e, wq_chk_in ha, if_neg (by decide), hk]
      exact ⟨_, _, _, rfl, fun z => absurd z (by decide)⟩
    · rw [if_neg c3, wq_b4_e, wq_chk_in ha, if_neg (by decide), hk]
      exact ⟨_, _, _, rfl, fun z => absurd z (by decide)⟩
