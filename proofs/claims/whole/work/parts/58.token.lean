/-! the pure layer: nursery, the reference's tokens -/
def rvF (f : Nat → Int32) (n : Nat) (z : Bool) : Nat → Nat → Nat → Nat
  | 0, _, v => v
  | m + 1, p, v => if isD (ltI f n p) = true then rvF f n z m (p + 1) (if z = true then 1000 else if v ≤ 99 then 10 * v + dgV f n p else 1000) else v
theorem isDig_M (x : Int32) : gX7_isDigit x = some (if isD x = true then 1 else 0) := by
  unfold gX7_isDigit isD
  rw [in_M, wq_b1_e]
  simp only [Int32.reduceToInt, decide_eq_true_eq]
theorem rv_le (f : Nat → Int32) (n : Nat) (z : Bool) : ∀ m p v, v ≤ 1000 → rvF f n z m p v ≤ 1000
  | 0, p, v, h => h
  | m + 1, p, v, h => by
    rw [rvF]
    by_cases c : isD (ltI f n p) = true
    · have := isD_e c
      rw [if_pos c]
      refine rv_le f n z m (p + 1) _ ?_
      unfold dgV
      (repeat' split) <;> omega
    · rw [if_neg c]; exact h
theorem tk_130 {f : Nat → Int32} {n : Nat} (hn : n ≤ 120) {z : Bool} {x1 s1 s2 : Int32} (hz : x1 = 48 ↔ z = true) : ∀ m k p v, p + m = n → m < k → v ≤ 1000 → gX7_token_L130 f (nI n) s1 s2 x1 k (nI p) (nI v) = some (nI (dgF f n m p), s1, s2, nI (rvF f n z m p v))
  | m, 0, p, v, _, h, _ => absurd h (by omega)
  | 0, k + 1, p, v, h, _, hv => by
    rw [gX7_token_L130, letM hn (by omega), wq_b1_e, lt_end (by omega), isDig_M, wq_b1_e, if_pos (by decide), dgF, rvF]
  | m + 1, k + 1, p, v, h, hk, hv => by
    rw [gX7_token_L130, letM hn (by omega), wq_b1_e, isDig_M, wq_b1_e, dgF, rvF]
    by_cases c : isD (ltI f n p) = true
    · obtain ⟨e1, e2, e3⟩ := isD_e c
      have ef : f p = ltI f n p := by unfold ltI; rw [if_pos (by omega)]
      rw [if_pos c, if_neg (by decide), if_pos c, if_pos c, nI_1, show (1000 : Int32) = nI 1000 from rfl]
      by_cases cz : z = true
      · rw [if_pos (hz.mpr cz), if_pos cz]
        exact tk_130 hn hz m k (p + 1) 1000 (by omega) (by omega) (by omega)
      · rw [if_neg (fun q => cz (hz.mp q)), if_neg cz]
        by_cases cv : v ≤ 99
        · have ee : ((10 : Int32) * nI v + ltI f n p) - 48 = nI (10 * v + dgV f n p) := by
            unfold dgV
            generalize tN (ltI f n p) = x at e1 e2 e3 ⊢
            rw [e1, show (10 : Int32) = nI 10 from rfl, show (48 : Int32) = nI 48 from rfl, pk_mul, nI_add, pk_sub (by omega)]
            exact congrArg nI (by omega)
          have hd : dgV f n p ≤ 9 := by unfold dgV; omega
          rw [if_pos (by rw [pn_le, pn_ti (by omega)]; simp only [Int32.reduceToInt]; omega), if_pos cv, wq_chk_in (vp_in_nI (by omega) (by omega)), pn_cl (by omega), ef, ee]
          exact tk_130 hn hz m k (p + 1) _ (by omega) (by omega) (by omega)
        · rw [if_neg (by rw [pn_le, pn_ti (by omega)]; simp only [Int32.reduceToInt]; omega), if_neg cv]
          exact tk_130 hn hz m k (p + 1) 1000 (by omega) (by omega) (by omega)
    · rw [if_neg c, if_pos rfl, if_neg c, if_neg c]
/-- the two values -/
theorem cr_eq (f : Nat → Int32) (n : Nat) : ∀ m p v v2, (v = v2 ∧ v ≤ 99) ∨ (v = 100 ∧ 100 ≤ v2) → (cvF f n m p v = rvF f n false m p v2 ∧ cvF f n m p v ≤ 99) ∨ (cvF f n m p v = 100 ∧ 100 ≤ rvF f n false m p v2)
  | 0, p, v, v2, h => h
  | m + 1, p, v, v2, h => by
    rw [cvF, rvF]
    by_cases c : isD (ltI f n p) = true
    · rw [if_pos c, if_pos c, if_neg (by decide)]
      refine cr_eq f n m (p + 1) _ _ ?_
      rcases h with ⟨rfl, h⟩ | ⟨rfl, h⟩
      · rw [if_pos h]; omega
      · by_cases d : v2 ≤ 99
        · omega
        · rw [if_neg d]; omega
    · rw [if_neg c, if_neg c]; exact h
theorem rz_eq (f : Nat → Int32) (n : Nat) : ∀ m p, rvF f n true m p 1000 = 1000
  | 0, p => rfl
  | m + 1, p => by
    rw [rvF, if_pos rfl]
    split
    · exact rz_eq f n m (p + 1)
    · rfl
theorem rz_2 (f : Nat → Int32) (n m p v : Nat) (h : p + m = n) : (dgF f n m p = p ∧ rvF f n true m p v = v ∧ ∀ w, cvF f n m p w = w) ∨ (p + 1 ≤ dgF f n m p ∧ rvF f n true m p v = 1000) := by
  cases m with
  | zero => exact Or.inl ⟨rfl, rfl, fun _ => rfl⟩
  | succ m =>
    rw [dgF, rvF]
    by_cases c : isD (ltI f n p) = true
    · rw [if_pos c, if_pos c, if_pos rfl, rz_eq]
      exact Or.inr ⟨(dg_le f n m (p + 1) (by omega)).1, rfl⟩
    · rw [if_neg c, if_neg c]
      exact Or.inl ⟨rfl, rfl, fun w => by rw [cvF, if_neg c]⟩
