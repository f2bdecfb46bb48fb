/-! the pure layer: nursery, letters and blanks -/
/-- the letter at a place, or -1 past the end -/
def ltI (f : Nat → Int32) (n p : Nat) : Int32 := if p < n then f p else -1
theorem letC {f : Nat → Int32} {n p : Nat} (hn : n ≤ 120) (hp : p ≤ 1000) : gX4_letterAt f (nI n) (nI p) = some (ltI f n p) := by
  unfold gX4_letterAt ltI
  rw [if_neg (by rw [pn_lt, pn_ti (by omega)]; simp only [Int32.reduceToInt]; omega)]
  by_cases c : p < n
  · rw [if_neg (by rw [pn_le, pn_ti (by omega), pn_ti (by omega)]; omega), if_neg (by rw [pn_le, pn_ti (by omega)]; simp only [Int32.reduceToInt]; omega), wq_chk_in (vp_in_nI (by omega) (by omega)), pn_cl (by omega), if_pos c]
  · rw [if_pos (by rw [pn_le, pn_ti (by omega), pn_ti (by omega)]; omega), if_neg c]
theorem letM {f : Nat → Int32} {n p : Nat} (hn : n ≤ 120) (hp : p ≤ 1000) : gX7_letterAt f (nI n) (nI p) = some (ltI f n p) := by
  unfold gX7_letterAt ltI
  by_cases c : p < n
  · rw [if_neg (by rw [pn_le, pn_ti (by omega), pn_ti (by omega)]; omega), wq_chk_in (vp_in_nI (by omega) (by omega)), pn_cl (by omega), if_pos c]
  · rw [if_pos (by rw [pn_le, pn_ti (by omega), pn_ti (by omega)]; omega), if_neg c]
/-- the first place from p on that is no blank -/
def skF (f : Nat → Int32) (n : Nat) : Nat → Nat → Nat
  | 0, p => p
  | m + 1, p => if ltI f n p = 32 then skF f n m (p + 1) else p
def skN (f : Nat → Int32) (n p : Nat) : Nat := skF f n (n - p) p
theorem lt_end {f : Nat → Int32} {n p : Nat} (h : n ≤ p) : ltI f n p = -1 := by unfold ltI; rw [if_neg (by omega)]
theorem skF_spec (f : Nat → Int32) (n : Nat) : ∀ m p, p + m = n → p ≤ skF f n m p ∧ skF f n m p ≤ n ∧ ltI f n (skF f n m p) ≠ 32
  | 0, p, h => by rw [skF, lt_end (by omega)]; exact ⟨by omega, by omega, by decide⟩
  | m + 1, p, h => by
    rw [skF]
    by_cases c : ltI f n p = 32
    · rw [if_pos c]
      have := skF_spec f n m (p + 1) (by omega)
      exact ⟨by omega, this.2⟩
    · rw [if_neg c]; exact ⟨by omega, by omega, c⟩
theorem skN_spec (f : Nat → Int32) {n p : Nat} (h : p ≤ n) : p ≤ skN f n p ∧ skN f n p ≤ n ∧ ltI f n (skN f n p) ≠ 32 := skF_spec f n (n - p) p (by omega)
theorem sb_C {f : Nat → Int32} {n : Nat} (hn : n ≤ 120) : ∀ m k p, p + m = n → m < k → gX4_skipBlanks_L0 f (nI n) k (nI p) = some (nI (skF f n m p))
  | m, 0, p, _, h => absurd h (by omega)
  | 0, k + 1, p, h, _ => by rw [gX4_skipBlanks_L0, if_pos (by rw [pn_le, pn_ti (by omega), pn_ti (by omega)]; omega), skF]
  | m + 1, k + 1, p, h, hk => by
    rw [gX4_skipBlanks_L0, if_neg (by rw [pn_le, pn_ti (by omega), pn_ti (by omega)]; omega), letC hn (by omega), wq_b1_e, skF, nI_1]
    by_cases c : ltI f n p = 32
    · rw [if_pos c, if_pos c]; exact sb_C hn m k (p + 1) (by omega) (by omega)
    · rw [if_neg c, if_neg c]
theorem skip_C2 {f : Nat → Int32} {n p : Nat} (hn : n ≤ 120) (hp : p ≤ n) : gX4_skipBlanks f (nI n) (nI p) = some (nI (skN f n p)) := sb_C hn (n - p) 1000 p (by omega) (by omega)
/-- blanks before a token of the reference -/
theorem sb_M {f : Nat → Int32} {n : Nat} (hn : n ≤ 120) {s1 s2 s3 : Int32} : ∀ m k p, p + m = n → gX7_token_L0 f (nI n) s1 s2 s3 (k + m + 1) (nI p) = gX7_token_L0 f (nI n) s1 s2 s3 (k + m + 1 - (skF f n m p - p)) (nI (skF f n m p))
  | 0, k, p, h => by rw [skF, Nat.sub_self, Nat.sub_zero]
  | m + 1, k, p, h => by
    rw [skF]
    by_cases c : ltI f n p = 32
    · have hs := (skF_spec f n m (p + 1) (by omega)).1
      rw [if_pos c, gX7_token_L0, letM hn (by omega), wq_b1_e, if_pos c, nI_1, show k + (m + 1) = k + m + 1 by omega, sb_M hn m k (p + 1) (by omega)]
      rw [show k + m + 1 + 1 - (skF f n m (p + 1) - p) = k + m + 1 - (skF f n m (p + 1) - (p + 1)) by omega]
    · rw [if_neg c, Nat.sub_self, Nat.sub_zero]
