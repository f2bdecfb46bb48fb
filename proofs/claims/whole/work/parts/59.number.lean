/-! the pure layer: nursery, a token, a number on both sides -/
def isW (x : Int32) : Bool := decide (x = 103 ∨ x = 119 ∨ x = 115 ∨ x = 99 ∨ x = 120 ∨ x = 122)
theorem isWord_M (x : Int32) : gX7_isWord x = some (if isW x = true then 1 else 0) := by
  unfold gX7_isWord isW
  simp only [decide_eq_true_eq]
  by_cases c1 : x = 103
  · rw [if_pos c1, if_pos (Or.inl c1)]
  by_cases c2 : x = 119
  · rw [if_neg c1, if_pos c2, if_pos (Or.inr (Or.inl c2))]
  by_cases c3 : x = 115
  · rw [if_neg c1, if_neg c2, if_pos c3, if_pos (Or.inr (Or.inr (Or.inl c3)))]
  by_cases c4 : x = 99
  · rw [if_neg c1, if_neg c2, if_neg c3, if_pos c4, if_pos (Or.inr (Or.inr (Or.inr (Or.inl c4))))]
  by_cases c5 : x = 120
  · rw [if_neg c1, if_neg c2, if_neg c3, if_neg c4, if_pos c5, if_pos (Or.inr (Or.inr (Or.inr (Or.inr (Or.inl c5)))))]
  by_cases c6 : x = 122
  · rw [if_neg c1, if_neg c2, if_neg c3, if_neg c4, if_neg c5, if_pos c6, if_pos (Or.inr (Or.inr (Or.inr (Or.inr (Or.inr c6)))))]
  rw [if_neg c1, if_neg c2, if_neg c3, if_neg c4, if_neg c5, if_neg c6, if_neg (by rintro (h | h | h | h | h | h) <;> contradiction)]
/-- a token at place q, no blank -/
def tkR (f : Nat → Int32) (n q : Nat) : Int32 × Int32 × Int32 × Int32 :=
  if n ≤ q then (nI q, 0, nI q, -1)
  else if isW (ltI f n q) = true then (nI (q + 1), 1, nI q, ltI f n q)
  else if isD (ltI f n q) = true then (nI (dgF f n (n - (q + 1)) (q + 1)), 2, nI q, nI (rvF f n (decide (ltI f n q = 48)) (n - (q + 1)) (q + 1) (dgV f n q)))
  else if ltI f n q = 59 then (nI (q + 1), 3, nI q, ltI f n q)
  else (nI (q + 1), 4, nI q, ltI f n q)
theorem tk_M {f : Nat → Int32} {n p : Nat} (hn : n ≤ 120) (hp : p ≤ n) (hf : ∀ k, k < n → 0 ≤ (f k).toInt) (s1 s2 s3 : Int32) : gX7_token f (nI n) (nI p) s1 s2 s3 = some (tkR f n (skN f n p)) := by
  obtain ⟨h1, h2, h3⟩ := skN_spec f hp
  have hs := sb_M (f := f) hn (s1 := s1) (s2 := s2) (s3 := s3) (n - p) (999 - (n - p)) p (by omega)
  rw [show 999 - (n - p) + (n - p) + 1 = 1000 by omega] at hs
  unfold gX7_token
  rw [hs]
  show gX7_token_L0 f (nI n) s1 s2 s3 (1000 - (skN f n p - p)) (nI (skN f n p)) = _
  generalize skN f n p = q at *
  rw [show 1000 - (q - p) = (999 - (q - p)) + 1 by omega, gX7_token_L0, letM hn (by omega)]
  simp only [wq_b1_e]
  rw [if_neg h3]
  unfold tkR
  by_cases c0 : n ≤ q
  · rw [lt_end c0, if_neg (by decide), if_pos c0, show (0 : Int32) = nI 0 from rfl, nI_add, Nat.add_zero]
  · have e0 : 0 ≤ (ltI f n q).toInt := by unfold ltI; rw [if_pos (by omega)]; exact hf q (by omega)
    rw [if_pos (show (0 : Int32) ≤ ltI f n q by rw [pn_le]; simp only [Int32.reduceToInt]; omega), if_neg c0, isWord_M, wq_b1_e, nI_1]
    by_cases c1 : isW (ltI f n q) = true
    · rw [if_pos c1, if_neg (by decide), if_pos c1]
    · rw [if_neg c1, if_pos rfl, if_neg c1, isDig_M, wq_b1_e]
      by_cases c2 : isD (ltI f n q) = true
      · obtain ⟨e1, e2, e3⟩ := isD_e c2
        have ev : ltI f n q - 48 = nI (dgV f n q) := by
          unfold dgV
          generalize tN (ltI f n q) = x at e1 e2 e3 ⊢
          rw [e1, show (48 : Int32) = nI 48 from rfl, pk_sub (by omega)]
        rw [if_pos c2, if_neg (by decide), if_pos c2, ev, tk_130 hn (z := decide (ltI f n q = 48)) (by rw [decide_eq_true_eq]) (n - (q + 1)) 1000 (q + 1) _ (by omega) (by omega) (by unfold dgV; omega)]
      · rw [if_neg c2, if_pos rfl, if_neg c2]
        by_cases c3 : ltI f n q = 59
        · rw [if_pos c3, if_pos c3]
        · rw [if_neg c3, if_neg c3]
/-- a number from p on: start, end, value, is it good -/
def nuE (f : Nat → Int32) (n p : Nat) : Nat := dgF f n (n - skN f n p) (skN f n p)
def nuV (f : Nat → Int32) (n p : Nat) : Nat := cvF f n (n - skN f n p) (skN f n p) 0
def nuK (f : Nat → Int32) (n p lo hi : Nat) : Bool := okN f n (skN f n p) lo hi (nuE f n p) (nuV f n p)
theorem num_C {f : Nat → Int32} {n p lo hi : Nat} (hn : n ≤ 120) (hp : p ≤ n) (hl : lo ≤ 100) (hh : hi ≤ 100) (fault : Int32) : gX4_readNumber f (nI n) (nI p) fault (nI lo) (nI hi) = some (if nuK f n p lo hi = true then nI (nuV f n p) else -1, nI (nuE f n p), if nuK f n p lo hi = true then fault else nI (skN f n p)) := by
  have h := (skN_spec f hp).2.1
  unfold gX4_readNumber
  rw [skip_C2 hn hp, wq_b1_e]
  exact rn_C hn hl hh fault (n - skN f n p) 1000 (skN f n p) 0 (by omega) (by omega) (Nat.le_refl _) (by omega)
