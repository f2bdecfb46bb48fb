/-! the pure layer: nursery, all items -/
theorem L60_0 {g : Nat → Int32} {size : Int32} {k : Nat} {draft : Nat → Int32} {a so st va : Int32} {d : Nat → Int32} {a2 so2 st2 va2 : Int32} (h0 : ¬ so = 0) (h : itM g size draft a so st va = some (0, d, a2, so2, st2, va2)) : gX7_reads_L60 g size (k + 1) draft a so st va = some (0, d, a2, so2, st2, va2) := by
  unfold itM at h
  rw [gX7_reads_L60, if_neg h0]
  cases e : gX7_readsItem g size draft a so st va with
  | none => rw [e] at h; exact absurd (show (none : Option (Int32 × (Nat → Int32) × Int32 × Int32 × Int32 × Int32)) = some _ from h) (by intro z; cases z)
  | some x =>
    obtain ⟨v3, w4, w5, w6, w7, w8⟩ := x
    rw [e, wq_b6_e] at h
    rw [wq_b6_e]
    by_cases c : v3 = 0
    · rw [if_pos c] at h ⊢; exact h
    rw [if_neg c] at h ⊢
    cases e2 : gX7_token g size w5 w6 w7 w8 with
    | none => rw [e2] at h; exact absurd (show (none : Option (Int32 × (Nat → Int32) × Int32 × Int32 × Int32 × Int32)) = some _ from h) (by intro z; cases z)
    | some y =>
      obtain ⟨u1, u2, u3, u4⟩ := y
      rw [e2, wq_b4_e] at h
      rw [wq_b4_e]
      by_cases c3 : u2 = 3
      · rw [if_pos c3] at h
        have := congrArg (fun o : Option (Int32 × (Nat → Int32) × Int32 × Int32 × Int32 × Int32) => o.map Prod.fst) h
        exact absurd (Option.some.inj this) (show ¬ (1 : Int32) = 0 by decide)
      · rw [if_neg c3] at h ⊢; exact h
theorem L60_1 {g : Nat → Int32} {size : Int32} {k : Nat} {draft : Nat → Int32} {a so st va : Int32} {d : Nat → Int32} {a2 so2 st2 va2 : Int32} (h0 : ¬ so = 0) (h : itM g size draft a so st va = some (1, d, a2, so2, st2, va2)) : gX7_reads_L60 g size (k + 1) draft a so st va = wq_b4 (gX7_token g size a2 so2 st2 va2) (fun w18 w19 w20 w21 => gX7_reads_L60 g size k (upd d 6 ((d 6) + 1)) w18 w19 w20 w21) := by
  unfold itM at h
  rw [gX7_reads_L60, if_neg h0]
  cases e : gX7_readsItem g size draft a so st va with
  | none => rw [e] at h; exact absurd (show (none : Option (Int32 × (Nat → Int32) × Int32 × Int32 × Int32 × Int32)) = some _ from h) (by intro z; cases z)
  | some x =>
    obtain ⟨v3, w4, w5, w6, w7, w8⟩ := x
    rw [e, wq_b6_e] at h
    rw [wq_b6_e]
    by_cases c : v3 = 0
    · rw [if_pos c] at h
      have := congrArg (fun o : Option (Int32 × (Nat → Int32) × Int32 × Int32 × Int32 × Int32) => o.map Prod.fst) h
      exact absurd (Option.some.inj this) (show ¬ (0 : Int32) = 1 by decide)
    rw [if_neg c] at h ⊢
    cases e2 : gX7_token g size w5 w6 w7 w8 with
    | none => rw [e2] at h; exact absurd (show (none : Option (Int32 × (Nat → Int32) × Int32 × Int32 × Int32 × Int32)) = some _ from h) (by intro z; cases z)
    | some y =>
      obtain ⟨u1, u2, u3, u4⟩ := y
      rw [e2, wq_b4_e] at h
      rw [wq_b4_e]
      by_cases c3 : u2 = 3
      · rw [if_pos c3] at h ⊢
        injection h with h
        injection h with _ h
        injection h with e1 h
        injection h with e2 h
        injection h with e3 h
        injection h with e4 e5
        rw [e1, e2, e3, e4, e5]
      · rw [if_neg c3] at h
        have := congrArg (fun o : Option (Int32 × (Nat → Int32) × Int32 × Int32 × Int32 × Int32) => o.map Prod.fst) h
        exact absurd (Option.some.inj this) (show ¬ (0 : Int32) = 1 by decide)
/-- what the two sides make of the text: the same fault, or the same drafts -/
def TLR (n : Nat) (c : Option (Int32 × Int32 × Int32 × Int32 × (Nat → Int32) × (Nat → Int32) × (Nat → Int32) × (Nat → Int32) × Int32 × Int32)) (m : Option (Int32 × (Nat → Int32) × Int32 × Int32 × Int32 × Int32)) : Prop :=
  (∃ s, s ≤ n ∧ (∃ pl ft st2 t2 g2 l2 s2 G2 W2, c = some (-10 - nI s, pl, ft, st2, t2, g2, l2, s2, G2, W2)) ∧ ∃ d a so2 va2, m = some (0, d, a, so2, nI s, va2)) ∨
  (∃ j pl ft b2 t2 g2 l2 s2 G2 W2 d a so2 st2 va2, j ≤ n ∧ c = some (nI j, pl, ft, nI b2, t2, g2, l2, s2, nI G2, nI W2) ∧ m = some (1, d, a, so2, st2, va2) ∧ RDb t2 g2 l2 s2 G2 W2 b2 d ∧ d 6 = nI j)
theorem tell_L {f g : Nat → Int32} {n : Nat} (hn : n ≤ 120) (hfg : ∀ k, k < n → f k = g k) (hg : ∀ k, k < n → 0 ≤ (g k).toInt) : ∀ (B p i k1 k2 : Nat) (tt gg lk ds draft : Nat → Int32) (G W b : Nat) (fault s1 s2 s3 : Int32), n - p ≤ B → p ≤ n → B < k1 → B < k2 → i ≤ p → RDb tt gg lk ds G W b draft → draft 6 = nI i → TLR n (gX4_tell_L18 f (nI n) k1 (nI i) (nI i) (nI p) fault (nI b) tt gg lk ds (nI G) (nI W)) (wq_b4 (gX7_token g (nI n) (nI p) s1 s2 s3) (fun w18 w19 w20 w21 => gX7_reads_L60 g (nI n) k2 draft w18 w19 w20 w21)) := by
  intro B
  induction B with
  | zero =>
    intro p i k1 k2 tt gg lk ds draft G W b fault s1 s2 s3 hB hp h1 h2 hi hR h6
    obtain ⟨k1, rfl⟩ : ∃ k, k1 = k + 1 := ⟨k1 - 1, by omega⟩
    obtain ⟨k2, rfl⟩ : ∃ k, k2 = k + 1 := ⟨k2 - 1, by omega⟩
    have hs := skN_spec f hp
    have hs2 := skN_spec g hp
    obtain ⟨aa, so, va, et, t0, t1, t2⟩ := tk_item hn hp hg s1 s2 s3
    rw [gX4_tell_L18, if_neg (by rw [pn_lt, pn_ti (by omega)]; simp only [Int32.reduceToInt]; omega), skip_C2 hn hp, wq_b1_e, if_neg (by rw [pn_lt, pn_ti (by omega), pn_ti (by omega)]; omega), et, wq_b4_e, gX7_reads_L60, if_pos (t0.mpr (by omega))]
    exact Or.inr ⟨i, _, _, b, _, _, _, _, G, W, _, _, _, _, _, by omega, rfl, rfl, hR, h6⟩
  | succ B ih =>
    intro p i k1 k2 tt gg lk ds draft G W b fault s1 s2 s3 hB hp h1 h2 hi hR h6
    obtain ⟨k1, rfl⟩ : ∃ k, k1 = k + 1 := ⟨k1 - 1, by omega⟩
    obtain ⟨k2, rfl⟩ : ∃ k, k2 = k + 1 := ⟨k2 - 1, by omega⟩
    have hs := skN_spec f hp
    have ek := sk_cg hfg p
    obtain ⟨aa, so, va, et, t0, t1, t2⟩ := tk_item hn hp hg s1 s2 s3
    rw [← ek] at et t0 t1 t2
    rw [gX4_tell_L18, if_neg (by rw [pn_lt, pn_ti (by omega)]; simp only [Int32.reduceToInt]; omega), skip_C2 hn hp, wq_b1_e, et, wq_b4_e]
    by_cases c : n ≤ skN f n p
    · rw [if_neg (by rw [pn_lt, pn_ti (by omega), pn_ti (by omega)]; omega), gX7_reads_L60, if_pos (t0.mpr c)]
      exact Or.inr ⟨i, _, _, b, _, _, _, _, G, W, _, _, _, _, _, by omega, rfl, rfl, hR, h6⟩
    · rw [if_pos (by rw [pn_lt, pn_ti (by omega), pn_ti (by omega)]; omega)]
      have so0 : ¬ so = 0 := fun z => c (t0.mp z)
      rcases it_all hn (show skN f n p < n by omega) hfg hg hR t1 (fun z => ⟨(t2 z).1, (t2 z).2.1⟩) fault with ⟨s, hsn, ⟨pl, st2, u2, g2, l2, z2, G2, W2, e1⟩, d, a, so2, va2, e2⟩ | ⟨p2, b2, u2, g2, l2, z2, G2, W2, d, st2, va2, hp2, e1, e2, hR2, hd6⟩
      · rw [e1, wq_b10_e, if_pos rfl, L60_0 so0 e2]
        exact Or.inl ⟨s, hsn, ⟨_, _, _, _, _, _, _, _, _, rfl⟩, _, _, _, _, rfl⟩
      · rw [e1, wq_b10_e, if_neg (by decide), L60_1 so0 e2, nI_1]
        refine ih p2 (i + 1) k1 k2 u2 g2 l2 z2 (upd d 6 (d 6 + 1)) G2 W2 b2 fault 3 st2 va2 (by omega) hp2.2 (by omega) (by omega) (by omega) ?_ ?_
        · obtain ⟨q1, q2, q3, q4, q5, q6, q7, q8⟩ := hR2
          refine ⟨q1, ?_, ?_, ?_, fun i hi => ?_, fun k hk => ?_, fun k hk => ?_, fun k hk hk4 => ?_⟩
          · rw [uq_no _ _ (by omega)]; exact q2
          · rw [uq_no _ _ (by omega)]; exact q3
          · rw [uq_no _ _ (by omega)]; exact q4
          · rw [uq_no _ _ (by omega)]; exact q5 i hi
          · rw [uq_no _ _ (show 8 + k ≠ 6 by omega), uq_no _ _ (show 13 + k ≠ 6 by omega)]; exact q6 k hk
          · rw [uq_no _ _ (by omega)]; exact q7 k hk
          · rw [uq_no _ _ (by omega)]; exact q8 k hk hk4
        · rw [uq_at, hd6, h6, nI_1]
