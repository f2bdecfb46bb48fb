/-! the pure layer: nursery, the two texts are one below the end -/
section CG
variable {f g : Nat → Int32} {n : Nat}
theorem lt_cg (h : ∀ k, k < n → f k = g k) (p : Nat) : ltI f n p = ltI g n p := by
  unfold ltI
  by_cases c : p < n
  · rw [if_pos c, if_pos c, h p c]
  · rw [if_neg c, if_neg c]
theorem skF_cg (h : ∀ k, k < n → f k = g k) : ∀ m p, skF f n m p = skF g n m p
  | 0, p => rfl
  | m + 1, p => by rw [skF, skF, lt_cg h, skF_cg h m (p + 1)]
theorem sk_cg (h : ∀ k, k < n → f k = g k) (p : Nat) : skN f n p = skN g n p := skF_cg h _ _
theorem dg_cg (h : ∀ k, k < n → f k = g k) : ∀ m p, dgF f n m p = dgF g n m p
  | 0, p => rfl
  | m + 1, p => by rw [dgF, dgF, lt_cg h, dg_cg h m (p + 1)]
theorem cv_cg (h : ∀ k, k < n → f k = g k) : ∀ m p v, cvF f n m p v = cvF g n m p v
  | 0, p, v => rfl
  | m + 1, p, v => by
    rw [cvF, cvF, lt_cg h, cv_cg h m (p + 1)]
    unfold dgV
    rw [lt_cg h]
theorem nuE_cg (h : ∀ k, k < n → f k = g k) (p : Nat) : nuE f n p = nuE g n p := by
  unfold nuE; rw [sk_cg h, dg_cg h]
theorem nuV_cg (h : ∀ k, k < n → f k = g k) (p : Nat) : nuV f n p = nuV g n p := by
  unfold nuV; rw [sk_cg h, cv_cg h]
theorem nuK_cg (h : ∀ k, k < n → f k = g k) (p lo hi : Nat) : nuK f n p lo hi = nuK g n p lo hi := by
  unfold nuK okN; rw [sk_cg h, nuE_cg h, nuV_cg h, lt_cg h]
theorem nuE_le {p : Nat} (hp : p ≤ n) : p ≤ nuE f n p ∧ nuE f n p ≤ n := by
  have h1 := skN_spec f hp
  have h2 := dg_le f n (n - skN f n p) (skN f n p) (by omega)
  unfold nuE; omega
theorem nuV_ok {p lo hi : Nat} (h : nuK f n p lo hi = true) : lo ≤ nuV f n p ∧ nuV f n p ≤ hi := (of_decide_eq_true h).2.2
end CG
/-- the drafts while a text is told -/
def RD (d_tears d_gains d_likings d_settings : Nat → Int32) (d_goodbyes d_women x_stold : Int32) (draft : Nat → Int32) : Prop :=
  ∃ G W : Nat, G ≤ 5 ∧ W ≤ 4 ∧ d_goodbyes = nI G ∧ draft 0 = nI G ∧ d_women = nI W ∧ draft 1 = nI W ∧ (∀ i, i < 4 → d_settings i = draft (2 + i)) ∧ (1 ≤ (draft 2).toInt ∧ (draft 2).toInt ≤ 9) ∧ (0 ≤ (draft 3).toInt ∧ (draft 3).toInt ≤ 20) ∧ (21 ≤ (draft 4).toInt ∧ (draft 4).toInt ≤ 60) ∧ (1 ≤ (draft 5).toInt ∧ (draft 5).toInt ≤ 96) ∧ (∀ k, k < G → (d_tears k = draft (8 + k) ∧ 0 ≤ (draft (8 + k)).toInt ∧ (draft (8 + k)).toInt ≤ 40) ∧ d_gains k = draft (13 + k) ∧ 0 ≤ (draft (13 + k)).toInt ∧ (draft (13 + k)).toInt ≤ 3) ∧ (∀ k, k < W → d_likings k = draft (18 + k) ∧ 0 ≤ (draft (18 + k)).toInt ∧ (draft (18 + k)).toInt ≤ 9) ∧ (∀ k, W ≤ k → k < 4 → draft (18 + k) = 0) ∧ ∃ b : Nat, b < 16 ∧ x_stold = nI b ∧ draft 7 = nI b
