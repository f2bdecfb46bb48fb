/-! the pure layer: nursery, the end of an item, the word of an item -/
theorem end_C {f : Nat → Int32} {n p : Nat} (hn : n ≤ 120) (hp : p ≤ n) (fault : Int32) : gX4_readEnd f (nI n) (nI p) fault = some (if ltI f n (skN f n p) = 59 then 1 else 0, if ltI f n (skN f n p) = 59 then nI (skN f n p + 1) else nI (skN f n p), if ltI f n (skN f n p) = 59 then fault else nI (skN f n p)) := by
  have h := (skN_spec f hp).2.1
  unfold gX4_readEnd gX4_failsAt
  rw [skip_C2 hn hp, wq_b1_e, letC hn (by omega), wq_b1_e, wq_b2_e, nI_1]
  by_cases c : ltI f n (skN f n p) = 59
  · rw [if_pos c, if_pos c, if_pos c, if_pos c]
  · rw [if_neg c, if_neg c, if_neg c, if_neg c]
theorem tk_end {f : Nat → Int32} {n p : Nat} (hn : n ≤ 120) (hp : p ≤ n) (hf : ∀ k, k < n → 0 ≤ (f k).toInt) (s1 s2 s3 : Int32) : ∃ aa so va, gX7_token f (nI n) (nI p) s1 s2 s3 = some (aa, so, nI (skN f n p), va) ∧ (so = 3 ↔ ltI f n (skN f n p) = 59) ∧ (so = 3 → aa = nI (skN f n p + 1)) := by
  rw [tk_M hn hp hf]
  unfold tkR
  by_cases c0 : n ≤ skN f n p
  · rw [if_pos c0, lt_end c0]
    exact ⟨_, _, _, rfl, by decide, fun z => absurd z (by decide)⟩
  rw [if_neg c0]
  by_cases c1 : isW (ltI f n (skN f n p)) = true
  · rw [if_pos c1]
    exact ⟨_, _, _, rfl, ⟨fun z => absurd z (by decide), fun z => absurd c1 (by rw [z]; decide)⟩, fun _ => rfl⟩
  rw [if_neg c1]
  by_cases c2 : isD (ltI f n (skN f n p)) = true
  · rw [if_pos c2]
    exact ⟨_, _, _, rfl, ⟨fun z => absurd z (by decide), fun z => absurd c2 (by rw [z]; decide)⟩, fun z => absurd z (by decide)⟩
  rw [if_neg c2]
  by_cases c3 : ltI f n (skN f n p) = 59
  · rw [if_pos c3]
    exact ⟨_, _, _, rfl, ⟨fun _ => c3, fun _ => rfl⟩, fun _ => rfl⟩
  · rw [if_neg c3]
    exact ⟨_, _, _, rfl, ⟨fun z => absurd z (by decide), fun z => absurd z c3⟩, fun z => absurd z (by decide)⟩
/-- the token that begins an item -/
theorem tk_item {f : Nat → Int32} {n p : Nat} (hn : n ≤ 120) (hp : p ≤ n) (hf : ∀ k, k < n → 0 ≤ (f k).toInt) (s1 s2 s3 : Int32) : ∃ aa so va, gX7_token f (nI n) (nI p) s1 s2 s3 = some (aa, so, nI (skN f n p), va) ∧ (so = 0 ↔ n ≤ skN f n p) ∧ (so = 1 ↔ isW (ltI f n (skN f n p)) = true) ∧ (so = 1 → aa = nI (skN f n p + 1) ∧ va = ltI f n (skN f n p) ∧ skN f n p < n) := by
  rw [tk_M hn hp hf]
  unfold tkR
  by_cases c0 : n ≤ skN f n p
  · rw [if_pos c0, lt_end c0]
    exact ⟨_, _, _, rfl, ⟨fun _ => c0, fun _ => rfl⟩, by decide, fun z => absurd z (by decide)⟩
  rw [if_neg c0]
  by_cases c1 : isW (ltI f n (skN f n p)) = true
  · rw [if_pos c1]
    exact ⟨_, _, _, rfl, ⟨fun z => absurd z (by decide), fun z => absurd z c0⟩, ⟨fun _ => c1, fun _ => rfl⟩, fun _ => ⟨rfl, rfl, by omega⟩⟩
  rw [if_neg c1]
  by_cases c2 : isD (ltI f n (skN f n p)) = true
  · rw [if_pos c2]
    exact ⟨_, _, _, rfl, ⟨fun z => absurd z (by decide), fun z => absurd z c0⟩, ⟨fun z => absurd z (by decide), fun z => absurd z c1⟩, fun z => absurd z (by decide)⟩
  rw [if_neg c2]
  by_cases c3 : ltI f n (skN f n p) = 59
  · rw [if_pos c3]
    exact ⟨_, _, _, rfl, ⟨fun z => absurd z (by decide), fun z => absurd z c0⟩, ⟨fun z => absurd z (by decide), fun z => absurd z c1⟩, fun z => absurd z (by decide)⟩
  · rw [if_neg c3]
    exact ⟨_, _, _, rfl, ⟨fun z => absurd z (by decide), fun z => absurd z c0⟩, ⟨fun z => absurd z (by decide), fun z => absurd z c1⟩, fun z => absurd z (by decide)⟩
