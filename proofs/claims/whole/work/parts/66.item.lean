/-! the pure layer: nursery, an item on both sides -/
theorem wq_b10_e {α0 α1 α2 α3 α4 α5 α6 α7 α8 α9 β : Type} {a0 : α0} {a1 : α1} {a2 : α2} {a3 : α3} {a4 : α4} {a5 : α5} {a6 : α6} {a7 : α7} {a8 : α8} {a9 : α9} {f : α0 → α1 → α2 → α3 → α4 → α5 → α6 → α7 → α8 → α9 → Option β} : wq_b10 (some (a0, a1, a2, a3, a4, a5, a6, a7, a8, a9)) f = f a0 a1 a2 a3 a4 a5 a6 a7 a8 a9 := rfl
def RDb (tt gg lk ds : Nat → Int32) (G W b : Nat) (draft : Nat → Int32) : Prop :=
  (G ≤ 5 ∧ W ≤ 4 ∧ b < 16) ∧ draft 0 = nI G ∧ draft 1 = nI W ∧ draft 7 = nI b ∧ (∀ i, i < 4 → ds i = draft (2 + i) ∧ (loS i : Int) ≤ (draft (2 + i)).toInt ∧ (draft (2 + i)).toInt ≤ hiS i) ∧ (∀ k, k < G → tt k = draft (8 + k) ∧ gg k = draft (13 + k) ∧ (0 ≤ (draft (8 + k)).toInt ∧ (draft (8 + k)).toInt ≤ 40) ∧ 0 ≤ (draft (13 + k)).toInt ∧ (draft (13 + k)).toInt ≤ 3) ∧ (∀ k, k < W → lk k = draft (18 + k) ∧ 0 ≤ (draft (18 + k)).toInt ∧ (draft (18 + k)).toInt ≤ 9) ∧ ∀ k, W ≤ k → k < 4 → draft (18 + k) = 0
section IT
variable {tt gg lk ds draft : Nat → Int32} {G W b : Nat}
theorem RDb_w (h : RDb tt gg lk ds G W b draft) (hW : W < 4) {v : Nat} (hv : v ≤ 9) : RDb tt gg (upd lk W (nI v)) ds G (W + 1) b (upd (upd draft (18 + W) (nI v)) 1 (nI (W + 1))) := by
  obtain ⟨⟨hG, -, hb⟩, h0, h1, h7, hs, hg, hl, hz⟩ := h
  refine ⟨⟨hG, by omega, hb⟩, ?_, uq_at _ _ _, ?_, fun i hi => ?_, fun k hk => ?_, fun k hk => ?_, fun k hk hk4 => ?_⟩
  · rw [uq_no _ _ (by omega), uq_no _ _ (by omega), h0]
  · rw [uq_no _ _ (by omega), uq_no _ _ (by omega), h7]
  · rw [uq_no _ _ (by omega), uq_no _ _ (by omega)]; exact hs i hi
  · rw [uq_no _ _ (show 8 + k ≠ 1 by omega), uq_no _ _ (show 8 + k ≠ 18 + W by omega), uq_no _ _ (show 13 + k ≠ 1 by omega), uq_no _ _ (show 13 + k ≠ 18 + W by omega)]; exact hg k hk
  · by_cases c : k = W
    · subst c
      rw [uq_at, uq_no _ _ (show 18 + k ≠ 1 by omega), uq_at, pn_ti (by omega)]
      exact ⟨rfl, by omega, by omega⟩
    · rw [uq_no _ _ c, uq_no _ _ (show 18 + k ≠ 1 by omega), uq_no _ _ (show 18 + k ≠ 18 + W by omega)]
      exact hl k (by omega)
  · rw [uq_no _ _ (show 18 + k ≠ 1 by omega), uq_no _ _ (show 18 + k ≠ 18 + W by omega)]
    exact hz k (by omega) hk4
theorem RDb_g (h : RDb tt gg lk ds G W b draft) (hG5 : G < 5) {v w : Nat} (hv : v ≤ 40) (hw : w ≤ 3) : RDb (upd tt G (nI v)) (upd gg G (nI w)) lk ds (G + 1) W b (upd (upd (upd draft (8 + G) (nI v)) (13 + G) (nI w)) 0 (nI (G + 1))) := by
  obtain ⟨⟨-, hW, hb⟩, h0, h1, h7, hs, hg, hl, hz⟩ := h
  refine ⟨⟨by omega, hW, hb⟩, uq_at _ _ _, ?_, ?_, fun i hi => ?_, fun k hk => ?_, fun k hk => ?_, fun k hk hk4 => ?_⟩
  · rw [uq_no _ _ (by omega), uq_no _ _ (by omega), uq_no _ _ (by omega), h1]
  · rw [uq_no _ _ (by omega), uq_no _ _ (by omega), uq_no _ _ (by omega), h7]
  · rw [uq_no _ _ (by omega), uq_no _ _ (by omega), uq_no _ _ (by omega)]; exact hs i hi
  · by_cases c : k = G
    · subst c
      rw [uq_at, uq_at, uq_no _ _ (show 8 + k ≠ 0 by omega), uq_no _ _ (show 8 + k ≠ 13 + k by omega), uq_at, uq_no _ _ (show 13 + k ≠ 0 by omega), uq_at, pn_ti (by omega), pn_ti (by omega)]
      exact ⟨rfl, rfl, by omega, by omega⟩
    · rw [uq_no _ _ c, uq_no _ _ c, uq_no _ _ (show 8 + k ≠ 0 by omega), uq_no _ _ (show 8 + k ≠ 13 + G by omega), uq_no _ _ (show 8 + k ≠ 8 + G by omega), uq_no _ _ (show 13 + k ≠ 0 by omega), uq_no _ _ (show 13 + k ≠ 13 + G by omega), uq_no _ _ (show 13 + k ≠ 8 + G by omega)]
      exact hg k (by omega)
  · rw [uq_no _ _ (by omega), uq_no _ _ (by omega), uq_no _ _ (by omega)]; exact hl k hk
  · rw [uq_no _ _ (by omega), uq_no _ _ (by omega), uq_no _ _ (by omega)]; exact hz k hk hk4
theorem RDb_s (h : RDb tt gg lk ds G W b draft) {i : Nat} (hi4 : i < 4) {v : Nat} (hv : loS i ≤ v) (hw : v ≤ hiS i) : RDb tt gg lk (upd ds i (nI v)) G W (b ||| 2 ^ i) (upd (upd draft 7 (nI (b ||| 2 ^ i))) (2 + i) (nI v)) := by
  obtain ⟨⟨hG, hW, hb⟩, h0, h1, h7, hs, hg, hl, hz⟩ := h
  have b5 := (bit_4 hb hi4).2.2.2.2
  have l2 := hiS_le i
  refine ⟨⟨hG, hW, b5⟩, ?_, ?_, ?_, fun j hj => ?_, fun k hk => ?_, fun k hk => ?_, fun k hk hk4 => ?_⟩
  · rw [uq_no _ _ (by omega), uq_no _ _ (by omega), h0]
  · rw [uq_no _ _ (by omega), uq_no _ _ (by omega), h1]
  · rw [uq_no _ _ (by omega), uq_at]
  · by_cases c : j = i
    · subst c
      rw [uq_at, uq_at, pn_ti (by omega)]
      exact ⟨rfl, by omega, by omega⟩
    · rw [uq_no _ _ c, uq_no _ _ (show 2 + j ≠ 2 + i by omega), uq_no _ _ (show 2 + j ≠ 7 by omega)]
      exact hs j hj
  · rw [uq_no _ _ (show 8 + k ≠ 2 + i by omega), uq_no _ _ (show 8 + k ≠ 7 by omega), uq_no _ _ (show 13 + k ≠ 2 + i by omega), uq_no _ _ (show 13 + k ≠ 7 by omega)]; exact hg k hk
  · rw [uq_no _ _ (by omega), uq_no _ _ (by omega)]; exact hl k hk
  · rw [uq_no _ _ (by omega), uq_no _ _ (by omega)]; exact hz k hk hk4
end IT
section SL
variable {f : Nat → Int32} {n : Nat}
theorem sk59 {p : Nat} (hp : p ≤ n) (h : ltI f n (skN f n p) = 59) : p ≤ skN f n p ∧ skN f n p + 1 ≤ n := by
  have hs := skN_spec f hp
  refine ⟨hs.1, ?_⟩
  by_cases c : n ≤ skN f n p
  · rw [lt_end c] at h; exact absurd h (by decide)
  · omega
theorem wmS_le {q W s : Nat} (hq : q < n) (h : wmS f n q W = some s) : s ≤ n := by
  have he := nuE_le (f := f) (n := n) (p := q + 1) (by omega)
  have h1 := skN_spec f he.2
  have h2 := skN_spec f (show q + 1 ≤ n by omega)
  unfold wmS at h
  (repeat' split at h) <;> first | (have := Option.some.inj h; omega) | (cases h; done)
theorem wmS_no {q W : Nat} (hq : q < n) (h : wmS f n q W = none) : q < skN f n (nuE f n (q + 1)) + 1 ∧ skN f n (nuE f n (q + 1)) + 1 ≤ n := by
  have he := nuE_le (f := f) (n := n) (p := q + 1) (by omega)
  unfold wmS at h
  split at h
  · cases h
  split at h
  · split at h
    · rename_i c; have := sk59 he.2 c; omega
    · cases h
  · cases h
theorem stS_le {q b i s : Nat} (hq : q < n) (h : stS f n q b i = some s) : s ≤ n := by
  have he := nuE_le (f := f) (n := n) (p := q + 1) (by omega)
  have h1 := skN_spec f he.2
  have h2 := skN_spec f (show q + 1 ≤ n by omega)
  unfold stS at h
  (repeat' split at h) <;> first | (have := Option.some.inj h; omega) | (cases h; done)
theorem stS_no {q b i : Nat} (hq : q < n) (h : stS f n q b i = none) : q < skN f n (nuE f n (q + 1)) + 1 ∧ skN f n (nuE f n (q + 1)) + 1 ≤ n := by
  have he := nuE_le (f := f) (n := n) (p := q + 1) (by omega)
  unfold stS at h
  split at h
  · cases h
  split at h
  · split at h
    · rename_i c; have := sk59 he.2 c; omega
    · cases h
  · cases h
theorem gbS_le {q G s : Nat} (hq : q < n) (h : gbS f n q G = some s) : s ≤ n := by
  have he := nuE_le (f := f) (n := n) (p := q + 1) (by omega)
  have he2 := nuE_le (f := f) (n := n) (p := nuE f n (q + 1)) he.2
  have h1 := skN_spec f he.2
  have h3 := skN_spec f he2.2
  have h2 := skN_spec f (show q + 1 ≤ n by omega)
  unfold gbS at h
  (repeat' split at h) <;> first | (have := Option.some.inj h; omega) | (cases h; done)
theorem gbS_no {q G : Nat} (hq : q < n) (h : gbS f n q G = none) : q < skN f n (nuE f n (nuE f n (q + 1))) + 1 ∧ skN f n (nuE f n (nuE f n (q + 1))) + 1 ≤ n := by
  have he := nuE_le (f := f) (n := n) (p := q + 1) (by omega)
  have he2 := nuE_le (f := f) (n := n) (p := nuE f n (q + 1)) he.2
  unfold gbS at h
  split at h
  · cases h
  split at h
  · split at h
    · split at h
      · rename_i c; have := sk59 he2.2 c; omega
      · cases h
    · cases h
  · cases h
theorem wmS_cg {g : Nat → Int32} (h : ∀ k, k < n → f k = g k) (q W : Nat) : wmS f n q W = wmS g n q W := by
  unfold wmS
  rw [nuK_cg h, nuE_cg h, sk_cg h, lt_cg h, sk_cg h (q + 1)]
theorem gbS_cg {g : Nat → Int32} (h : ∀ k, k < n → f k = g k) (q G : Nat) : gbS f n q G = gbS g n q G := by
  unfold gbS
  simp only [nuK_cg h, nuE_cg h, sk_cg h, lt_cg h]
theorem stS_cg {g : Nat → Int32} (h : ∀ k, k < n → f k = g k) (q b i : Nat) : stS f n q b i = stS g n q b i := by
  unfold stS
  simp only [nuK_cg h, nuE_cg h, sk_cg h, lt_cg h]
end SL
/-- what the two sides make of an item: the same fault, or the same drafts -/
def ITR (f g : Nat → Int32) (n q : Nat) (fault : Int32) (tt gg lk ds : Nat → Int32) (G W b : Nat) (draft : Nat → Int32) (aa so va : Int32) : Prop :=
  (∃ s, s ≤ n ∧ (∃ pl st2 t2 g2 l2 s2 G2 W2, gX4_readItem f (nI n) (nI q) fault (nI b) tt gg lk ds (nI G) (nI W) = some (0, pl, nI s, st2, t2, g2, l2, s2, G2, W2)) ∧ ∃ d a so2 va2, itM g (nI n) draft aa so (nI q) va = some (0, d, a, so2, nI s, va2)) ∨
  (∃ p b2 t2 g2 l2 s2 G2 W2 d st2 va2, (q < p ∧ p ≤ n) ∧ gX4_readItem f (nI n) (nI q) fault (nI b) tt gg lk ds (nI G) (nI W) = some (1, nI p, fault, nI b2, t2, g2, l2, s2, nI G2, nI W2) ∧ itM g (nI n) draft aa so (nI q) va = some (1, d, nI p, 3, st2, va2) ∧ RDb t2 g2 l2 s2 G2 W2 b2 d ∧ d 6 = draft 6)
section IQ
variable {f g : Nat → Int32} {n q : Nat} {tt gg lk ds draft : Nat → Int32} {G W b : Nat}
theorem ri_st {i : Nat} (hi : i < 4) (hn : n ≤ 120) (hq : q < n) (e : ltI f n q = ltS i) (fault : Int32) : gX4_readItem f (nI n) (nI q) fault (nI b) tt gg lk ds (nI G) (nI W) = wq_b5 (gX4_readSetting f (nI n) (nI q) fault (nI b) ds (nI i)) (fun v6 w7 w8 w9 w10 => some (v6, w7, w8, w9, tt, gg, lk, w10, nI G, nI W)) := by
  unfold gX4_readItem
  rw [letC hn (by omega), wq_b1_e, e]
  rcases (show i = 0 ∨ i = 1 ∨ i = 2 ∨ i = 3 by omega) with h | h | h | h <;> (subst h; rfl)
theorem it_st (hn : n ≤ 120) (hq : q < n) (hfg : ∀ k, k < n → f k = g k) (hg : ∀ k, k < n → 0 ≤ (g k).toInt) (hR : RDb tt gg lk ds G W b draft) {i : Nat} (hi : i < 4) (e : ltI f n q = ltS i) (fault : Int32) : ITR f g n q fault tt gg lk ds G W b draft (nI (q + 1)) 1 (ltS i) := by
  have hb := hR.1.2.2
  obtain ⟨c1, c2⟩ := st_C (f := f) (n := n) (q := q) hn hq hb hi fault ds
  obtain ⟨m1, m2⟩ := st_M (f := g) (n := n) (q := q) hn hq hg hb hi hR.2.2.2.1
  unfold ITR
  rw [ri_st hi hn hq e]
  cases hs : stS f n q b i with
  | some s =>
    obtain ⟨pl, st2, ds2, e1⟩ := c1 s hs
    obtain ⟨d, a, so, va, e2⟩ := m1 s (by rw [← stS_cg hfg]; exact hs)
    rw [e1, e2]
    exact Or.inl ⟨s, stS_le hq hs, ⟨_, _, _, _, _, _, _, _, rfl⟩, _, _, _, _, rfl⟩
  | none =>
    obtain ⟨e1, hk⟩ := c2 hs
    obtain ⟨st, va, e2⟩ := m2 (by rw [← stS_cg hfg]; exact hs)
    rw [e1, e2, wq_b5_e, ← nuV_cg hfg, ← nuE_cg hfg, ← sk_cg hfg]
    have hv := nuV_ok hk
    refine Or.inr ⟨_, _, _, _, _, _, _, _, _, _, _, stS_no hq hs, rfl, rfl, RDb_s hR hi hv.1 hv.2, ?_⟩
    rw [uq_no _ _ (by omega), uq_no _ _ (by omega)]
theorem it_wm (hn : n ≤ 120) (hq : q < n) (hfg : ∀ k, k < n → f k = g k) (hg : ∀ k, k < n → 0 ≤ (g k).toInt) (hR : RDb tt gg lk ds G W b draft) (e : ltI f n q = 119) (fault : Int32) : ITR f g n q fault tt gg lk ds G W b draft (nI (q + 1)) 1 119 := by
  have hW := hR.1.2.1
  obtain ⟨c1, c2⟩ := wm_C (f := f) (n := n) (q := q) hn hq hW fault lk
  obtain ⟨m1, m2⟩ := wm_M (f := g) (n := n) (q := q) hn hq hg hW hR.2.2.1
  have er : gX4_readItem f (nI n) (nI q) fault (nI b) tt gg lk ds (nI G) (nI W) = wq_b5 (gX4_readWoman f (nI n) (nI q) fault lk (nI W)) (fun v31 w32 w33 w34 w35 => some (v31, w32, w33, nI b, tt, gg, w34, ds, nI G, w35)) := by
    unfold gX4_readItem
    rw [letC hn (by omega), wq_b1_e, e]
    rfl
  unfold ITR
  rw [er]
  cases hs : wmS f n q W with
  | some s =>
    obtain ⟨pl, lk2, w2, e1⟩ := c1 s hs
    obtain ⟨d, a, so, va, e2⟩ := m1 s (by rw [← wmS_cg hfg]; exact hs)
    rw [e1, e2]
    exact Or.inl ⟨s, wmS_le hq hs, ⟨_, _, _, _, _, _, _, _, rfl⟩, _, _, _, _, rfl⟩
  | none =>
    obtain ⟨e1, hk0, hk⟩ := c2 hs
    obtain ⟨st, va, e2⟩ := m2 (by rw [← wmS_cg hfg]; exact hs)
    rw [e1, e2, wq_b5_e, ← nuV_cg hfg, ← nuE_cg hfg, ← sk_cg hfg]
    have hv := nuV_ok hk
    refine Or.inr ⟨_, _, _, _, _, _, _, _, _, _, _, wmS_no hq hs, rfl, rfl, RDb_w hR hk0 hv.2, ?_⟩
    rw [uq_no _ _ (by omega), uq_no _ _ (by omega)]
theorem it_gb (hn : n ≤ 120) (hq : q < n) (hfg : ∀ k, k < n → f k = g k) (hg : ∀ k, k < n → 0 ≤ (g k).toInt) (hR : RDb tt gg lk ds G W b draft) (e : ltI f n q = 103) (fault : Int32) : ITR f g n q fault tt gg lk ds G W b draft (nI (q + 1)) 1 103 := by
  have hG := hR.1.1
  obtain ⟨c1, c2⟩ := gb_C (f := f) (n := n) (q := q) hn hq hG fault tt gg
  obtain ⟨m1, m2⟩ := gb_M (f := g) (n := n) (q := q) hn hq hg hG hR.2.1
  have er : gX4_readItem f (nI n) (nI q) fault (nI b) tt gg lk ds (nI G) (nI W) = wq_b6 (gX4_readGoodbye f (nI n) (nI q) fault tt gg (nI G)) (fun v14 w15 w16 w17 w18 w19 => some (v14, w15, w16, nI b, w17, w18, lk, ds, w19, nI W)) := by
    unfold gX4_readItem
    rw [letC hn (by omega), wq_b1_e, e]
    rfl
  unfold ITR
  rw [er]
  cases hs : gbS f n q G with
  | some s =>
    obtain ⟨pl, t2, g2, w2, e1⟩ := c1 s hs
    obtain ⟨d, a, so, va, e2⟩ := m1 s (by rw [← gbS_cg hfg]; exact hs)
    rw [e1, e2]
    exact Or.inl ⟨s, gbS_le hq hs, ⟨_, _, _, _, _, _, _, _, rfl⟩, _, _, _, _, rfl⟩
  | none =>
    obtain ⟨e1, hk0, hk, hk2⟩ := c2 hs
    obtain ⟨st, va, e2⟩ := m2 (by rw [← gbS_cg hfg]; exact hs)
    rw [e1, e2, wq_b6_e]
    simp only [← nuV_cg hfg, ← nuE_cg hfg, ← sk_cg hfg]
    have hv := nuV_ok hk
    have hv2 := nuV_ok hk2
    refine Or.inr ⟨_, _, _, _, _, _, _, _, _, _, _, gbS_no hq hs, rfl, rfl, RDb_g hR hk0 hv.2 hv2.2, ?_⟩
    rw [uq_no _ _ (by omega), uq_no _ _ (by omega), uq_no _ _ (by omega)]
theorem it_no (hn : n ≤ 120) (hq : q < n) (hw : ¬ isW (ltI f n q) = true) {aa so va : Int32} (hso : ¬ so = 1) (fault : Int32) : ITR f g n q fault tt gg lk ds G W b draft aa so va := by
  have hw2 : ¬ (ltI f n q = 103 ∨ ltI f n q = 119 ∨ ltI f n q = 115 ∨ ltI f n q = 99 ∨ ltI f n q = 120 ∨ ltI f n q = 122) := fun z => hw (by unfold isW; rw [decide_eq_true_eq]; rcases z with z | z | z | z | z | z <;> (rw [z]; decide))
  refine Or.inl ⟨q, by omega, ⟨nI q, nI b, tt, gg, lk, ds, nI G, nI W, ?_⟩, draft, aa, so, va, itM_0 ?_⟩
  · unfold gX4_readItem
    rw [letC hn (by omega), wq_b1_e, if_neg (fun z => hw2 (by rw [z]; decide)), if_neg (fun z => hw2 (by rw [z]; decide)), if_neg (fun z => hw2 (by rw [z]; decide)), if_neg (fun z => hw2 (by rw [z]; decide)), if_neg (fun z => hw2 (by rw [z]; decide)), if_neg (fun z => hw2 (by rw [z]; decide))]
    rfl
  · unfold gX7_readsItem
    rw [if_neg hso]
theorem it_all (hn : n ≤ 120) (hq : q < n) (hfg : ∀ k, k < n → f k = g k) (hg : ∀ k, k < n → 0 ≤ (g k).toInt) (hR : RDb tt gg lk ds G W b draft) {aa so va : Int32} (h1 : so = 1 ↔ isW (ltI g n q) = true) (h2 : so = 1 → aa = nI (q + 1) ∧ va = ltI g n q) (fault : Int32) : ITR f g n q fault tt gg lk ds G W b draft aa so va := by
  have el := lt_cg hfg q
  by_cases c : isW (ltI f n q) = true
  · have c1 : so = 1 := h1.mpr (by rw [← el]; exact c)
    obtain ⟨ea, ev⟩ := h2 c1
    rw [c1, ea, ev, ← el]
    have c' := c
    unfold isW at c'
    rw [decide_eq_true_eq] at c'
    have c2 : ltI f n q = 103 ∨ ltI f n q = 119 ∨ ltI f n q = ltS 0 ∨ ltI f n q = ltS 1 ∨ ltI f n q = ltS 2 ∨ ltI f n q = ltS 3 := by
      rcases c' with z | z | z | z | z | z <;> (rw [z]; decide)
    rcases c2 with z | z | z | z | z | z
    · rw [z]; exact it_gb hn hq hfg hg hR z fault
    · rw [z]; exact it_wm hn hq hfg hg hR z fault
    · rw [z]; exact it_st hn hq hfg hg hR (by omega) z fault
    · rw [z]; exact it_st hn hq hfg hg hR (by omega) z fault
    · rw [z]; exact it_st hn hq hfg hg hR (by omega) z fault
    · rw [z]; exact it_st hn hq hfg hg hR (by omega) z fault
  · exact it_no hn hq c (fun z => c (by rw [el]; exact h1.mp z)) fault
end IQ
