/-! the pure layer: nursery, items on the reference's side; goodbyes and settings -/
theorem itM_0 {f : Nat → Int32} {size : Int32} {draft : Nat → Int32} {a so st va : Int32} {w4 : Nat → Int32} {w5 w6 w7 w8 : Int32} (h : gX7_readsItem f size draft a so st va = some (0, w4, w5, w6, w7, w8)) : itM f size draft a so st va = some (0, w4, w5, w6, w7, w8) := by
  unfold itM
  rw [h, wq_b6_e, if_pos rfl]
theorem itM_1 {f : Nat → Int32} {n p : Nat} (hn : n ≤ 120) (hp : p ≤ n) (hf : ∀ k, k < n → 0 ≤ (f k).toInt) {draft : Nat → Int32} {a so st va : Int32} {w4 : Nat → Int32} {w6 w7 w8 : Int32} (h : gX7_readsItem f (nI n) draft a so st va = some (1, w4, nI p, w6, w7, w8)) : (ltI f n (skN f n p) = 59 → ∃ va2, itM f (nI n) draft a so st va = some (1, w4, nI (skN f n p + 1), 3, nI (skN f n p), va2)) ∧ (¬ ltI f n (skN f n p) = 59 → ∃ aa so2 va2, itM f (nI n) draft a so st va = some (0, w4, aa, so2, nI (skN f n p), va2)) := by
  obtain ⟨aa, so2, va2, e, h1, h2⟩ := tk_end hn hp hf w6 w7 w8
  unfold itM
  rw [h, wq_b6_e, if_neg (by decide), e, wq_b4_e]
  constructor
  · intro c
    have c3 := h1.mpr c
    rw [if_pos c3, h2 c3, c3]
    exact ⟨_, rfl⟩
  · intro c
    rw [if_neg (fun z => c (h1.mp z))]
    exact ⟨_, _, _, rfl⟩
theorem uq_at (f : Nat → Int32) (k : Nat) (v : Int32) : upd f k v k = v := by
  unfold upd; rw [if_pos rfl]
theorem uq_no (f : Nat → Int32) {k j : Nat} (v : Int32) (h : j ≠ k) : upd f k v j = f j := by
  unfold upd; rw [if_neg h]
theorem ix18 {k : Nat} (h : k < 1000) : Int32.toNatClampNeg ((18 : Int32) + nI k) = 18 + k := by
  rw [show (18 : Int32) = nI 18 from rfl, nI_add]; exact nI_clamp (by omega)
theorem in18 {k N : Nat} (h : 18 + k < N) (hN : N < 1000) : vp_in ((18 : Int32) + nI k) N := by
  rw [show (18 : Int32) = nI 18 from rfl, nI_add]; exact vp_in_nI h (by omega)
theorem nI_ne {a b : Nat} (ha : a < 1000) (hb : b < 1000) (h : a ≠ b) : ¬ nI a = nI b := by
  intro e
  have e2 := congrArg Int32.toInt e
  rw [pn_ti (by omega), pn_ti (by omega)] at e2
  omega
theorem wm_M {f : Nat → Int32} {n q W : Nat} (hn : n ≤ 120) (hq : q < n) (hf : ∀ k, k < n → 0 ≤ (f k).toInt) (hW : W ≤ 4) {draft : Nat → Int32} (hd : draft 1 = nI W) : (∀ s, wmS f n q W = some s → ∃ d a so va, itM f (nI n) draft (nI (q + 1)) 1 (nI q) 119 = some (0, d, a, so, nI s, va)) ∧ (wmS f n q W = none → ∃ st va, itM f (nI n) draft (nI (q + 1)) 1 (nI q) 119 = some (1, upd (upd draft (18 + W) (nI (nuV f n (q + 1)))) 1 (nI (W + 1)), nI (skN f n (nuE f n (q + 1)) + 1), 3, st, va)) := by
  have he := nuE_le (f := f) (n := n) (p := q + 1) (by omega)
  have hr : ∀ w : Option (Int32 × (Nat → Int32) × Int32 × Int32 × Int32 × Int32), (if (draft 1) = 4 then some (0, draft, nI (q + 1), 1, nI q, 119) else wq_b6 (gX7_number f (nI n) draft (nI (q + 1)) 1 (nI q) 119 (18 + (draft 1)) 0 9) (fun v26 w27 w28 w29 w30 w31 => if v26 = 0 then some (0, w27, w28, w29, w30, w31) else some (1, (upd w27 1 ((w27 1) + 1)), w28, w29, w30, w31))) = w → gX7_readsItem f (nI n) draft (nI (q + 1)) 1 (nI q) 119 = w := by
    intro w h
    rw [← h]; rfl
  unfold wmS
  by_cases c : W = 4
  · subst c
    rw [if_pos rfl]
    have e := itM_0 (hr _ (by rw [hd]; exact if_pos rfl))
    exact ⟨fun s hs => by rw [← Option.some.inj hs]; exact ⟨_, _, _, _, e⟩, fun z => by cases z⟩
  rw [if_neg c]
  have c4 : ¬ draft 1 = 4 := by rw [hd, show (4 : Int32) = nI 4 from rfl]; exact nI_ne (by omega) (by omega) c
  obtain ⟨aa, so, va, en, ek⟩ := num_M (f := f) (n := n) (p := q + 1) (lo := 0) (hi := 9) hn (by omega) hf (by omega) (by omega) (a1 := 18 + nI W) (in18 (by omega) (by omega)) draft 1 (nI q) 119
  rw [show nI 0 = 0 from rfl, show nI 9 = 9 from rfl, ix18 (by omega)] at en
  have er := hr _ rfl
  rw [if_neg c4, hd, en, wq_b6_e] at er
  by_cases d : nuK f n (q + 1) 0 9 = true
  · obtain ⟨ea, ev⟩ := ek d
    rw [if_pos d, if_neg (by decide), ea, ev, uq_no _ _ (by omega), hd, nI_1] at er
    obtain ⟨i1, i2⟩ := itM_1 hn he.2 hf er
    rw [if_pos d]
    by_cases e : ltI f n (skN f n (nuE f n (q + 1))) = 59
    · rw [if_pos e]
      obtain ⟨va2, i3⟩ := i1 e
      exact ⟨fun s hs => (by cases hs), fun _ => ⟨_, _, i3⟩⟩
    · rw [if_neg e]
      obtain ⟨aa2, so2, va2, i3⟩ := i2 e
      exact ⟨fun s hs => by rw [← Option.some.inj hs]; exact ⟨_, _, _, _, i3⟩, fun z => by cases z⟩
  · rw [if_neg d, if_pos rfl] at er
    rw [if_neg d]
    have e := itM_0 er
    exact ⟨fun s hs => by rw [← Option.some.inj hs]; exact ⟨_, _, _, _, e⟩, fun z => by cases z⟩
/-- where a goodbye's item has its fault; none if it is good -/
def gbS (f : Nat → Int32) (n q G : Nat) : Option Nat :=
  if G = 5 then some q
  else if nuK f n (q + 1) 0 40 = true then
    (if nuK f n (nuE f n (q + 1)) 0 3 = true then (if ltI f n (skN f n (nuE f n (nuE f n (q + 1)))) = 59 then none else some (skN f n (nuE f n (nuE f n (q + 1))))) else some (skN f n (nuE f n (q + 1))))
  else some (skN f n (q + 1))
theorem gb_C {f : Nat → Int32} {n q G : Nat} (hn : n ≤ 120) (hq : q < n) (hG : G ≤ 5) (fault : Int32) (tt gg : Nat → Int32) : (∀ s, gbS f n q G = some s → ∃ pl t2 g2 w2, gX4_readGoodbye f (nI n) (nI q) fault tt gg (nI G) = some (0, pl, nI s, t2, g2, w2)) ∧ (gbS f n q G = none → gX4_readGoodbye f (nI n) (nI q) fault tt gg (nI G) = some (1, nI (skN f n (nuE f n (nuE f n (q + 1))) + 1), fault, upd tt G (nI (nuV f n (q + 1))), upd gg G (nI (nuV f n (nuE f n (q + 1)))), nI (G + 1)) ∧ G < 5 ∧ nuK f n (q + 1) 0 40 = true ∧ nuK f n (nuE f n (q + 1)) 0 3 = true) := by
  have he := nuE_le (f := f) (n := n) (p := q + 1) (by omega)
  have he2 := nuE_le (f := f) (n := n) (p := nuE f n (q + 1)) he.2
  unfold gX4_readGoodbye gbS
  rw [nI_1]
  by_cases c : G = 5
  · subst c
    rw [if_pos rfl, if_neg (by decide)]
    exact ⟨fun s hs => by rw [← Option.some.inj hs]; exact ⟨_, _, _, _, rfl⟩, fun z => by cases z⟩
  have w4 : nI G < 5 := by rw [pn_lt, pn_ti (by omega)]; simp only [Int32.reduceToInt]; omega
  rw [if_neg c, if_pos w4]
  have hnum := num_C (f := f) (p := q + 1) (lo := 0) (hi := 40) hn (by omega) (by omega) (by omega) fault
  rw [show nI 0 = 0 from rfl, show nI 40 = 40 from rfl] at hnum
  rw [hnum, wq_b3_e]
  have m1 : ¬ (0 : Int32) ≤ -1 := by decide
  by_cases d : nuK f n (q + 1) 0 40 = true
  · have hv := nuV_ok d
    have v0 : (0 : Int32) ≤ nI (nuV f n (q + 1)) := by rw [pn_le, pn_ti (by omega)]; simp only [Int32.reduceToInt]; omega
    have w0 : ¬ nI G < 0 := by rw [pn_lt, pn_ti (by omega)]; simp only [Int32.reduceToInt]; omega
    have hnum2 := num_C (f := f) (p := nuE f n (q + 1)) (lo := 0) (hi := 3) hn he.2 (by omega) (by omega) fault
    rw [show nI 0 = 0 from rfl, show nI 3 = 3 from rfl] at hnum2
    simp only [if_pos d]
    rw [if_pos v0, hnum2, wq_b3_e]
    by_cases d2 : nuK f n (nuE f n (q + 1)) 0 3 = true
    · have hv2 := nuV_ok d2
      have v02 : (0 : Int32) ≤ nI (nuV f n (nuE f n (q + 1))) := by rw [pn_le, pn_ti (by omega)]; simp only [Int32.reduceToInt]; omega
      unfold gX5_addGoodbye
      simp only [if_pos d2]
      rw [if_pos v02, if_neg w0, if_pos w4, wq_chk_in (vp_in_nI (by omega) (by omega)), wq_b3_e, end_C hn he2.2, wq_b3_e, pn_cl (by omega), nI_1]
      by_cases e : ltI f n (skN f n (nuE f n (nuE f n (q + 1)))) = 59
      · simp only [if_pos e]
        exact ⟨fun s hs => (by cases hs), fun _ => ⟨trivial, by omega, d, d2⟩⟩
      · simp only [if_neg e]
        exact ⟨fun s hs => by rw [← Option.some.inj hs]; exact ⟨_, _, _, _, rfl⟩, fun z => by cases z⟩
    · simp only [if_neg d2, if_neg m1]
      exact ⟨fun s hs => by rw [← Option.some.inj hs]; exact ⟨_, _, _, _, rfl⟩, fun z => by cases z⟩
  · simp only [if_neg d, if_neg m1]
    exact ⟨fun s hs => by rw [← Option.some.inj hs]; exact ⟨_, _, _, _, rfl⟩, fun z => by cases z⟩
theorem gb_M {f : Nat → Int32} {n q G : Nat} (hn : n ≤ 120) (hq : q < n) (hf : ∀ k, k < n → 0 ≤ (f k).toInt) (hG : G ≤ 5) {draft : Nat → Int32} (hd : draft 0 = nI G) : (∀ s, gbS f n q G = some s → ∃ d a so va, itM f (nI n) draft (nI (q + 1)) 1 (nI q) 103 = some (0, d, a, so, nI s, va)) ∧ (gbS f n q G = none → ∃ st va, itM f (nI n) draft (nI (q + 1)) 1 (nI q) 103 = some (1, upd (upd (upd draft (8 + G) (nI (nuV f n (q + 1)))) (13 + G) (nI (nuV f n (nuE f n (q + 1))))) 0 (nI (G + 1)), nI (skN f n (nuE f n (nuE f n (q + 1))) + 1), 3, st, va)) := by
  have he := nuE_le (f := f) (n := n) (p := q + 1) (by omega)
  have he2 := nuE_le (f := f) (n := n) (p := nuE f n (q + 1)) he.2
  have hr : ∀ w : Option (Int32 × (Nat → Int32) × Int32 × Int32 × Int32 × Int32), (if (draft 0) = 5 then some (0, draft, nI (q + 1), 1, nI q, 103) else wq_b6 (gX7_number f (nI n) draft (nI (q + 1)) 1 (nI q) 103 (8 + (draft 0)) 0 40) (fun v64 w65 w66 w67 w68 w69 => if v64 = 0 then some (0, w65, w66, w67, w68, w69) else wq_b6 (gX7_number f (nI n) w65 w66 w67 w68 w69 (13 + (draft 0)) 0 3) (fun v73 w74 w75 w76 w77 w78 => if v73 = 0 then some (0, w74, w75, w76, w77, w78) else some (1, (upd w74 0 ((w74 0) + 1)), w75, w76, w77, w78)))) = w → gX7_readsItem f (nI n) draft (nI (q + 1)) 1 (nI q) 103 = w := by
    intro w h
    rw [← h]; rfl
  unfold gbS
  by_cases c : G = 5
  · subst c
    rw [if_pos rfl]
    have e := itM_0 (hr _ (by rw [hd]; exact if_pos rfl))
    exact ⟨fun s hs => by rw [← Option.some.inj hs]; exact ⟨_, _, _, _, e⟩, fun z => by cases z⟩
  rw [if_neg c]
  have c4 : ¬ draft 0 = 5 := by rw [hd, show (5 : Int32) = nI 5 from rfl]; exact nI_ne (by omega) (by omega) c
  obtain ⟨aa, so, va, en, ek⟩ := num_M (f := f) (n := n) (p := q + 1) (lo := 0) (hi := 40) hn (by omega) hf (by omega) (by omega) (a1 := 8 + nI G) (in8 (by omega) (by omega)) draft 1 (nI q) 103
  rw [show nI 0 = 0 from rfl, show nI 40 = 40 from rfl, ix8 (by omega)] at en
  have er := hr _ rfl
  rw [if_neg c4, hd, en, wq_b6_e] at er
  by_cases d : nuK f n (q + 1) 0 40 = true
  · obtain ⟨ea, ev⟩ := ek d
    obtain ⟨aa2, so2, va2, en2, ek2⟩ := num_M (f := f) (n := n) (p := nuE f n (q + 1)) (lo := 0) (hi := 3) hn he.2 hf (by omega) (by omega) (a1 := 13 + nI G) (in13 (by omega) (by omega)) (upd draft (8 + G) va) so (nI (skN f n (q + 1))) va
    rw [show nI 0 = 0 from rfl, show nI 3 = 3 from rfl, ix13 (by omega)] at en2
    rw [if_pos d, if_neg (by decide), ea, en2, wq_b6_e] at er
    rw [if_pos d]
    by_cases d2 : nuK f n (nuE f n (q + 1)) 0 3 = true
    · obtain ⟨ea2, ev2⟩ := ek2 d2
      rw [if_pos d2, if_neg (by decide), ea2, ev2, ev, uq_no _ _ (by omega), uq_no _ _ (by omega), hd, nI_1] at er
      obtain ⟨i1, i2⟩ := itM_1 hn he2.2 hf er
      rw [if_pos d2]
      by_cases e : ltI f n (skN f n (nuE f n (nuE f n (q + 1)))) = 59
      · rw [if_pos e]
        obtain ⟨va3, i3⟩ := i1 e
        exact ⟨fun s hs => (by cases hs), fun _ => ⟨_, _, i3⟩⟩
      · rw [if_neg e]
        obtain ⟨aa3, so3, va3, i3⟩ := i2 e
        exact ⟨fun s hs => by rw [← Option.some.inj hs]; exact ⟨_, _, _, _, i3⟩, fun z => by cases z⟩
    · rw [if_neg d2, if_pos rfl] at er
      rw [if_neg d2]
      have e := itM_0 er
      exact ⟨fun s hs => by rw [← Option.some.inj hs]; exact ⟨_, _, _, _, e⟩, fun z => by cases z⟩
  · rw [if_neg d, if_pos rfl] at er
    rw [if_neg d]
    have e := itM_0 er
    exact ⟨fun s hs => by rw [← Option.some.inj hs]; exact ⟨_, _, _, _, e⟩, fun z => by cases z⟩
