/-! the pure layer: nursery, an item with its end on the reference's side -/
def itM (f : Nat → Int32) (size : Int32) (draft : Nat → Int32) (a so st va : Int32) : Option (Int32 × (Nat → Int32) × Int32 × Int32 × Int32 × Int32) :=
    wq_b6 (gX7_readsItem f size draft a so st va) (fun v3 w4 w5 w6 w7 w8 =>
    if v3 = 0 then
    some (0, w4, w5, w6, w7, w8)
    else
    wq_b4 (gX7_token f size w5 w6 w7 w8) (fun w12 w13 w14 w15 =>
    if w13 = 3 then
    some (1, w4, w12, w13, w14, w15)
    else
    some (0, w4, w12, w13, w14, w15)))
/-- where a woman's item has its fault; none if it is good -/
def wmS (f : Nat → Int32) (n q W : Nat) : Option Nat :=
  if W = 4 then some q
  else if nuK f n (q + 1) 0 9 = true then (if ltI f n (skN f n (nuE f n (q + 1))) = 59 then none else some (skN f n (nuE f n (q + 1))))
  else some (skN f n (q + 1))
theorem wm_C {f : Nat → Int32} {n q W : Nat} (hn : n ≤ 120) (hq : q < n) (hW : W ≤ 4) (fault : Int32) (lk : Nat → Int32) : (∀ s, wmS f n q W = some s → ∃ pl lk2 w2, gX4_readWoman f (nI n) (nI q) fault lk (nI W) = some (0, pl, nI s, lk2, w2)) ∧ (wmS f n q W = none → gX4_readWoman f (nI n) (nI q) fault lk (nI W) = some (1, nI (skN f n (nuE f n (q + 1)) + 1), fault, upd lk W (nI (nuV f n (q + 1))), nI (W + 1)) ∧ W < 4 ∧ nuK f n (q + 1) 0 9 = true) := by
  have he := nuE_le (f := f) (n := n) (p := q + 1) (by omega)
  unfold gX4_readWoman wmS
  rw [nI_1]
  by_cases c : W = 4
  · subst c
    rw [if_pos rfl, if_neg (by decide)]
    exact ⟨fun s hs => by rw [← Option.some.inj hs]; exact ⟨_, _, _, rfl⟩, fun z => by cases z⟩
  have w4 : nI W < 4 := by rw [pn_lt, pn_ti (by omega)]; simp only [Int32.reduceToInt]; omega
  rw [if_neg c, if_pos w4]
  have hnum := num_C (f := f) (p := q + 1) (lo := 0) (hi := 9) hn (by omega) (by omega) (by omega) fault
  rw [show nI 0 = 0 from rfl, show nI 9 = 9 from rfl] at hnum
  rw [hnum, wq_b3_e]
  by_cases d : nuK f n (q + 1) 0 9 = true
  · have hv := nuV_ok d
    unfold gX5_addWoman
    have v0 : (0 : Int32) ≤ nI (nuV f n (q + 1)) := by rw [pn_le, pn_ti (by omega)]; simp only [Int32.reduceToInt]; omega
    have w0 : ¬ nI W < 0 := by rw [pn_lt, pn_ti (by omega)]; simp only [Int32.reduceToInt]; omega
    simp only [if_pos d]
    rw [if_pos v0, if_neg w0, if_pos w4, wq_chk_in (vp_in_nI (by omega) (by omega)), wq_b2_e, end_C hn he.2, wq_b3_e, pn_cl (by omega), nI_1]
    by_cases e : ltI f n (skN f n (nuE f n (q + 1))) = 59
    · simp only [if_pos e]
      exact ⟨fun s hs => (by cases hs), fun _ => ⟨trivial, by omega, d⟩⟩
    · simp only [if_neg e]
      exact ⟨fun s hs => by rw [← Option.some.inj hs]; exact ⟨_, _, _, rfl⟩, fun z => by cases z⟩
  · have m1 : ¬ (0 : Int32) ≤ -1 := by decide
    simp only [if_neg d, if_neg m1]
    exact ⟨fun s hs => by rw [← Option.some.inj hs]; exact ⟨_, _, _, rfl⟩, fun z => by cases z⟩
