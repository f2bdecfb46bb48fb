/-! the pure layer: nursery, settings -/
def loS (i : Nat) : Nat := if i = 0 then 1 else if i = 1 then 0 else if i = 2 then 21 else 1
def hiS (i : Nat) : Nat := if i = 0 then 9 else if i = 1 then 20 else if i = 2 then 60 else 96
theorem loS_le (i : Nat) : loS i ≤ 21 := by unfold loS; (repeat' split) <;> omega
theorem hiS_le (i : Nat) : hiS i ≤ 96 := by unfold hiS; (repeat' split) <;> omega
theorem least_e {i : Nat} (h : i < 4) : wq_least i = nI (loS i) := by
  rcases (show i = 0 ∨ i = 1 ∨ i = 2 ∨ i = 3 by omega) with h | h | h | h <;> (subst h; rfl)
theorem most_e {i : Nat} (h : i < 4) : wq_most i = nI (hiS i) := by
  rcases (show i = 0 ∨ i = 1 ∨ i = 2 ∨ i = 3 by omega) with h | h | h | h <;> (subst h; rfl)
theorem bit_all : ∀ b : Fin 16, ∀ i : Fin 4, (decide ((nI b.val >>> (nI i.val &&& 31)) &&& 1 = 1) = b.val.testBit i.val) ∧ (decide (nI b.val &&& nI (2 ^ i.val) = 0) = !(b.val.testBit i.val)) ∧ nI b.val ||| ((1 : Int32) <<< (nI i.val &&& 31)) = nI (b.val ||| 2 ^ i.val) ∧ nI b.val ||| nI (2 ^ i.val) = nI (b.val ||| 2 ^ i.val) ∧ b.val ||| 2 ^ i.val < 16 := by decide +kernel
theorem bit_4 {b i : Nat} (hb : b < 16) (hi : i < 4) : ((nI b >>> (nI i &&& 31)) &&& 1 = 1 ↔ b.testBit i = true) ∧ (nI b &&& nI (2 ^ i) = 0 ↔ b.testBit i = false) ∧ nI b ||| ((1 : Int32) <<< (nI i &&& 31)) = nI (b ||| 2 ^ i) ∧ nI b ||| nI (2 ^ i) = nI (b ||| 2 ^ i) ∧ b ||| 2 ^ i < 16 := by
  obtain ⟨h1, h2, h3, h4, h5⟩ := bit_all ⟨b, hb⟩ ⟨i, hi⟩
  refine ⟨?_, ?_, h3, h4, h5⟩
  · have := h1
    rw [← this, decide_eq_true_eq]
  · have e : (nI b &&& nI (2 ^ i) = 0) ↔ decide (nI b &&& nI (2 ^ i) = 0) = true := by rw [decide_eq_true_eq]
    rw [e, h2]
    cases b.testBit i <;> decide
/-- where a setting's item has its fault; none if it is good -/
def stS (f : Nat → Int32) (n q b i : Nat) : Option Nat :=
  if b.testBit i = true then some q
  else if nuK f n (q + 1) (loS i) (hiS i) = true then (if ltI f n (skN f n (nuE f n (q + 1))) = 59 then none else some (skN f n (nuE f n (q + 1))))
  else some (skN f n (q + 1))
theorem st_C {f : Nat → Int32} {n q b i : Nat} (hn : n ≤ 120) (hq : q < n) (hb : b < 16) (hi : i < 4) (fault : Int32) (ds : Nat → Int32) : (∀ s, stS f n q b i = some s → ∃ pl st2 ds2, gX4_readSetting f (nI n) (nI q) fault (nI b) ds (nI i) = some (0, pl, nI s, st2, ds2)) ∧ (stS f n q b i = none → gX4_readSetting f (nI n) (nI q) fault (nI b) ds (nI i) = some (1, nI (skN f n (nuE f n (q + 1)) + 1), fault, nI (b ||| 2 ^ i), upd ds i (nI (nuV f n (q + 1)))) ∧ nuK f n (q + 1) (loS i) (hiS i) = true) := by
  have he := nuE_le (f := f) (n := n) (p := q + 1) (by omega)
  obtain ⟨b1, b2, b3, b4, b5⟩ := bit_4 hb hi
  have i0 : ¬ nI i < 0 := by rw [pn_lt, pn_ti (by omega)]; simp only [Int32.reduceToInt]; omega
  have i4 : ¬ 4 ≤ nI i := by rw [pn_le, pn_ti (by omega)]; simp only [Int32.reduceToInt]; omega
  unfold gX4_readSetting stS
  rw [nI_1, if_neg i0, if_neg i4]
  by_cases c : b.testBit i = true
  · rw [if_pos c, if_pos (b1.mpr c)]
    exact ⟨fun s hs => by rw [← Option.some.inj hs]; exact ⟨_, _, _, rfl⟩, fun z => by cases z⟩
  rw [if_neg c, if_neg (fun z => c (b1.mp z)), wq_chk_in (vp_in_nI (by omega) (by omega)), pn_cl (by omega), least_e hi, most_e hi]
  have l1 := loS_le i
  have l2 := hiS_le i
  have hnum := num_C (f := f) (p := q + 1) (lo := loS i) (hi := hiS i) hn (by omega) (by omega) (by omega) fault
  rw [hnum, wq_b3_e]
  by_cases d : nuK f n (q + 1) (loS i) (hiS i) = true
  · have hv := nuV_ok d
    have v0 : (0 : Int32) ≤ nI (nuV f n (q + 1)) := by rw [pn_le, pn_ti (by omega)]; simp only [Int32.reduceToInt]; omega
    unfold gX5_setSetting
    simp only [if_pos d]
    rw [if_pos v0, if_neg i0, if_neg i4, wq_chk_in (vp_in_nI (by omega) (by omega)), wq_b1_e, end_C hn he.2, wq_b3_e, pn_cl (by omega), b3]
    by_cases e : ltI f n (skN f n (nuE f n (q + 1))) = 59
    · simp only [if_pos e]
      exact ⟨fun s hs => (by cases hs), fun _ => ⟨trivial, d⟩⟩
    · simp only [if_neg e]
      exact ⟨fun s hs => by rw [← Option.some.inj hs]; exact ⟨_, _, _, rfl⟩, fun z => by cases z⟩
  · have m1 : ¬ (0 : Int32) ≤ -1 := by decide
    simp only [if_neg d, if_neg m1]
    exact ⟨fun s hs => by rw [← Option.some.inj hs]; exact ⟨_, _, _, rfl⟩, fun z => by cases z⟩
/-- the letter of a setting -/
def ltS (i : Nat) : Int32 := if i = 0 then 115 else if i = 1 then 99 else if i = 2 then 120 else 122
theorem rs_st {f : Nat → Int32} {n q i : Nat} (hi : i < 4) (draft : Nat → Int32) : gX7_readsItem f (nI n) draft (nI (q + 1)) 1 (nI q) (ltS i) = wq_b6 (gX7_once f (nI n) draft (nI (q + 1)) 1 (nI q) (ltS i) (nI (2 ^ i)) (nI (2 + i)) (nI (loS i)) (nI (hiS i))) (fun v6 w7 w8 w9 w10 w11 => some (v6, w7, w8, w9, w10, w11)) := by
  rcases (show i = 0 ∨ i = 1 ∨ i = 2 ∨ i = 3 by omega) with h | h | h | h <;> (subst h; rfl)
theorem st_M {f : Nat → Int32} {n q b i : Nat} (hn : n ≤ 120) (hq : q < n) (hf : ∀ k, k < n → 0 ≤ (f k).toInt) (hb : b < 16) (hi : i < 4) {draft : Nat → Int32} (hd : draft 7 = nI b) : (∀ s, stS f n q b i = some s → ∃ d a so va, itM f (nI n) draft (nI (q + 1)) 1 (nI q) (ltS i) = some (0, d, a, so, nI s, va)) ∧ (stS f n q b i = none → ∃ st va, itM f (nI n) draft (nI (q + 1)) 1 (nI q) (ltS i) = some (1, upd (upd draft 7 (nI (b ||| 2 ^ i))) (2 + i) (nI (nuV f n (q + 1))), nI (skN f n (nuE f n (q + 1)) + 1), 3, st, va)) := by
  have he := nuE_le (f := f) (n := n) (p := q + 1) (by omega)
  obtain ⟨b1, b2, b3, b4, b5⟩ := bit_4 hb hi
  have er := rs_st (f := f) (n := n) (q := q) hi draft
  unfold gX7_once at er
  rw [hd, b4] at er
  unfold stS
  by_cases c : b.testBit i = true
  · rw [if_pos c]
    rw [if_neg (fun z => by rw [b2.mp z] at c; exact absurd c (by decide)), wq_b6_e] at er
    have e := itM_0 er
    exact ⟨fun s hs => by rw [← Option.some.inj hs]; exact ⟨_, _, _, _, e⟩, fun z => by cases z⟩
  rw [if_neg c]
  have l1 := loS_le i
  have l2 := hiS_le i
  obtain ⟨aa, so, va, en, ek⟩ := num_M (f := f) (n := n) (p := q + 1) (lo := loS i) (hi := hiS i) hn (by omega) hf (by omega) (by omega) (a1 := nI (2 + i)) (vp_in_nI (by omega) (by omega)) (upd draft 7 (nI (b ||| 2 ^ i))) 1 (nI q) (ltS i)
  rw [pn_cl (by omega)] at en
  rw [if_pos (b2.mpr (by cases h : b.testBit i with | true => exact absurd h c | false => rfl)), en, wq_b6_e, wq_b6_e] at er
  by_cases d : nuK f n (q + 1) (loS i) (hiS i) = true
  · obtain ⟨ea, ev⟩ := ek d
    rw [if_pos d, ea, ev] at er
    obtain ⟨i1, i2⟩ := itM_1 hn he.2 hf er
    rw [if_pos d]
    by_cases e : ltI f n (skN f n (nuE f n (q + 1))) = 59
    · rw [if_pos e]
      obtain ⟨va2, i3⟩ := i1 e
      exact ⟨fun s hs => (by cases hs), fun _ => ⟨_, _, i3⟩⟩
    · rw [if_neg e]
      obtain ⟨aa2, so2, va2, i3⟩ := i2 e
      exact ⟨fun s hs => by rw [← Option.some.inj hs]; exact ⟨_, _, _, _, i3⟩, fun z => by cases z⟩
  · rw [if_neg d] at er
    rw [if_neg d]
    have e := itM_0 er
    exact ⟨fun s hs => by rw [← Option.some.inj hs]; exact ⟨_, _, _, _, e⟩, fun z => by cases z⟩
