/-! the pure layer: nursery, numbers -/
def isD (x : Int32) : Bool := decide (48 ≤ x.toInt ∧ x.toInt ≤ 57)
def finC (f : Nat → Int32) (size fault a1 a2 x3 x4 place : Int32) : Option (Int32 × Int32 × Int32) :=
    if (place - x3) ≤ 1 then
    (if (place - x3) < 1 then
    wq_b2 (gX4_failsAt fault x3) (fun _ w6 =>
    some ((-1), place, w6))
    else
    (if x4 < a1 then
    wq_b2 (gX4_failsAt fault x3) (fun _ w12 =>
    some ((-1), place, w12))
    else
    (if x4 ≤ a2 then
    some (x4, place, fault)
    else
    wq_b2 (gX4_failsAt fault x3) (fun _ w17 =>
    some ((-1), place, w17)))))
    else
    wq_b1 (gX4_letterAt f size x3) (fun v20 =>
    if v20 = 48 then
    (if (place - x3) < 1 then
    wq_b2 (gX4_failsAt fault x3) (fun _ w42 =>
    some ((-1), place, w42))
    else
    wq_b2 (gX4_failsAt fault x3) (fun _ w47 =>
    some ((-1), place, w47)))
    else
    (if (place - x3) < 1 then
    wq_b2 (gX4_failsAt fault x3) (fun _ w26 =>
    some ((-1), place, w26))
    else
    (if x4 < a1 then
    wq_b2 (gX4_failsAt fault x3) (fun _ w32 =>
    some ((-1), place, w32))
    else
    (if x4 ≤ a2 then
    some (x4, place, fault)
    else
    wq_b2 (gX4_failsAt fault x3) (fun _ w37 =>
    some ((-1), place, w37))))))
theorem rn_eq (f : Nat → Int32) (size fault a1 a2 x3 x4 place : Int32) (n : Nat) : gX4_readNumber_L12 f size fault a1 a2 x3 (n + 1) x4 place = (if size ≤ place then finC f size fault a1 a2 x3 x4 place else wq_b1 (gX4_letterAt f size place) (fun v50 => if v50 < 48 then finC f size fault a1 a2 x3 x4 place else wq_b1 (gX4_letterAt f size place) (fun v101 => if 57 < v101 then finC f size fault a1 a2 x3 x4 place else wq_b1 (gX4_letterAt f size place) (fun v152 => gX4_readNumber_L12 f size fault a1 a2 x3 n (if (((x4 * 10) + v152) - 48) < 100 then (((x4 * 10) + v152) - 48) else 100) (place + 1))))) := rfl
/-- is it a number in its range: start q, end p, value v -/
def okN (f : Nat → Int32) (n q lo hi p v : Nat) : Bool := decide (q < p ∧ ¬ (q + 2 ≤ p ∧ ltI f n q = 48) ∧ lo ≤ v ∧ v ≤ hi)
theorem fin_C {f : Nat → Int32} {n q lo hi p v : Nat} (hn : n ≤ 120) (hq : q ≤ p) (hp : p ≤ n) (hl : lo ≤ 100) (hh : hi ≤ 100) (hv : v ≤ 100) (fault : Int32) : finC f (nI n) fault (nI lo) (nI hi) (nI q) (nI v) (nI p) = some (if okN f n q lo hi p v = true then nI v else -1, nI p, if okN f n q lo hi p v = true then fault else nI q) := by
  unfold finC gX4_failsAt okN
  rw [pk_sub hq, letC hn (by omega), wq_b1_e]
  have c1 : nI (p - q) ≤ 1 ↔ p ≤ q + 1 := by rw [pn_le, pn_ti (by omega)]; simp only [Int32.reduceToInt]; omega
  have c2 : nI (p - q) < 1 ↔ p = q := by rw [pn_lt, pn_ti (by omega)]; simp only [Int32.reduceToInt]; omega
  have c3 : nI v < nI lo ↔ v < lo := by rw [pn_lt, pn_ti (by omega), pn_ti (by omega)]; omega
  have c4 : nI v ≤ nI hi ↔ v ≤ hi := by rw [pn_le, pn_ti (by omega), pn_ti (by omega)]; omega
  simp only [c1, c2, c3, c4, wq_b2_e, decide_eq_true_eq]
  by_cases d1 : p ≤ q + 1
  · rw [if_pos d1]
    by_cases d2 : p = q
    · rw [if_pos d2, if_neg (by omega), if_neg (by omega)]
    · rw [if_neg d2]
      by_cases d3 : v < lo
      · rw [if_pos d3, if_neg (by omega), if_neg (by omega)]
      · rw [if_neg d3]
        by_cases d4 : v ≤ hi
        · have ok : q < p ∧ ¬ (q + 2 ≤ p ∧ ltI f n q = 48) ∧ lo ≤ v ∧ v ≤ hi := ⟨by omega, fun z => by omega, by omega, d4⟩
          rw [if_pos d4, if_pos ok, if_pos ok]
        · rw [if_neg d4, if_neg (by omega), if_neg (by omega)]
  · rw [if_neg d1]
    have d2 : ¬ p = q := by omega
    by_cases d0 : ltI f n q = 48
    · have nok : ¬ (q < p ∧ ¬ (q + 2 ≤ p ∧ ltI f n q = 48) ∧ lo ≤ v ∧ v ≤ hi) := fun z => z.2.1 ⟨by omega, d0⟩
      rw [if_pos d0, if_neg d2, if_neg nok, if_neg nok]
    · rw [if_neg d0, if_neg d2]
      by_cases d3 : v < lo
      · rw [if_pos d3, if_neg (by omega), if_neg (by omega)]
      · rw [if_neg d3]
        by_cases d4 : v ≤ hi
        · have ok : q < p ∧ ¬ (q + 2 ≤ p ∧ ltI f n q = 48) ∧ lo ≤ v ∧ v ≤ hi := ⟨by omega, fun z => d0 z.2, by omega, d4⟩
          rw [if_pos d4, if_pos ok, if_pos ok]
        · rw [if_neg d4, if_neg (by omega), if_neg (by omega)]
/-- where the digits end -/
def dgF (f : Nat → Int32) (n : Nat) : Nat → Nat → Nat
  | 0, p => p
  | m + 1, p => if isD (ltI f n p) = true then dgF f n m (p + 1) else p
def dgV (f : Nat → Int32) (n p : Nat) : Nat := tN (ltI f n p) - 48
/-- the class's value of digits, at most 100 -/
def cvF (f : Nat → Int32) (n : Nat) : Nat → Nat → Nat → Nat
  | 0, _, v => v
  | m + 1, p, v => if isD (ltI f n p) = true then cvF f n m (p + 1) (min 100 (10 * v + dgV f n p)) else v
theorem dg_le (f : Nat → Int32) (n : Nat) : ∀ m p, p + m = n → p ≤ dgF f n m p ∧ dgF f n m p ≤ n
  | 0, p, h => by rw [dgF]; omega
  | m + 1, p, h => by
    rw [dgF]
    have := dg_le f n m (p + 1) (by omega)
    split <;> omega
theorem cv_le (f : Nat → Int32) (n : Nat) : ∀ m p v, v ≤ 100 → cvF f n m p v ≤ 100
  | 0, p, v, h => h
  | m + 1, p, v, h => by
    rw [cvF]
    split
    · exact cv_le f n m (p + 1) _ (by omega)
    · exact h
theorem isD_e {x : Int32} (h : isD x = true) : x = nI (tN x) ∧ 48 ≤ tN x ∧ tN x ≤ 57 := by
  have h2 := of_decide_eq_true h
  refine ⟨tN_nI (by omega), ?_, ?_⟩ <;> (unfold tN; omega)
theorem acc_C {v x : Nat} {y : Int32} (hv : v ≤ 100) (hy : y = nI x) (h1 : 48 ≤ x) (h2 : x ≤ 57) : (if (nI v * 10 + y) - 48 < 100 then (nI v * 10 + y) - 48 else 100) = nI (min 100 (10 * v + (x - 48))) := by
  subst hy
  have e : (nI v * 10 + nI x) - 48 = nI (10 * v + (x - 48)) := by
    rw [show (10 : Int32) = nI 10 from rfl, show (48 : Int32) = nI 48 from rfl, pk_mul, nI_add, pk_sub (by omega)]
    exact congrArg nI (by omega)
  rw [e]
  by_cases c : 10 * v + (x - 48) < 100
  · rw [if_pos (by rw [pn_lt, pn_ti (by omega)]; simp only [Int32.reduceToInt]; omega)]
    exact congrArg nI (by omega)
  · rw [if_neg (by rw [pn_lt, pn_ti (by omega)]; simp only [Int32.reduceToInt]; omega), show (100 : Int32) = nI 100 from rfl]
    exact congrArg nI (by omega)
theorem rn_C {f : Nat → Int32} {n q lo hi : Nat} (hn : n ≤ 120) (hl : lo ≤ 100) (hh : hi ≤ 100) (fault : Int32) : ∀ m k p v, p + m = n → m < k → q ≤ p → v ≤ 100 → gX4_readNumber_L12 f (nI n) fault (nI lo) (nI hi) (nI q) k (nI v) (nI p) = some (if okN f n q lo hi (dgF f n m p) (cvF f n m p v) = true then nI (cvF f n m p v) else -1, nI (dgF f n m p), if okN f n q lo hi (dgF f n m p) (cvF f n m p v) = true then fault else nI q)
  | m, 0, p, v, _, h, _, _ => absurd h (by omega)
  | 0, k + 1, p, v, h, _, hq, hv => by
    rw [rn_eq, if_pos (by rw [pn_le, pn_ti (by omega), pn_ti (by omega)]; omega), fin_C hn hq (by omega) hl hh hv, dgF, cvF]
  | m + 1, k + 1, p, v, h, hk, hq, hv => by
    rw [rn_eq, if_neg (by rw [pn_le, pn_ti (by omega), pn_ti (by omega)]; omega), letC hn (by omega)]
    simp only [wq_b1_e]
    rw [fin_C hn hq (by omega) hl hh hv, dgF, cvF]
    by_cases c : isD (ltI f n p) = true
    · obtain ⟨e1, e2, e3⟩ := isD_e c
      have c' := of_decide_eq_true c
      have ev := acc_C hv e1 e2 e3
      rw [if_neg (by rw [pn_lt]; simp only [Int32.reduceToInt]; omega), if_neg (by rw [pn_lt]; simp only [Int32.reduceToInt]; omega), if_pos c, if_pos c, ev, nI_1]
      exact rn_C hn hl hh fault m k (p + 1) _ (by omega) (by omega) (by omega) (by omega)
    · rw [if_neg c, if_neg c]
      have c' : ¬ (48 ≤ (ltI f n p).toInt ∧ (ltI f n p).toInt ≤ 57) := fun z => c (decide_eq_true z)
      by_cases d : (ltI f n p).toInt < 48
      · rw [if_pos (show ltI f n p < 48 by rw [pn_lt]; simp only [Int32.reduceToInt]; omega)]
      · rw [if_neg (show ¬ ltI f n p < 48 by rw [pn_lt]; simp only [Int32.reduceToInt]; omega), if_pos (show 57 < ltI f n p by rw [pn_lt]; simp only [Int32.reduceToInt]; omega)]
