/-! the pure layer: numbers -/
theorem pn_of {x : Int32} (h : 0 ≤ x.toInt) : x = nI x.toInt.toNat := by
  rw [fa_eq, nI_toInt (by have := (fb_rng x).2; omega)]; omega
theorem pn_nI {x : Int32} {N : Nat} (h0 : 0 ≤ x.toInt) (h1 : x.toInt < N) : ∃ k : Nat, k < N ∧ x = nI k ∧ x.toInt = k :=
  ⟨x.toInt.toNat, by omega, pn_of h0, by omega⟩
theorem pn_cl {k : Nat} (h : k < 2147483648) : (nI k).toNatClampNeg = k := nI_clamp h
theorem pn_ti {k : Nat} (h : k < 2147483648) : (nI k).toInt = k := nI_toInt h
theorem ix4 {k : Nat} (h : k < 1000) : Int32.toNatClampNeg ((4 : Int32) + nI k) = 4 + k := by
  rw [show (4 : Int32) = nI 4 from rfl, nI_add]; exact nI_clamp (by omega)
theorem ix8 {k : Nat} (h : k < 1000) : Int32.toNatClampNeg ((8 : Int32) + nI k) = 8 + k := by
  rw [show (8 : Int32) = nI 8 from rfl, nI_add]; exact nI_clamp (by omega)
theorem ix13 {k : Nat} (h : k < 1000) : Int32.toNatClampNeg ((13 : Int32) + nI k) = 13 + k := by
  rw [show (13 : Int32) = nI 13 from rfl, nI_add]; exact nI_clamp (by omega)
theorem in4 {k N : Nat} (h : 4 + k < N) (hN : N < 1000) : vp_in ((4 : Int32) + nI k) N := by
  rw [show (4 : Int32) = nI 4 from rfl, nI_add]; exact vp_in_nI h (by omega)
theorem in8 {k N : Nat} (h : 8 + k < N) (hN : N < 1000) : vp_in ((8 : Int32) + nI k) N := by
  rw [show (8 : Int32) = nI 8 from rfl, nI_add]; exact vp_in_nI h (by omega)
theorem in13 {k N : Nat} (h : 13 + k < N) (hN : N < 1000) : vp_in ((13 : Int32) + nI k) N := by
  rw [show (13 : Int32) = nI 13 from rfl, nI_add]; exact vp_in_nI h (by omega)
theorem wq_b1_e {α0 β : Type} {a0 : α0} {f : α0 → Option β} : wq_b1 (some a0) f = f a0 := rfl
theorem wq_b2_e {α0 α1 β : Type} {a0 : α0} {a1 : α1} {f : α0 → α1 → Option β} : wq_b2 (some (a0, a1)) f = f a0 a1 := rfl
theorem wq_b3_e {α0 α1 α2 β : Type} {a0 : α0} {a1 : α1} {a2 : α2} {f : α0 → α1 → α2 → Option β} : wq_b3 (some (a0, a1, a2)) f = f a0 a1 a2 := rfl
theorem wq_b4_e {α0 α1 α2 α3 β : Type} {a0 : α0} {a1 : α1} {a2 : α2} {a3 : α3} {f : α0 → α1 → α2 → α3 → Option β} : wq_b4 (some (a0, a1, a2, a3)) f = f a0 a1 a2 a3 := rfl
theorem wq_b5_e {α0 α1 α2 α3 α4 β : Type} {a0 : α0} {a1 : α1} {a2 : α2} {a3 : α3} {a4 : α4} {f : α0 → α1 → α2 → α3 → α4 → Option β} : wq_b5 (some (a0, a1, a2, a3, a4)) f = f a0 a1 a2 a3 a4 := rfl
theorem wq_b6_e {α0 α1 α2 α3 α4 α5 β : Type} {a0 : α0} {a1 : α1} {a2 : α2} {a3 : α3} {a4 : α4} {a5 : α5} {f : α0 → α1 → α2 → α3 → α4 → α5 → Option β} : wq_b6 (some (a0, a1, a2, a3, a4, a5)) f = f a0 a1 a2 a3 a4 a5 := rfl
theorem pn_lt {a b : Int32} : a < b ↔ a.toInt < b.toInt := Int32.lt_iff_toInt_lt
theorem pn_le {a b : Int32} : a ≤ b ↔ a.toInt ≤ b.toInt := Int32.le_iff_toInt_le
theorem pn_sub1 {x : Int32} (h : 0 ≤ x.toInt) : (x - 1).toInt = x.toInt - 1 := by
  have := fb_rng x
  rw [fb_subI (by show _ ≤ _ - (1 : Int); omega) (by show _ - (1 : Int) < _; omega)]; rfl
/-! relations -/
/-- what a told row of the reference holds -/
def TI (told : Nat → Int32) : Prop := (0 ≤ (told 0).toInt ∧ (told 0).toInt ≤ 5) ∧ (0 ≤ (told 1).toInt ∧ (told 1).toInt ≤ 4) ∧ (1 ≤ (told 2).toInt ∧ (told 2).toInt ≤ 9) ∧ (0 ≤ (told 3).toInt ∧ (told 3).toInt ≤ 20) ∧ (21 ≤ (told 4).toInt ∧ (told 4).toInt ≤ 60) ∧ (1 ≤ (told 5).toInt ∧ (told 5).toInt ≤ 96) ∧ ∀ k : Nat, (k : Int) < (told 0).toInt → (0 ≤ (told (8 + k)).toInt ∧ (told (8 + k)).toInt ≤ 40) ∧ 0 ≤ (told (13 + k)).toInt ∧ (told (13 + k)).toInt ≤ 3
/-- the class's told and the reference's -/
def RT (t_tears t_gains t_settings : Nat → Int32) (t_goodbyes t_women : Int32) (told : Nat → Int32) : Prop := TI told ∧ t_goodbyes = told 0 ∧ t_women = told 1 ∧ (t_settings 0 = told 2 ∧ t_settings 1 = told 3 ∧ t_settings 2 = told 4 ∧ t_settings 3 = told 5) ∧ ∀ k : Nat, (k : Int) < (told 0).toInt → t_tears k = told (8 + k) ∧ t_gains k = told (13 + k)
def NI (s : Nat → Int32) : Prop := (0 ≤ (s 0).toInt ∧ (s 0).toInt ≤ 999) ∧ (0 ≤ (s 1).toInt ∧ (s 1).toInt ≤ 24) ∧ (s 2 = 0 ∨ s 2 = 1) ∧ (0 ≤ (s 3).toInt ∧ (s 3).toInt ≤ 15) ∧ ∀ k : Nat, k < 4 → 0 ≤ (s (4 + k)).toInt ∧ (s (4 + k)).toInt ≤ 9
def RN (n_likings : Nat → Int32) (n_day n_trust n_ill n_done : Int32) (s : Nat → Int32) : Prop := NI s ∧ n_day = s 0 ∧ n_trust = s 1 ∧ n_done = s 2 ∧ n_ill = s 3 ∧ ∀ k : Nat, k < 4 → n_likings k = s (4 + k)
def hasB (n g : Int32) : Int32 := if 0 ≤ g.toInt ∧ g.toInt < n.toInt then 1 else 0
theorem hasB_1 {n g : Int32} (h : ¬ hasB n g = 0) (hn : n.toInt ≤ 5) : ∃ k : Nat, k < 5 ∧ g = nI k ∧ g.toInt = k ∧ (k : Int) < n.toInt := by
  unfold hasB at h
  by_cases c : 0 ≤ g.toInt ∧ g.toInt < n.toInt
  · obtain ⟨k, h1, h2, h3⟩ := pn_nI (N := 5) c.1 (by omega)
    exact ⟨k, h1, h2, h3, by omega⟩
  · rw [if_neg c] at h; exact absurd rfl h
theorem hasG_C {gb g : Int32} (h5 : gb.toInt ≤ 5) : gX5_hasGoodbye gb g = some (hasB gb g) := by
  unfold gX5_hasGoodbye hasB
  simp only [pn_lt, pn_le, Int32.reduceToInt]
  (repeat' split) <;> first | rfl | (exfalso; omega)
theorem hasW_C {gb g : Int32} (h5 : gb.toInt ≤ 4) : gX5_hasWoman gb g = some (hasB gb g) := by
  unfold gX5_hasWoman hasB
  simp only [pn_lt, pn_le, Int32.reduceToInt]
  (repeat' split) <;> first | rfl | (exfalso; omega)
theorem in_M {a b c : Int32} : gX7_in a b c = some (if b.toInt ≤ a.toInt ∧ a.toInt ≤ c.toInt then 1 else 0) := by
  unfold gX7_in
  simp only [pn_lt, pn_le]
  (repeat' split) <;> first | rfl | (exfalso; omega)
theorem hasG_M {told : Nat → Int32} {g : Int32} (h : 0 ≤ (told 0).toInt) : gX7_isGoodbye told g = some (hasB (told 0) g) := by
  unfold gX7_isGoodbye hasB
  rw [in_M, wq_b1_e, pn_sub1 h]
  simp only [Int32.reduceToInt]
  (repeat' split) <;> first | rfl | (exfalso; omega)
theorem hasW_M {told : Nat → Int32} {g : Int32} (h : 0 ≤ (told 1).toInt) : gX7_isWoman told g = some (hasB (told 1) g) := by
  unfold gX7_isWoman hasB
  rw [in_M, wq_b1_e, pn_sub1 h]
  simp only [Int32.reduceToInt]
  (repeat' split) <;> first | rfl | (exfalso; omega)
