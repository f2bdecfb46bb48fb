/-! the pure layer: plans, as numbers alone -/
def anyG (p : Nat → Bool) : Nat → Bool
  | 0 => false
  | n + 1 => anyG p n || p n
theorem anyG_iff (p : Nat → Bool) : ∀ n, anyG p n = true ↔ ∃ g, g < n ∧ p g = true
  | 0 => ⟨(fun h => Bool.noConfusion h), (fun ⟨_, h, _⟩ => absurd h (Nat.not_lt_zero _))⟩
  | n + 1 => by
    rw [anyG, Bool.or_eq_true, anyG_iff p n]
    constructor
    · rintro (⟨g, h1, h2⟩ | h)
      · exact ⟨g, by omega, h2⟩
      · exact ⟨n, by omega, h⟩
    · rintro ⟨g, h1, h2⟩
      by_cases e : g = n
      · subst e; exact Or.inr h2
      · exact Or.inl ⟨g, by omega, h2⟩
def nxT (gn : Nat → Nat) (g t : Nat) : Nat := min 24 (t + gn g)
def nxL (l : Nat) : Nat := min 9 (l + 1)
/-- a plan of at most n mornings, calm ones alone -/
def dn (R : Nat → Nat → Nat → Nat) (gn : Nat → Nat) (G goal : Nat) : Nat → Nat → Nat → Bool
  | 0, _, _ => false
  | n + 1, t, l => anyG (fun g => decide (goal ≤ R g t l) || (decide (1 ≤ R g t l) && dn R gn G goal n (nxT gn g t) (nxL l))) G
section PL
variable {R : Nat → Nat → Nat → Nat} {gn : Nat → Nat} {G goal : Nat}
theorem dn_s {n t l : Nat} : dn R gn G goal (n + 1) t l = true ↔ ∃ g, g < G ∧ (goal ≤ R g t l ∨ (1 ≤ R g t l ∧ dn R gn G goal n (nxT gn g t) (nxL l) = true)) := by
  rw [dn, anyG_iff]
  simp only [Bool.or_eq_true, Bool.and_eq_true, decide_eq_true_eq]
theorem dn_up : ∀ (n t l : Nat), dn R gn G goal n t l = true → dn R gn G goal (n + 1) t l = true
  | 0, t, l, h => by cases h
  | n + 1, t, l, h => by
    obtain ⟨g, h1, h2⟩ := dn_s.mp h
    refine dn_s.mpr ⟨g, h1, ?_⟩
    rcases h2 with h2 | ⟨h2, h3⟩
    · exact Or.inl h2
    · exact Or.inr ⟨h2, dn_up n _ _ h3⟩
theorem dn_le {m t l : Nat} : ∀ {n : Nat}, m ≤ n → dn R gn G goal m t l = true → dn R gn G goal n t l = true
  | 0, h, z => by have e : m = 0 := by omega
                  subst e; exact z
  | n + 1, h, z => by
    by_cases e : m = n + 1
    · subst e; exact z
    · exact dn_up n t l (dn_le (by omega) z)
theorem dn_mono (hR : ∀ g t l t' l', t ≤ t' → t' ≤ 24 → l ≤ l' → l' ≤ 9 → g < G → R g t l ≤ R g t' l') : ∀ (n t l t' l' : Nat), t ≤ t' → t' ≤ 24 → l ≤ l' → l' ≤ 9 → dn R gn G goal n t l = true → dn R gn G goal n t' l' = true
  | 0, t, l, t', l', _, _, _, _, h => by cases h
  | n + 1, t, l, t', l', h1, h2, h3, h4, h => by
    obtain ⟨g, hg, hh⟩ := dn_s.mp h
    have hm := hR g t l t' l' h1 h2 h3 h4 hg
    refine dn_s.mpr ⟨g, hg, ?_⟩
    rcases hh with hh | ⟨hh, hn⟩
    · exact Or.inl (by omega)
    · exact Or.inr ⟨by omega, dn_mono hR n _ _ _ _ (by unfold nxT; omega) (by unfold nxT; omega) (by unfold nxL; omega) (by unfold nxL; omega) hn⟩
theorem dn_bd : ∀ (n t l : Nat), t ≤ 24 → l ≤ 9 → dn R gn G goal n t l = true → dn R gn G goal (34 - t - l) t l = true
  | 0, t, l, _, _, h => by cases h
  | n + 1, t, l, ht, hl, h => by
    obtain ⟨g, hg, hh⟩ := dn_s.mp h
    rcases hh with hh | ⟨hh, hn⟩
    · exact dn_le (m := 1) (by omega) (dn_s.mpr ⟨g, hg, Or.inl hh⟩)
    · by_cases e : nxT gn g t = t ∧ nxL l = l
      · rw [e.1, e.2] at hn; exact dn_bd n t l ht hl hn
      · have ht2 : nxT gn g t ≤ 24 := by unfold nxT; omega
        have hl2 : nxL l ≤ 9 := by unfold nxL; omega
        have h2 := dn_bd n _ _ ht2 hl2 hn
        have hle : 34 - nxT gn g t - nxL l ≤ 33 - t - l := by
          have a1 : t ≤ nxT gn g t := by unfold nxT; omega
          have a2 : l ≤ nxL l := by unfold nxL; omega
          omega
        have h3 := dn_le hle h2
        rw [show 34 - t - l = (33 - t - l) + 1 by
          have a1 : t ≤ nxT gn g t := by unfold nxT; omega
          have a2 : l ≤ nxL l := by unfold nxL; omega
          omega]
        exact dn_s.mpr ⟨g, hg, Or.inr ⟨hh, h3⟩⟩
/-- the fewest, 0 if there is no plan -/
def fnd (p : Nat → Bool) : Nat → Nat
  | 0 => 0
  | k + 1 => if fnd p k = 0 then (if p (k + 1) then k + 1 else 0) else fnd p k
theorem fnd_le (p : Nat → Bool) : ∀ k, fnd p k ≤ k
  | 0 => Nat.le_refl 0
  | k + 1 => by
    have h := fnd_le p k
    rw [fnd]; (repeat' split) <;> omega
theorem fnd_pos (p : Nat → Bool) : ∀ k, fnd p k ≠ 0 → p (fnd p k) = true ∧ ∀ m, 1 ≤ m → m < fnd p k → p m = false
  | 0, h => absurd rfl h
  | k + 1, h => by
    rw [fnd] at h ⊢
    by_cases c : fnd p k = 0
    · rw [if_pos c] at h ⊢
      by_cases c2 : p (k + 1) = true
      · rw [if_pos c2] at h ⊢
        refine ⟨c2, fun m h1 h2 => ?_⟩
        cases e : p m with
        | false => rfl
        | true => exact absurd c (fnd_nz p k m h1 (by omega) e)
      · rw [if_neg c2] at h; exact absurd rfl h
    · rw [if_neg c]; exact fnd_pos p k c
where
  fnd_nz (p : Nat → Bool) : ∀ k m, 1 ≤ m → m ≤ k → p m = true → fnd p k ≠ 0
  | 0, m, h1, h2, _ => by omega
  | k + 1, m, h1, h2, h3 => by
    rw [fnd]
    by_cases c : fnd p k = 0
    · rw [if_pos c]
      by_cases e : m = k + 1
      · subst e; rw [if_pos h3]; omega
      · exact absurd c (fnd_nz p k m h1 (by omega) h3)
    · rw [if_neg c]; exact c
def dst (R : Nat → Nat → Nat → Nat) (gn : Nat → Nat) (G goal t l : Nat) : Nat := fnd (fun n => dn R gn G goal n t l) 34
theorem dst_le {t l : Nat} : dst R gn G goal t l ≤ 34 := fnd_le _ _
theorem dst_dn {t l : Nat} (h : dst R gn G goal t l ≠ 0) : dn R gn G goal (dst R gn G goal t l) t l = true := (fnd_pos _ 34 h).1
theorem dst_min {t l n : Nat} (ht : t ≤ 24) (hl : l ≤ 9) (h : dn R gn G goal n t l = true) : dst R gn G goal t l ≠ 0 ∧ dst R gn G goal t l ≤ n := by
  have h0 : n ≠ 0 := fun e => by subst e; cases h
  have hb := dn_bd n t l ht hl h
  have hnz : dst R gn G goal t l ≠ 0 := fnd_pos.fnd_nz _ 34 (34 - t - l) (by omega) (by omega) hb
  refine ⟨hnz, ?_⟩
  rcases Nat.lt_or_ge n (dst R gn G goal t l) with c | c
  · have := (fnd_pos _ 34 hnz).2 n (by omega) c
    rw [h] at this; cases this
  · exact c
theorem dst_1 {t l : Nat} (ht : t ≤ 24) (hl : l ≤ 9) : dst R gn G goal t l = 1 ↔ ∃ g, g < G ∧ goal ≤ R g t l := by
  constructor
  · intro e
    have h := dst_dn (R := R) (gn := gn) (G := G) (goal := goal) (t := t) (l := l) (by omega)
    rw [e] at h
    obtain ⟨g, hg, hh⟩ := dn_s.mp h
    rcases hh with hh | ⟨_, hn⟩
    · exact ⟨g, hg, hh⟩
    · cases hn
  · rintro ⟨g, hg, hh⟩
    have h := dst_min (gn := gn) (n := 1) ht hl (dn_s.mpr ⟨g, hg, Or.inl hh⟩)
    omega
theorem dst_s {t l n : Nat} (ht : t ≤ 24) (hl : l ≤ 9) (hn : 1 ≤ n) (hno : ¬ (1 ≤ dst R gn G goal t l ∧ dst R gn G goal t l ≤ n)) : dst R gn G goal t l = n + 1 ↔ ∃ g, g < G ∧ 1 ≤ R g t l ∧ dst R gn G goal (nxT gn g t) (nxL l) = n := by
  have ht2 : ∀ g, nxT gn g t ≤ 24 := fun g => by unfold nxT; omega
  have hl2 : nxL l ≤ 9 := by unfold nxL; omega
  constructor
  · intro e
    have h := dst_dn (R := R) (gn := gn) (G := G) (goal := goal) (t := t) (l := l) (by omega)
    rw [e] at h
    obtain ⟨g, hg, hh⟩ := dn_s.mp h
    rcases hh with hh | ⟨hh, hq⟩
    · have h1 := (dst_1 (R := R) (gn := gn) (G := G) (goal := goal) ht hl).mpr ⟨g, hg, hh⟩
      omega
    · refine ⟨g, hg, hh, ?_⟩
      obtain ⟨z1, z2⟩ := dst_min (ht2 g) hl2 hq
      rcases Nat.lt_or_ge (dst R gn G goal (nxT gn g t) (nxL l)) n with c | c
      · have h3 := dst_min (n := dst R gn G goal (nxT gn g t) (nxL l) + 1) ht hl (dn_s.mpr ⟨g, hg, Or.inr ⟨hh, dst_dn z1⟩⟩)
        omega
      · omega
  · rintro ⟨g, hg, hh, e⟩
    have h := dst_dn (R := R) (gn := gn) (G := G) (goal := goal) (t := nxT gn g t) (l := nxL l) (by omega)
    rw [e] at h
    have h3 := dst_min (n := n + 1) ht hl (dn_s.mpr ⟨g, hg, Or.inr ⟨hh, h⟩⟩)
    omega
theorem dst_next {t l g : Nat} (ht : t ≤ 24) (hl : l ≤ 9) (hg : g < G) (hh : 1 ≤ R g t l) (h : dst R gn G goal (nxT gn g t) (nxL l) ≠ 0) : dst R gn G goal t l ≠ 0 ∧ dst R gn G goal t l ≤ dst R gn G goal (nxT gn g t) (nxL l) + 1 :=
  dst_min ht hl (dn_s.mpr ⟨g, hg, Or.inr ⟨hh, dst_dn h⟩⟩)
theorem dst_mono (hR : ∀ g t l t' l', t ≤ t' → t' ≤ 24 → l ≤ l' → l' ≤ 9 → g < G → R g t l ≤ R g t' l') {t l t' l' : Nat} (h1 : t ≤ t') (h2 : t' ≤ 24) (h3 : l ≤ l') (h4 : l' ≤ 9) (h : dst R gn G goal t l ≠ 0) : dst R gn G goal t' l' ≠ 0 ∧ dst R gn G goal t' l' ≤ dst R gn G goal t l :=
  dst_min h2 h4 (dn_mono hR _ _ _ _ _ h1 h2 h3 h4 (dst_dn h))
end PL
/-- how many rows there are, modulo -/
def wyM (R : Nat → Nat → Nat → Nat) (gn : Nat → Nat) (G goal : Nat) : Nat → Nat → Nat → Nat
  | 0, _, _ => 0
  | 1, t, l => fb_sm (fun g => if goal ≤ R g t l then R g t l - goal + 1 else 0) G % 1000003
  | n + 2, t, l => fb_sm (fun g => if dst R gn G goal (nxT gn g t) (nxL l) = n + 1 then (R g t l * wyM R gn G goal (n + 1) (nxT gn g t) (nxL l)) % 1000003 else 0) G % 1000003
theorem wyM_lt (R : Nat → Nat → Nat → Nat) (gn : Nat → Nat) (G goal : Nat) : ∀ n t l, wyM R gn G goal n t l < 1000003
  | 0, _, _ => by rw [wyM]; omega
  | 1, _, _ => by rw [wyM]; exact Nat.mod_lt _ (by omega)
  | n + 2, _, _ => by rw [wyM]; exact Nat.mod_lt _ (by omega)
