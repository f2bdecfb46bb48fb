/-! the pure layer: plans, the class's offers as numbers -/
section OF
variable (ov wv : Nat → Nat)
def moN : Nat → Nat
  | 0 => 0
  | i + 1 => if ov i = 0 then moN i else if moN i = 0 ∨ ov i < moN i then ov i else moN i
def soN : Nat → Nat
  | 0 => 0
  | i + 1 => if ov i = 0 then soN i else if moN ov i = 0 ∨ ov i < moN ov i then wv i % 1000003 else if ov i = moN ov i then (soN i + wv i) % 1000003 else soN i
def koN : Nat → Nat
  | 0 => 0
  | i + 1 => if ov i = 0 then koN i else if moN ov i = 0 ∨ ov i < moN ov i then i else koN i
theorem mo_spec : ∀ i, (moN ov i = 0 → ∀ g, g < i → ov g = 0) ∧ (moN ov i ≠ 0 → (koN ov i < i ∧ ov (koN ov i) = moN ov i ∧ ∀ g, g < koN ov i → ov g ≠ moN ov i) ∧ ∀ g, g < i → ov g ≠ 0 → moN ov i ≤ ov g)
  | 0 => ⟨fun _ g h => by omega, fun h => absurd rfl h⟩
  | i + 1 => by
    obtain ⟨a, b⟩ := mo_spec i
    rw [moN, koN]
    by_cases c : ov i = 0
    · rw [if_pos c, if_pos c]
      refine ⟨fun h g hg => ?_, fun h => ?_⟩
      · by_cases e : g = i
        · subst e; exact c
        · exact a h g (by omega)
      · obtain ⟨⟨b1, b2, b3⟩, b4⟩ := b h
        refine ⟨⟨by omega, b2, b3⟩, fun g hg hz => ?_⟩
        by_cases e : g = i
        · subst e; exact absurd c hz
        · exact b4 g (by omega) hz
    · rw [if_neg c, if_neg c]
      by_cases d : moN ov i = 0 ∨ ov i < moN ov i
      · rw [if_pos d, if_pos d]
        refine ⟨fun h => absurd h c, fun _ => ⟨⟨by omega, rfl, fun g hg he => ?_⟩, fun g hg hz => ?_⟩⟩
        · rcases d with d | d
          · have := a d g hg; omega
          · have := (b (by omega)).2 g hg (by omega); omega
        · by_cases e : g = i
          · subst e; exact Nat.le_refl _
          · rcases d with d | d
            · exact absurd (a d g (by omega)) hz
            · have := (b (by omega)).2 g (by omega) hz; omega
      · rw [if_neg d, if_neg d]
        have hz : moN ov i ≠ 0 := fun z => d (Or.inl z)
        obtain ⟨⟨b1, b2, b3⟩, b4⟩ := b hz
        refine ⟨fun h => absurd h hz, fun _ => ⟨⟨by omega, b2, b3⟩, fun g hg hq => ?_⟩⟩
        by_cases e : g = i
        · subst e; omega
        · exact b4 g (by omega) hq
theorem sm_zero {f : Nat → Nat} : ∀ n, (∀ k, k < n → f k = 0) → fb_sm f n = 0
  | 0, _ => rfl
  | n + 1, h => by rw [fb_sm_succ, sm_zero n (fun k hk => h k (by omega)), h n (by omega)]
theorem so_spec : ∀ i, moN ov i ≠ 0 → soN ov wv i = fb_sm (fun g => if ov g = moN ov i then wv g else 0) i % 1000003
  | 0, h => absurd rfl h
  | i + 1, h => by
    obtain ⟨a, b⟩ := mo_spec ov i
    rw [fb_sm_succ, soN]
    rw [moN] at h ⊢
    by_cases c : ov i = 0
    · rw [if_pos c] at h
      have hn : ¬ ov i = moN ov i := by omega
      simp only [if_pos c, if_neg hn]
      rw [Nat.add_zero]
      exact so_spec i h
    · rw [if_neg c] at h
      by_cases d : moN ov i = 0 ∨ ov i < moN ov i
      · simp only [if_neg c, if_pos d, if_true]
        rw [sm_zero i (fun k hk => if_neg (fun e => by
          rcases d with d | d
          · have := a d k hk; omega
          · have := (b (by omega)).2 k hk (by omega); omega)), Nat.zero_add]
      · have hz : moN ov i ≠ 0 := fun z => d (Or.inl z)
        have ih := so_spec i hz
        simp only [if_neg c, if_neg d]
        by_cases e : ov i = moN ov i
        · rw [if_pos e, if_pos e, ih, Nat.mod_add_mod]
        · rw [if_neg e, if_neg e, Nat.add_zero]; exact ih
theorem so_lt : ∀ i, soN ov wv i < 1000003
  | 0 => by rw [soN]; omega
  | i + 1 => by
    have := so_lt i
    rw [soN]
    (repeat' split) <;> first | assumption | exact Nat.mod_lt _ (by omega)
end OF
theorem sm_mod (f : Nat → Nat) : ∀ n, fb_sm (fun g => f g % 1000003) n % 1000003 = fb_sm f n % 1000003
  | 0 => rfl
  | n + 1 => by rw [fb_sm_succ, fb_sm_succ, Nat.add_mod, sm_mod f n, Nat.mod_mod, ← Nat.add_mod]
/-- the offer of a goodbye at a place: how many mornings (0: none), how many rows -/
def ovN (R : Nat → Nat → Nat → Nat) (gn : Nat → Nat) (G goal t l g : Nat) : Nat := if goal ≤ R g t l then 1 else if 1 ≤ R g t l ∧ ¬ 10 * nxT gn g t + nxL l = 10 * t + l ∧ dst R gn G goal (nxT gn g t) (nxL l) ≠ 0 then dst R gn G goal (nxT gn g t) (nxL l) + 1 else 0
def wyW (R : Nat → Nat → Nat → Nat) (gn : Nat → Nat) (G goal t l : Nat) : Nat := wyM R gn G goal (dst R gn G goal t l) t l
def wwN (R : Nat → Nat → Nat → Nat) (gn : Nat → Nat) (G goal t l g : Nat) : Nat := if goal ≤ R g t l then R g t l - goal + 1 else R g t l * wyW R gn G goal (nxT gn g t) (nxL l)
section OG
variable {R : Nat → Nat → Nat → Nat} {gn : Nat → Nat} {G goal : Nat}
theorem ov_le {t l g : Nat} (ht : t ≤ 24) (hl : l ≤ 9) (hg : g < G) (h : ovN R gn G goal t l g ≠ 0) : dst R gn G goal t l ≠ 0 ∧ dst R gn G goal t l ≤ ovN R gn G goal t l g := by
  unfold ovN at h ⊢
  by_cases c : goal ≤ R g t l
  · rw [if_pos c]
    have := (dst_1 (R := R) (gn := gn) (G := G) (goal := goal) ht hl).mpr ⟨g, hg, c⟩
    omega
  · rw [if_neg c] at h ⊢
    by_cases d : 1 ≤ R g t l ∧ ¬ 10 * nxT gn g t + nxL l = 10 * t + l ∧ dst R gn G goal (nxT gn g t) (nxL l) ≠ 0
    · rw [if_pos d]; exact dst_next ht hl hg d.1 d.2.2
    · rw [if_neg d] at h; exact absurd rfl h
theorem ov_ex {t l : Nat} (ht : t ≤ 24) (hl : l ≤ 9) (h : dst R gn G goal t l ≠ 0) : ∃ g, g < G ∧ ovN R gn G goal t l g = dst R gn G goal t l := by
  by_cases c : dst R gn G goal t l = 1
  · obtain ⟨g, hg, hh⟩ := (dst_1 ht hl).mp c
    exact ⟨g, hg, by unfold ovN; rw [if_pos hh, c]⟩
  · obtain ⟨n, hn⟩ : ∃ n, dst R gn G goal t l = n + 2 := ⟨dst R gn G goal t l - 2, by omega⟩
    have hs := dst_s (R := R) (gn := gn) (G := G) (goal := goal) (n := n + 1) ht hl (Nat.succ_le_succ (Nat.zero_le n)) (by rw [hn]; omega)
    obtain ⟨g, hg, h1, h2⟩ := hs.mp hn
    refine ⟨g, hg, ?_⟩
    rw [hn]
    unfold ovN
    have hc : 1 ≤ R g t l ∧ ¬ 10 * nxT gn g t + nxL l = 10 * t + l ∧ dst R gn G goal (nxT gn g t) (nxL l) ≠ 0 := by
      refine ⟨h1, fun z => ?_, by rw [h2]; exact Nat.succ_ne_zero n⟩
      have a1 : nxL l ≤ 9 := by unfold nxL; omega
      have e1 : nxT gn g t = t := by omega
      have e2 : nxL l = l := by omega
      rw [e1, e2, hn] at h2; omega
    rw [if_neg (fun z => c ((dst_1 ht hl).mpr ⟨g, hg, z⟩)), if_pos hc, h2]
theorem mo_dst {t l : Nat} (ht : t ≤ 24) (hl : l ≤ 9) : moN (ovN R gn G goal t l) G = dst R gn G goal t l := by
  obtain ⟨a, b⟩ := mo_spec (ovN R gn G goal t l) G
  by_cases c : dst R gn G goal t l = 0
  · by_cases d : moN (ovN R gn G goal t l) G = 0
    · omega
    · obtain ⟨⟨b1, b2, b3⟩, b4⟩ := b d
      exact absurd c (ov_le ht hl b1 (fun z => d (b2.symm.trans z))).1
  · obtain ⟨g, hg, he⟩ := ov_ex ht hl c
    by_cases d : moN (ovN R gn G goal t l) G = 0
    · have := a d g hg; omega
    · obtain ⟨⟨b1, b2, b3⟩, b4⟩ := b d
      have h1 := b4 g hg (by omega)
      have h2 := (ov_le ht hl b1 (fun z => d (b2.symm.trans z))).2
      rw [b2] at h2
      omega
theorem ov_iff {t l g : Nat} (ht : t ≤ 24) (hl : l ≤ 9) (hg : g < G) {n : Nat} (hd : dst R gn G goal t l = n + 2) : ovN R gn G goal t l g = n + 2 ↔ (1 ≤ R g t l ∧ dst R gn G goal (nxT gn g t) (nxL l) = n + 1) := by
  have hno : ¬ goal ≤ R g t l := fun z => by
    have := (dst_1 (R := R) (gn := gn) (G := G) (goal := goal) ht hl).mpr ⟨g, hg, z⟩
    omega
  unfold ovN
  rw [if_neg hno]
  constructor
  · intro h
    by_cases d : 1 ≤ R g t l ∧ ¬ 10 * nxT gn g t + nxL l = 10 * t + l ∧ dst R gn G goal (nxT gn g t) (nxL l) ≠ 0
    · rw [if_pos d] at h; exact ⟨d.1, by omega⟩
    · rw [if_neg d] at h; omega
  · rintro ⟨h1, h2⟩
    have hc : 1 ≤ R g t l ∧ ¬ 10 * nxT gn g t + nxL l = 10 * t + l ∧ dst R gn G goal (nxT gn g t) (nxL l) ≠ 0 := by
      refine ⟨h1, fun z => ?_, by omega⟩
      have a1 : nxL l ≤ 9 := by unfold nxL; omega
      have e1 : nxT gn g t = t := by omega
      have e2 : nxL l = l := by omega
      rw [e1, e2] at h2; omega
    rw [if_pos hc]
    omega
theorem so_wy {t l : Nat} (ht : t ≤ 24) (hl : l ≤ 9) : soN (ovN R gn G goal t l) (wwN R gn G goal t l) G = wyW R gn G goal t l ∨ dst R gn G goal t l = 0 := by
  by_cases c : dst R gn G goal t l = 0
  · exact Or.inr c
  · left
    have hm := mo_dst (R := R) (gn := gn) (G := G) (goal := goal) ht hl
    rw [so_spec _ _ G (by omega), hm]
    unfold wyW
    by_cases c1 : dst R gn G goal t l = 1
    · rw [c1, wyM]
      refine congrArg (fun x => x % 1000003) (fb_sm_cong (fun g hg => ?_))
      unfold wwN
      by_cases d : goal ≤ R g t l
      · rw [if_pos d, if_pos d, if_pos (by unfold ovN; rw [if_pos d])]
      · rw [if_neg d, if_neg d, if_neg]
        intro z
        have := ov_le (R := R) (gn := gn) (G := G) (goal := goal) ht hl hg (by omega)
        unfold ovN at z
        rw [if_neg d] at z
        by_cases e : 1 ≤ R g t l ∧ ¬ 10 * nxT gn g t + nxL l = 10 * t + l ∧ dst R gn G goal (nxT gn g t) (nxL l) ≠ 0
        · rw [if_pos e] at z; omega
        · rw [if_neg e] at z; omega
    · obtain ⟨n, hn⟩ : ∃ n, dst R gn G goal t l = n + 2 := ⟨dst R gn G goal t l - 2, by omega⟩
      rw [hn, wyM, ← sm_mod]
      refine congrArg (fun x => x % 1000003) (fb_sm_cong (fun g hg => ?_))
      have hi := ov_iff (R := R) (gn := gn) (G := G) (goal := goal) ht hl hg hn
      have hno : ¬ goal ≤ R g t l := fun z => by
        have := (dst_1 (R := R) (gn := gn) (G := G) (goal := goal) ht hl).mpr ⟨g, hg, z⟩
        omega
      by_cases d : dst R gn G goal (nxT gn g t) (nxL l) = n + 1
      · rw [if_pos d]
        by_cases e : 1 ≤ R g t l
        · rw [if_pos (hi.mpr ⟨e, d⟩)]
          unfold wwN wyW
          rw [if_neg hno, d]
        · rw [if_neg (fun z => e (hi.mp z).1), show R g t l = 0 by omega, Nat.zero_mul]
      · rw [if_neg d, if_neg (fun z => d (hi.mp z).2)]
end OG
