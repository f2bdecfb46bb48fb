/-! the law's start: static rows, links, classes; what the constructors leave -/
theorem wl_T {args : Array Value} {s : State} {n : String} {f : Nat → Int32} {A : Nat → Prop} (harr : (Cond.arrayOf (.static "DoorMornings" n "[I") .int).before args s = true) (hlen : (Cond.eq (.length (.static "DoorMornings" n "[I")) (.int 4)).before args s = true) (h0 : (Cond.eq (.elem (.static "DoorMornings" n "[I") (.int 0)) (.int (f 0))).before args s = true) (h1 : (Cond.eq (.elem (.static "DoorMornings" n "[I") (.int 1)) (.int (f 1))).before args s = true) (h2 : (Cond.eq (.elem (.static "DoorMornings" n "[I") (.int 2)) (.int (f 2))).before args s = true) (h3 : (Cond.eq (.elem (.static "DoorMornings" n "[I") (.int 3)) (.int (f 3))).before args s = true) (hA : ∀ a : Nat, a < s.heap.size → ¬ A a) : ∃ t : Nat, (Term.static "DoorMornings" n "[I").eval args s none [] s = some (.ref t) ∧ va_T .int t 4 (fun j => .int (f j)) A s s.heap := by
  refine va_Tof (N := 4) (f := fun j => .int (f j)) (by decide) harr (va_eqt hlen) (fun j hj => ?_) hA
  rcases (show j = 0 ∨ j = 1 ∨ j = 2 ∨ j = 3 by omega) with q | q | q | q
  · subst q; exact va_eqt h0
  · subst q; exact va_eqt h1
  · subst q; exact va_eqt h2
  · subst q; exact va_eqt h3
theorem wl_len {args : Array Value} {s : State} {tm : Term} {v : Value} {t : Nat} {cell : Cell} (hv : (Term.length tm).eval args s none [] s = some v) (ht : tm.eval args s none [] s = some (.ref t)) (hc : s.heap[t]? = some cell) : cell.slots.size < 2 ^ 31 := by
  obtain ⟨b, cell3, ht3, hat, -⟩ := Term.length_spec hv
  have hsz : cell3.slots.size < 2 ^ 31 := by
    simp only [Term.eval, ht3, hat, Option.bind_eq_bind, Option.bind_some] at hv
    by_cases hlt : cell3.slots.size < 2147483648
    · exact hlt
    · simp [hlt] at hv
  obtain ⟨hcell, -, -, -⟩ := State.arrayAt?_spec hat
  cases ht.symm.trans ht3
  cases hc.symm.trans hcell
  exact hsz
theorem wl_F {args : Array Value} {s : State} {A : Nat → Prop} (hl : (Cond.laysStatic "DoorMornings" "FIRST_SETTING" "[I").before args s = true) (hini : (Cond.initialized "DoorMornings").before args s = true) (hlen : (Cond.eq (.length (.static "DoorMornings" "FIRST_SETTING" "[I")) (.int 4)).before args s = true) (hex : (Cond.exactly (.static "DoorMornings" "FIRST_SETTING" "[I") "[I").before args s = true) (hT : ∃ t : Nat, (Term.static "DoorMornings" "FIRST_SETTING" "[I").eval args s none [] s = some (.ref t) ∧ va_T .int t 4 (fun j => .int (wq_first j)) A s s.heap) (hA : ∀ a : Nat, a < s.heap.size → ¬ A a) : wq_F A s s.heap := by
  obtain ⟨t, ht, cell, c1, c2, c3, c4, c5, c6, c7⟩ := hT
  obtain ⟨a, cc, cell2, k, x1, x2, x3, x4, x5, x6, -⟩ := Cond.exactly_spec hex
  cases ht.symm.trans x1
  cases c1.symm.trans x3
  have hsz := wl_len (va_eqt hlen) ht c1
  have e4 : cell.slots.size = 4 := by
    have e5 := congrArg Int32.toInt c5
    have e6 : (cell.slots.size.toInt32).toInt = cell.slots.size := pn_ti (k := cell.slots.size) hsz
    rw [e6] at e5
    have e7 : (Int32.ofNat 4).toInt = 4 := rfl
    omega
  exact ⟨t, cell, va_Zof hl hini ht hA, c1, c2, c3, e4, c6, by rw [x6]; exact x2, c7⟩
theorem wl_arr {args : Array Value} {s : State} {ty : FieldType} (h : (Cond.arrayClass ty).before args s = true) : ∃ cA : ClassId, ArrOfT s cA ty ∧ s.vm.findClass ("[" ++ ty.toString) = some cA := by
  obtain ⟨cA, kA, comp, h1, h2, h3⟩ := Cond.arrayClass_spec h
  exact ⟨cA, fun n z => ⟨fun k h => (by cases h), kA, h2, comp, h3⟩, h1⟩
theorem wl_N {s : State} {a : Array Value} (hts : ∀ w ∈ lw_tbl, w.before a s = true) : wq_N s ∧ wq_N2 s :=
  ⟨⟨va_Nw.of rfl (hts (.methodLinkNest RX6 9 yX4_init "DoorMornings") (by decide +kernel)), va_Nw.of rfl (hts (.methodLinkNest RX6 18 yX0_init "DoorMornings") (by decide +kernel)), va_Nw.of rfl (hts (.methodLinkNest RX6 25 yX2_init "DoorMornings") (by decide +kernel)), va_Nw.of rfl (hts (.methodLinkNest RX6 32 yX3_init "DoorMornings") (by decide +kernel)), va_Nw.of rfl (hts (.methodLinkNest RX6 39 yX1_init "DoorMornings") (by decide +kernel)), va_Nw.of rfl (hts (.methodLinkNest RX6 52 yX5_init "DoorMornings") (by decide +kernel)), va_Nw.of rfl (hts (.methodLinkNest RX3 25 yX6_withinMinutes "DoorMornings") (by decide +kernel)), va_Nw.of rfl (hts (.methodLinkNest RX5 53 yX6_beyondTrust "DoorMornings") (by decide +kernel)), va_Nw.of rfl (hts (.methodLinkNest RX5 57 yX6_withinMinutes "DoorMornings") (by decide +kernel)), va_Nw.of rfl (hts (.methodLinkNest RX5 83 yX6_quotient "DoorMornings") (by decide +kernel))⟩,
    ⟨va_Nw.of rfl (hts (.fieldLinkNest RX5 21 "DoorMornings" "FIRST_SETTING" "[I" "DoorMornings") (by decide +kernel)), va_Nw.of rfl (hts (.fieldLinkNest RX4 80 "DoorMornings" "LEAST_SETTING" "[I" "DoorMornings") (by decide +kernel)), va_Nw.of rfl (hts (.fieldLinkNest RX4 83 "DoorMornings" "MOST_SETTING" "[I" "DoorMornings") (by decide +kernel)), va_Nw.of rfl (hts (.castable "[I" "java/lang/Cloneable") (by decide +kernel))⟩⟩
theorem wl_E {s : State} {a : Array Value} (hts : ∀ w ∈ lw_tbl, w.before a s = true) (hgv : (Jvm.Cond.and given_1 narrow_1).before a s = true) {A : Nat → Prop} (hA : ∀ q : Nat, q < s.heap.size → ¬ A q) : wq_E A s ∧ wq_F A s s.heap := by
  have hf := flat_of_before _ hgv
  have hini := hts (.initialized "DoorMornings") (by decide +kernel)
  have l1 := hts (.laysStatic "DoorMornings" "FIRST_SETTING" "[I") (by decide +kernel)
  have l2 := hts (.laysStatic "DoorMornings" "LEAST_SETTING" "[I") (by decide +kernel)
  have l3 := hts (.laysStatic "DoorMornings" "MOST_SETTING" "[I") (by decide +kernel)
  have T1 := wl_T (n := "FIRST_SETTING") (f := wq_first) (hf _ (by decide +kernel)) (hf _ (by decide +kernel)) (hf _ (by decide +kernel)) (hf _ (by decide +kernel)) (hf _ (by decide +kernel)) (hf _ (by decide +kernel)) hA
  have T2 := wl_T (n := "LEAST_SETTING") (f := wq_least) (hf _ (by decide +kernel)) (hf _ (by decide +kernel)) (hf _ (by decide +kernel)) (hf _ (by decide +kernel)) (hf _ (by decide +kernel)) (hf _ (by decide +kernel)) hA
  have T3 := wl_T (n := "MOST_SETTING") (f := wq_most) (hf _ (by decide +kernel)) (hf _ (by decide +kernel)) (hf _ (by decide +kernel)) (hf _ (by decide +kernel)) (hf _ (by decide +kernel)) (hf _ (by decide +kernel)) hA
  have F1 := wl_F l1 hini (hf _ (by decide +kernel)) (hf _ (by decide +kernel)) T1 hA
  obtain ⟨t1, u1, v1⟩ := T1
  obtain ⟨t2, u2, v2⟩ := T2
  obtain ⟨t3, u3, v3⟩ := T3
  obtain ⟨n1, n2⟩ := wl_N hts
  exact ⟨⟨n1, n2, ⟨t1, va_Zof l1 hini u1 hA, v1⟩, ⟨t2, va_Zof l2 hini u2 hA, v2⟩, ⟨t3, va_Zof l3 hini u3 hA, v3⟩⟩, F1⟩
theorem wl_K {s : State} {a : Array Value} (hts : ∀ w ∈ lw_tbl, w.before a s = true) : ∃ (dC : Nat → ClassId) (dI : Nat → Nat → Nat) (cI cJ cZ : ClassId), va_K (dC, dI) vwCl [(cI, .int), (cJ, .long), (cZ, .boolean)] s := by
  obtain ⟨c0, i0, h0⟩ := u_known (C := RX0) (T := TX0) (N := 5) (n := 5) hts inX0 (hts (.instantiable RX0 5) (by decide +kernel))
  obtain ⟨c1, i1, h1⟩ := u_known (C := RX1) (T := TX1) (N := 4) (n := 4) hts inX1 (hts (.instantiable RX1 4) (by decide +kernel))
  obtain ⟨c2, i2, h2⟩ := u_known (C := RX2) (T := TX2) (N := 2) (n := 2) hts inX2 (hts (.instantiable RX2 2) (by decide +kernel))
  obtain ⟨c3, i3, h3⟩ := u_known (C := RX3) (T := TX3) (N := 4) (n := 4) hts inX3 (hts (.instantiable RX3 4) (by decide +kernel))
  obtain ⟨c4, i4, h4⟩ := u_known (C := RX4) (T := TX4) (N := 5) (n := 5) hts inX4 (hts (.instantiable RX4 5) (by decide +kernel))
  obtain ⟨c5, i5, h5⟩ := u_known (C := RX5) (T := TX5) (N := 6) (n := 6) hts inX5 (hts (.instantiable RX5 6) (by decide +kernel))
  obtain ⟨c6, i6, h6⟩ := u_known (C := RX6) (T := TX6) (N := 9) (n := 9) hts inX6 (hts (.instantiable RX6 9) (by decide +kernel))
  obtain ⟨c7, i7, h7⟩ := u_known (C := RX7) (T := TX7) (N := 19) (n := 19) hts inX7 (hts (.instantiable RX7 19) (by decide +kernel))
  obtain ⟨cI, a1, b1⟩ := wl_arr (hts (.arrayClass .int) (by decide +kernel))
  obtain ⟨cJ, a2, b2⟩ := wl_arr (hts (.arrayClass .long) (by decide +kernel))
  obtain ⟨cZ, a3, b3⟩ := wl_arr (hts (.arrayClass .boolean) (by decide +kernel))
  refine ⟨fun k => match k with | 0 => c0 | 1 => c1 | 2 => c2 | 3 => c3 | 4 => c4 | 5 => c5 | 6 => c6 | _ => c7, fun k => match k with | 0 => i0 | 1 => i1 | 2 => i2 | 3 => i3 | 4 => i4 | 5 => i5 | 6 => i6 | _ => i7, cI, cJ, cZ, ?_, ?_⟩
  · intro k q hq
    match k, hq with
    | 0, hq => cases hq; exact h0
    | 1, hq => cases hq; exact h1
    | 2, hq => cases hq; exact h2
    | 3, hq => cases hq; exact h3
    | 4, hq => cases hq; exact h4
    | 5, hq => cases hq; exact h5
    | 6, hq => cases hq; exact h6
    | 7, hq => cases hq; exact h7
    | k + 8, hq => simp at hq
  · intro k q hq
    match k, hq with
    | 0, hq => cases hq; exact ⟨a1, b1⟩
    | 1, hq => cases hq; exact ⟨a2, b2⟩
    | 2, hq => cases hq; exact ⟨a3, b3⟩
    | k + 3, hq => simp at hq
/-- what the reference's constructor leaves beside the class's -/
theorem wl_new : ∃ (v : Int32) (d : Nat → Int32) (a1 a2 a3 a4 : Int32) (t2 s2 : Nat → Int32), gX7_reads (fun _ => 0) 0 (fun _ => 0) 0 0 0 0 = some (v, d, a1, a2, a3, a4) ∧ gX7_begins (fun _ => 0) d (fun _ => 0) 0 (fun _ => 0) 0 = some (t2, s2, 0, upd (upd (fun _ => 0) 0 0) 1 0, 0) ∧ RT (fun _ => 0) (fun _ => 0) wq_first 0 0 t2 ∧ RN (fun _ => 0) 0 0 0 0 s2 := by
  obtain ⟨d2, hd, er⟩ := rd_M (fun _ => 0) 0 (fun _ => 0) 0 0 0 0
  obtain ⟨aa, so, va, et, t0, -⟩ := tk_item (f := fun _ => 0) (n := 0) (p := 0) (by omega) (by omega) (fun k hk => by omega) 0 0 0
  obtain ⟨hR, -⟩ := RDb_0 hd (fun _ => 0) (fun _ => 0) (fun _ => 0) wq_first
  rw [fa_upd_same (f := wq_first) (i := 0) (x := 2) rfl, fa_upd_same (f := wq_first) (i := 1) (x := 5) rfl, fa_upd_same (f := wq_first) (i := 2) (x := 25) rfl, fa_upd_same (f := wq_first) (i := 3) (x := 48) rfl] at hR
  rw [show nI 0 = 0 from rfl] at et
  rw [et, wq_b4_e, gX7_reads_L60, if_pos (t0.mpr (Nat.zero_le _))] at er
  obtain ⟨t2, s2, hm1, hm2, em⟩ := begins_M (fun _ => 0) (upd (upd (upd (upd d2 2 2) 3 5) 4 25) 5 48) (fun _ => 0) 0 (fun _ => 0) 0
  refine ⟨_, _, _, _, _, _, t2, s2, er, em, RT_of hR hm1, RN_of hR (fun j hj => ?_) hm2⟩
  rw [if_neg (by omega)]
