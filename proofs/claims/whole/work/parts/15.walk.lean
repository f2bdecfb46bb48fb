theorem hdV_X2_loseOldest : yX2_loseOldest.cls = RX2 ∧ yX2_loseOldest.cls ≠ "java/lang/invoke/MethodHandle" ∧ yX2_loseOldest.cls ≠ "java/lang/invoke/VarHandle" ∧ (parseMethodDescriptor yX2_loseOldest.desc).map (fun d => d.parameters.length) = some 0 := by decide +kernel
set_option maxHeartbeats 4000000 in
set_option maxRecDepth 100000 in
theorem C_X2_loseOldest (l : Launch) (dC : Nat → ClassId) (dI : Nat → Nat → Nat) (cI cJ cZ : ClassId) (qa : Nat → Nat) (sz : Nat) (p_befores : Nat → Int64) (p_known : Int32) (r_p_befores : Nat → Int64) (r_p_known : Int32) (hG : gX2_loseOldest p_befores p_known = some (r_p_befores, r_p_known)) : Met l yX2_loseOldest wsX2_loseOldest ({ frames := 0, cells := 0, slots := 0, locals := 0 } : Room) (va_Pc [.ref (qa 5)] (wq_pw (dC, dI) [(cI, .int), (cJ, .long), (cZ, .boolean)] (wcP qa cI cJ cZ p_befores p_known) sz)) (wq_Wv (dC, dI) (wcP qa cI cJ cZ r_p_befores r_p_known) (va_A (wcP qa cI cJ cZ p_befores p_known) sz)) 0 0 (va_A (wcP qa cI cJ cZ p_befores p_known) sz) := by
  refine Met.ofW (cc := cX2_loseOldest) (maxL := 2) (ret := none) (by decide) rfl ?_
  intro p e s m args below meth c s₁ B hml hv
  obtain ⟨rfl, hsz, hP, hK, hD0, hE⟩ := hv
  have hx := B.exec
  have hb := B.bytes
  have hr := B.returns
  have hts := atoms_spec (ws := wsX2_loseOldest) B.pre
  have hown : s.vm.findClass RX2 = some m.cls := findClass_of_methodNamed B.named
  have hlocks := B.notSynchronized
  subst hsz
  have hD := hD0.self (sz := s.heap.size)
  generalize hAe : va_A (wcP qa cI cJ cZ p_befores p_known) s.heap.size = A at hD hE ⊢
  have hA : ∀ q : Nat, s.heap.size ≤ q → A q := fun q h => by rw [← hAe]; exact Or.inr h
  have hS : va_S A s.heap s.heap [] := va_S.rf
  have hinX2 : ∀ w ∈ u_ws RX2 TX2 2, w ∈ wsX2_loseOldest := by decide +kernel
  have k1 := hts (.fieldLink RX2 15 "DoorMornings$Past" "known" "I") (by decide +kernel)
  have k2 := hts (.fieldLink RX2 9 "DoorMornings$Past" "befores" "[J") (by decide +kernel)
  have hl := lv_entry ([.ref (qa 5)]) (n := 2) (Nat.le_of_ble_eq_true rfl)
  rw [lg_entry_eq]
  generalize (lg_sl ([.ref (qa 5)]) ++ List.replicate (2 - (lg_sl ([.ref (qa 5)])).length) Slot.unset).toArray = ls at hl ⊢
  have hl : lv_has ls 2 [(0, .ref (qa 5))] := hl
  have hL2 : ∀ (z_p_known : Int32) (n : Nat) (x1 : Int32) (z_p_befores : Nat → Int64) (H : Heap) (locs : List Loc) (ls : Array Slot), gX2_loseOldest_L2 z_p_known n x1 z_p_befores = some (r_p_befores, r_p_known) → va_P (dC, dI) vwCl (wcP qa cI cJ cZ z_p_befores z_p_known) H → va_D A (wcP qa cI cJ cZ z_p_befores z_p_known) → va_S A s.heap H locs → lv_has ls 2 [(0, .ref (qa 5)), (1, .int x1)] → W p l e (headSpec wsX2_loseOldest ({ frames := 0, cells := 0, slots := 0, locals := 0 } : Room)).room s m ([.ref (qa 5)] : List Value).toArray below meth c H locs 0 0 (MQ below (wq_Wv (dC, dI) (wcP qa cI cJ cZ r_p_befores r_p_known) A) ([.ref (qa 5)] : List Value).toArray s 0 0 A) (F0 m 2 ls []) := by
    intro z_p_known n
    induction n with
    | zero =>
      intro x1 z_p_befores H locs ls hG
      exact absurd (show (none : Option ((Nat → Int64) × Int32)) = some (r_p_befores, r_p_known) from hG) (by intro h9; cases h9)
    | succ n ih2 =>
      intro x1 z_p_befores H locs ls hG hP hD hS hl
      rw [gX2_loseOldest_L2] at hG
      refine lv_iload_n hx hb dX2_loseOldest_2 rfl (lv_at hl 1 rfl) ?_
      refine lv_bipush (v := 10) hx hb dX2_loseOldest_3 (by decide) ?_
      refine lv_icmp_ge (tgt := 28) hx hb dX2_loseOldest_5 (by decide) (fun c1 => ?_) (fun c1 => ?_)
      · replace hG := wq_t c1 hG
        refine lv_aload_n hx hb dX2_loseOldest_28 rfl (lv_at hl 0 rfl) ?_
        refine lv_bipush (v := 9) hx hb dX2_loseOldest_29 (by decide) ?_
        refine va_put (D := (dC, dI)) (ci := 2) (v := .int 9) (ty := tyX2 1) (C := RX2) (T := TX2) (N := 2) hx hb hts hinX2 tyX2 tyX2_ok nmX2 hown hK hP hD hS 0 rfl rfl 1 (by decide) k1 (fun _ h9 => h9) rfl (tyX2_ok 1 (by decide)) rfl rfl (Nat.le_of_ble_eq_true rfl) dX2_loseOldest_31 (fun H locs hP hD hS => ?_)
        replace hP : va_P (dC, dI) vwCl (wcP qa cI cJ cZ z_p_befores 9) H := hP
        replace hD : va_D A (wcP qa cI cJ cZ z_p_befores 9) := hD
        obtain ⟨e0, e1⟩ := wq_j2 hG
        subst e0
        subst e1
        exact W.vret hx hb hr (fun t ht hW => ⟨⟨(), rfl, trivial, by rw [ht]; exact hP, hD⟩, hS.F ht⟩) hS.2.2 dX2_loseOldest_34
      · replace hG := wq_f c1 hG
        refine lv_aload_n hx hb dX2_loseOldest_8 rfl (lv_at hl 0 rfl) ?_
        refine va_get (D := (dC, dI)) (ci := 2) (v := .ref (qa 6)) (C := RX2) (T := TX2) (N := 2) hx hb hts hinX2 hown hK hP 0 rfl rfl 0 (by decide) k2 (fun _ h9 => h9) rfl dX2_loseOldest_9 ?_
        refine lv_iload_n hx hb dX2_loseOldest_12 rfl (lv_at hl 1 rfl) ?_
        refine lv_iconst (v := 1) hx hb dX2_loseOldest_13 (by decide) ?_
        refine lv_isub hx hb dX2_loseOldest_14 ?_
        refine lv_aload_n hx hb dX2_loseOldest_15 rfl (lv_at hl 0 rfl) ?_
        refine va_get (D := (dC, dI)) (ci := 2) (v := .ref (qa 6)) (C := RX2) (T := TX2) (N := 2) hx hb hts hinX2 hown hK hP 0 rfl rfl 0 (by decide) k2 (fun _ h9 => h9) rfl dX2_loseOldest_16 ?_
        refine lv_iload_n hx hb dX2_loseOldest_19 rfl (lv_at hl 1 rfl) ?_
        obtain ⟨h2, hG⟩ := wq_chk_s hG
        refine wq_lald (D := (dC, dI)) hx hb hK hP 1 1 rfl rfl h2 (Int32.toNatClampNeg x1) rfl dX2_loseOldest_20 ?_
        obtain ⟨h3, hG⟩ := wq_chk_s hG
        refine wq_last (D := (dC, dI)) hx hb hK hP hD hS 1 1 rfl rfl h3 (Int32.toNatClampNeg (x1 - 1)) rfl (wcP qa cI cJ cZ (vp_updL z_p_befores (Int32.toNatClampNeg (x1 - 1)) (z_p_befores (Int32.toNatClampNeg x1))) z_p_known) rfl dX2_loseOldest_21 (fun H locs hP hD hS => ?_)
        refine lv_iinc (v := (x1 + 1)) (lv' := [(1, .int (x1 + 1)), (0, .ref (qa 5))]) hx hb dX2_loseOldest_22 hl (k := 1) rfl rfl (by decide) rfl (fun ls hl => ?_)
        refine lv_goto (tgt := 2) hx hb dX2_loseOldest_25 (by decide) ?_
        exact ih2 (x1 + 1) (vp_updL z_p_befores (Int32.toNatClampNeg (x1 - 1)) (z_p_befores (Int32.toNatClampNeg x1))) _ _ _ hG hP hD hS (lv_sub hl [1, 0] rfl)
  unfold gX2_loseOldest at hG
  refine lv_iconst (v := 1) hx hb dX2_loseOldest_0 (by decide) ?_
  refine lv_istore_n (lv' := [(1, .int 1), (0, .ref (qa 5))]) hx hb dX2_loseOldest_1 rfl hl (by decide) rfl (fun ls hl => ?_)
  exact hL2 p_known 1000 1 p_befores _ _ _ hG hP hD hS (lv_sub hl [1, 0] rfl)

theorem hdV_X2_add : yX2_add.cls = RX2 ∧ yX2_add.cls ≠ "java/lang/invoke/MethodHandle" ∧ yX2_add.cls ≠ "java/lang/invoke/VarHandle" ∧ (parseMethodDescriptor yX2_add.desc).map (fun d => d.parameters.length) = some 1 := by decide +kernel
set_option maxHeartbeats 4000000 in
set_option maxRecDepth 100000 in
theorem C_X2_add (l : Launch) (dC : Nat → ClassId) (dI : Nat → Nat → Nat) (cI cJ cZ : ClassId) (qa : Nat → Nat) (sz : Nat) (p_befores : Nat → Int64) (p_known : Int32) (a1 : Int64) (r_p_befores : Nat → Int64) (r_p_known : Int32) (hG : gX2_add p_befores p_known a1 = some (r_p_befores, r_p_known)) : Met l yX2_add wsX2_add ({ frames := 1, cells := 0, slots := 0, locals := 21 } : Room) (va_Pc [.ref (qa 5), .long a1] (wq_pw (dC, dI) [(cI, .int), (cJ, .long), (cZ, .boolean)] (wcP qa cI cJ cZ p_befores p_known) sz)) (wq_Wv (dC, dI) (wcP qa cI cJ cZ r_p_befores r_p_known) (va_A (wcP qa cI cJ cZ p_befores p_known) sz)) 0 0 (va_A (wcP qa cI cJ cZ p_befores p_known) sz) := by
  refine Met.ofW (cc := cX2_add) (maxL := 3) (ret := none) (by decide) rfl ?_
  intro p e s m args below meth c s₁ B hml hv
  obtain ⟨rfl, hsz, hP, hK, hD0, hE⟩ := hv
  have hx := B.exec
  have hb := B.bytes
  have hr := B.returns
  have hts := atoms_spec (ws := wsX2_add) B.pre
  have hown : s.vm.findClass RX2 = some m.cls := findClass_of_methodNamed B.named
  have hlocks := B.notSynchronized
  subst hsz
  have hD := hD0.self (sz := s.heap.size)
  generalize hAe : va_A (wcP qa cI cJ cZ p_befores p_known) s.heap.size = A at hD hE ⊢
  have hA : ∀ q : Nat, s.heap.size ≤ q → A q := fun q h => by rw [← hAe]; exact Or.inr h
  have hS : va_S A s.heap s.heap [] := va_S.rf
  have hinX2 : ∀ w ∈ u_ws RX2 TX2 2, w ∈ wsX2_add := by decide +kernel
  have k1 := hts (.fieldLink RX2 15 "DoorMornings$Past" "known" "I") (by decide +kernel)
  have k2 := hts (.fieldLink RX2 9 "DoorMornings$Past" "befores" "[J") (by decide +kernel)
  have hl := lv_entry ([.ref (qa 5), .long a1]) (n := 3) (Nat.le_of_ble_eq_true rfl)
  rw [lg_entry_eq]
  generalize (lg_sl ([.ref (qa 5), .long a1]) ++ List.replicate (3 - (lg_sl ([.ref (qa 5), .long a1])).length) Slot.unset).toArray = ls at hl ⊢
  have hl : lv_has ls 3 [(0, .ref (qa 5)), (1, .long a1)] := hl
  unfold gX2_add at hG
  refine lv_aload_n hx hb dX2_add_0 rfl (lv_at hl 0 rfl) ?_
  refine va_get (D := (dC, dI)) (ci := 2) (v := .int p_known) (C := RX2) (T := TX2) (N := 2) hx hb hts hinX2 hown hK hP 0 rfl rfl 1 (by decide) k1 (fun _ h9 => h9) rfl dX2_add_1 ?_
  refine lv_bipush (v := 10) hx hb dX2_add_4 (by decide) ?_
  refine lv_icmp_lt (tgt := 13) hx hb dX2_add_6 (by decide) (fun c1 => ?_) (fun c1 => ?_)
  · replace hG := wq_t c1 hG
    refine lv_aload_n hx hb dX2_add_13 rfl (lv_at hl 0 rfl) ?_
    refine va_get (D := (dC, dI)) (ci := 2) (v := .int p_known) (C := RX2) (T := TX2) (N := 2) hx hb hts hinX2 hown hK hP 0 rfl rfl 1 (by decide) k1 (fun _ h9 => h9) rfl dX2_add_14 ?_
    refine lv_if_lt (tgt := 29) hx hb dX2_add_17 (by decide) (fun c2 => ?_) (fun c2 => ?_)
    · replace hG := wq_t c2 hG
      obtain ⟨e0, e1⟩ := wq_j2 hG
      subst e0
      subst e1
      exact W.vret hx hb hr (fun t ht hW => ⟨⟨(), rfl, trivial, by rw [ht]; exact hP, hD⟩, hS.F ht⟩) hS.2.2 dX2_add_29
    · replace hG := wq_f c2 hG
      refine lv_aload_n hx hb dX2_add_20 rfl (lv_at hl 0 rfl) ?_
      refine va_get (D := (dC, dI)) (ci := 2) (v := .int p_known) (C := RX2) (T := TX2) (N := 2) hx hb hts hinX2 hown hK hP 0 rfl rfl 1 (by decide) k1 (fun _ h9 => h9) rfl dX2_add_21 ?_
      refine lv_bipush (v := 10) hx hb dX2_add_24 (by decide) ?_
      refine lv_icmp_lt (tgt := 30) hx hb dX2_add_26 (by decide) (fun c3 => ?_) (fun c3 => absurd c1 c3)
      refine lv_aload_n hx hb dX2_add_30 rfl (lv_at hl 0 rfl) ?_
      refine va_get (D := (dC, dI)) (ci := 2) (v := .ref (qa 6)) (C := RX2) (T := TX2) (N := 2) hx hb hts hinX2 hown hK hP 0 rfl rfl 0 (by decide) k2 (fun _ h9 => h9) rfl dX2_add_31 ?_
      refine lv_aload_n hx hb dX2_add_34 rfl (lv_at hl 0 rfl) ?_
      refine va_get (D := (dC, dI)) (ci := 2) (v := .int p_known) (C := RX2) (T := TX2) (N := 2) hx hb hts hinX2 hown hK hP 0 rfl rfl 1 (by decide) k1 (fun _ h9 => h9) rfl dX2_add_35 ?_
      refine lv_lload_n hx hb dX2_add_38 rfl (lv_at hl 1 rfl) ?_
      obtain ⟨h4, hG⟩ := wq_chk_s hG
      refine wq_last (D := (dC, dI)) hx hb hK hP hD hS 1 1 rfl rfl h4 (Int32.toNatClampNeg p_known) rfl (wcP qa cI cJ cZ (vp_updL p_befores (Int32.toNatClampNeg p_known) a1) p_known) rfl dX2_add_39 (fun H locs hP hD hS => ?_)
      refine lv_aload_n hx hb dX2_add_40 rfl (lv_at hl 0 rfl) ?_
      refine lv_dup hx hb dX2_add_41 rfl ?_
      refine va_get (D := (dC, dI)) (ci := 2) (v := .int p_known) (C := RX2) (T := TX2) (N := 2) hx hb hts hinX2 hown hK hP 0 rfl rfl 1 (by decide) k1 (fun _ h9 => h9) rfl dX2_add_42 ?_
      refine lv_iconst (v := 1) hx hb dX2_add_45 (by decide) ?_
      refine lv_iadd hx hb dX2_add_46 ?_
      refine va_put (D := (dC, dI)) (ci := 2) (v := .int (p_known + 1)) (ty := tyX2 1) (C := RX2) (T := TX2) (N := 2) hx hb hts hinX2 tyX2 tyX2_ok nmX2 hown hK hP hD hS 0 rfl rfl 1 (by decide) k1 (fun _ h9 => h9) rfl (tyX2_ok 1 (by decide)) rfl rfl (Nat.le_of_ble_eq_true rfl) dX2_add_47 (fun H locs hP hD hS => ?_)
      replace hP : va_P (dC, dI) vwCl (wcP qa cI cJ cZ (vp_updL p_befores (Int32.toNatClampNeg p_known) a1) (p_known + 1)) H := hP
      replace hD : va_D A (wcP qa cI cJ cZ (vp_updL p_befores (Int32.toNatClampNeg p_known) a1) (p_known + 1)) := hD
      obtain ⟨e0, e1⟩ := wq_j2 hG
      subst e0
      subst e1
      exact W.vret hx hb hr (fun t ht hW => ⟨⟨(), rfl, trivial, by rw [ht]; exact hP, hD⟩, hS.F ht⟩) hS.2.2 dX2_add_50
  · replace hG := wq_f c1 hG
    refine lv_aload_n hx hb dX2_add_9 rfl (lv_at hl 0 rfl) ?_
    obtain ⟨w6, w7, g5, hG⟩ := wq_b2_s hG
    have hFc := va_free (wc := wcP qa cI cJ cZ p_befores p_known) hD hS hA [0, 1] rfl
    refine wq_dv (D := (dC, dI)) (wr := []) (w1 := wcP qa cI cJ cZ w6 w7) (w2 := wcP qa cI cJ cZ w6 w7) (va_runV (As := []) (rest := []) ⟨hx, hb, hml, hown, hts⟩ (C_X2_loseOldest l dC dI cI cJ cZ qa s.heap.size p_befores p_known  w6 w7 g5) (cwV 0 hts gX2_add_X2_loseOldest rfl rfl rfl hdV_X2_loseOldest ⟨Nat.le_of_ble_eq_true rfl, Nat.le_of_ble_eq_true rfl⟩) (wq_pwV hK hP hD hE hS hFc (ci := 2) (q0 := 0) rfl rfl) rfl rfl hl.1 rfl (lv_room (Nat.le_of_ble_eq_true rfl)) dX2_add_10 ⟨Nat.zero_le _, Nat.zero_le _⟩) hP hD hS hFc [0, 1] [] [0, 1] rfl rfl (by decide) (by decide) (by decide) rfl (fun H locs hP hD hS => ?_)
    clear hFc
    refine lv_aload_n hx hb dX2_add_13 rfl (lv_at hl 0 rfl) ?_
    refine va_get (D := (dC, dI)) (ci := 2) (v := .int w7) (C := RX2) (T := TX2) (N := 2) hx hb hts hinX2 hown hK hP 0 rfl rfl 1 (by decide) k1 (fun _ h9 => h9) rfl dX2_add_14 ?_
    refine lv_if_lt (tgt := 29) hx hb dX2_add_17 (by decide) (fun c8 => ?_) (fun c8 => ?_)
    · replace hG := wq_t c8 hG
      obtain ⟨e0, e1⟩ := wq_j2 hG
      subst e0
      subst e1
      exact W.vret hx hb hr (fun t ht hW => ⟨⟨(), rfl, trivial, by rw [ht]; exact hP, hD⟩, hS.F ht⟩) hS.2.2 dX2_add_29
    · replace hG := wq_f c8 hG
      refine lv_aload_n hx hb dX2_add_20 rfl (lv_at hl 0 rfl) ?_
      refine va_get (D := (dC, dI)) (ci := 2) (v := .int w7) (C := RX2) (T := TX2) (N := 2) hx hb hts hinX2 hown hK hP 0 rfl rfl 1 (by decide) k1 (fun _ h9 => h9) rfl dX2_add_21 ?_
      refine lv_bipush (v := 10) hx hb dX2_add_24 (by decide) ?_
      refine lv_icmp_lt (tgt := 30) hx hb dX2_add_26 (by decide) (fun c9 => ?_) (fun c9 => ?_)
      · replace hG := wq_t c9 hG
        refine lv_aload_n hx hb dX2_add_30 rfl (lv_at hl 0 rfl) ?_
        refine va_get (D := (dC, dI)) (ci := 2) (v := .ref (qa 6)) (C := RX2) (T := TX2) (N := 2) hx hb hts hinX2 hown hK hP 0 rfl rfl 0 (by decide) k2 (fun _ h9 => h9) rfl dX2_add_31 ?_
        refine lv_aload_n hx hb dX2_add_34 rfl (lv_at hl 0 rfl) ?_
        refine va_get (D := (dC, dI)) (ci := 2) (v := .int w7) (C := RX2) (T := TX2) (N := 2) hx hb hts hinX2 hown hK hP 0 rfl rfl 1 (by decide) k1 (fun _ h9 => h9) rfl dX2_add_35 ?_
        refine lv_lload_n hx hb dX2_add_38 rfl (lv_at hl 1 rfl) ?_
        obtain ⟨h10, hG⟩ := wq_chk_s hG
        refine wq_last (D := (dC, dI)) hx hb hK hP hD hS 1 1 rfl rfl h10 (Int32.toNatClampNeg w7) rfl (wcP qa cI cJ cZ (vp_updL w6 (Int32.toNatClampNeg w7) a1) w7) rfl dX2_add_39 (fun H locs hP hD hS => ?_)
        refine lv_aload_n hx hb dX2_add_40 rfl (lv_at hl 0 rfl) ?_
        refine lv_dup hx hb dX2_add_41 rfl ?_
        refine va_get (D := (dC, dI)) (ci := 2) (v := .int w7) (C := RX2) (T := TX2) (N := 2) hx hb hts hinX2 hown hK hP 0 rfl rfl 1 (by decide) k1 (fun _ h9 => h9) rfl dX2_add_42 ?_
        refine lv_iconst (v := 1) hx hb dX2_add_45 (by decide) ?_
        refine lv_iadd hx hb dX2_add_46 ?_
        refine va_put (D := (dC, dI)) (ci := 2) (v := .int (w7 + 1)) (ty := tyX2 1) (C := RX2) (T := TX2) (N := 2) hx hb hts hinX2 tyX2 tyX2_ok nmX2 hown hK hP hD hS 0 rfl rfl 1 (by decide) k1 (fun _ h9 => h9) rfl (tyX2_ok 1 (by decide)) rfl rfl (Nat.le_of_ble_eq_true rfl) dX2_add_47 (fun H locs hP hD hS => ?_)
        replace hP : va_P (dC, dI) vwCl (wcP qa cI cJ cZ (vp_updL w6 (Int32.toNatClampNeg w7) a1) (w7 + 1)) H := hP
        replace hD : va_D A (wcP qa cI cJ cZ (vp_updL w6 (Int32.toNatClampNeg w7) a1) (w7 + 1)) := hD
        obtain ⟨e0, e1⟩ := wq_j2 hG
        subst e0
        subst e1
        exact W.vret hx hb hr (fun t ht hW => ⟨⟨(), rfl, trivial, by rw [ht]; exact hP, hD⟩, hS.F ht⟩) hS.2.2 dX2_add_50
      · replace hG := wq_f c9 hG
        obtain ⟨e0, e1⟩ := wq_j2 hG
        subst e0
        subst e1
        exact W.vret hx hb hr (fun t ht hW => ⟨⟨(), rfl, trivial, by rw [ht]; exact hP, hD⟩, hS.F ht⟩) hS.2.2 dX2_add_29

theorem hdS_X6_beyondTrust : yX6_beyondTrust.cls ≠ "java/lang/invoke/MethodHandle" ∧ yX6_beyondTrust.cls ≠ "java/lang/invoke/VarHandle" ∧ (parseMethodDescriptor yX6_beyondTrust.desc).map (fun d => d.parameters.length) = some 2 := by decide +kernel
set_option maxHeartbeats 4000000 in
set_option maxRecDepth 100000 in
theorem C_X6_beyondTrust (l : Launch) (dC : Nat → ClassId) (dI : Nat → Nat → Nat) (cI cJ cZ : ClassId) (qa : Nat → Nat) (sz : Nat) (a0 : Int32) (a1 : Int32) (r0 : Int32) (hG : gX6_beyondTrust a0 a1 = some r0) : Met l yX6_beyondTrust wsX6_beyondTrust ({ frames := 1, cells := 0, slots := 0, locals := 21 } : Room) (va_Pc [.int a0, .int a1] (wq_pp (dC, dI) [(cI, .int), (cJ, .long), (cZ, .boolean)] ([]) sz)) (wq_Qi r0 wq_tr (va_A [] sz)) 0 0 (va_A [] sz) := by
  refine Met.ofW (cc := cX6_beyondTrust) (maxL := 2) (ret := (some .int)) (by decide) rfl ?_
  intro p e s m args below meth c s₁ B hml hv
  obtain ⟨rfl, hsz, hP, hK, hE⟩ := hv
  have hx := B.exec
  have hb := B.bytes
  have hr := B.returns
  have hts := atoms_spec (ws := wsX6_beyondTrust) B.pre
  have hown : s.vm.findClass RX6 = some m.cls := findClass_of_methodNamed B.named
  have hlocks := B.notSynchronized
  subst hsz
  generalize hAe : va_A [] s.heap.size = A at hE ⊢
  have hA : ∀ q : Nat, s.heap.size ≤ q → A q := fun q h => by rw [← hAe]; exact Or.inr h
  have hS : va_S A s.heap s.heap [] := va_S.rf
  have k1 := hts (.methodLink RX6 160 Lib.Math.max.name) (by decide +kernel)
  have k2 := hts (.static Lib.Math.max.name) (by decide +kernel)
  have k3 := hts (.initialized "java/lang/Math") (by decide +kernel)
  have k4 := hts (.code Lib.Math.max.name Lib.Math.max.code 2 (some .int)) (by decide +kernel)
  have hl := lv_entry ([.int a0, .int a1]) (n := 2) (Nat.le_of_ble_eq_true rfl)
  rw [lg_entry_eq]
  generalize (lg_sl ([.int a0, .int a1]) ++ List.replicate (2 - (lg_sl ([.int a0, .int a1])).length) Slot.unset).toArray = ls at hl ⊢
  have hl : lv_has ls 2 [(0, .int a0), (1, .int a1)] := hl
  unfold gX6_beyondTrust at hG
  refine lv_iconst (v := 0) hx hb dX6_beyondTrust_0 (by decide) ?_
  refine lv_iload_n hx hb dX6_beyondTrust_1 rfl (lv_at hl 0 rfl) ?_
  refine lv_iconst (v := 2) hx hb dX6_beyondTrust_2 (by decide) ?_
  refine lv_iload_n hx hb dX6_beyondTrust_3 rfl (lv_at hl 1 rfl) ?_
  refine lv_imul hx hb dX6_beyondTrust_4 ?_
  refine lv_isub hx hb dX6_beyondTrust_5 ?_
  refine va_mmax (x := 0) (y := (a0 - (2 * a1))) hx hb (hml.trans hl.1.symm) hown k1 k2 k3 k4 (Nat.le_of_ble_eq_true rfl) (Nat.le_of_ble_eq_true rfl) (Nat.zero_le _) (Nat.zero_le _) dX6_beyondTrust_6 ?_
  exact W.iret (v := (if 0 < (a0 - (2 * a1)) then (a0 - (2 * a1)) else 0)) hx hb hr (fun t ht hW => ⟨⟨(if 0 < (a0 - (2 * a1)) then (a0 - (2 * a1)) else 0), (), rfl, ⟨Option.some.inj hG, trivial⟩, trivial⟩, hS.F ht⟩) hS.2.2 dX6_beyondTrust_9

theorem hdS_X6_withinMinutes : yX6_withinMinutes.cls ≠ "java/lang/invoke/MethodHandle" ∧ yX6_withinMinutes.cls ≠ "java/lang/invoke/VarHandle" ∧ (parseMethodDescriptor yX6_withinMinutes.desc).map (fun d => d.parameters.length) = some 1 := by decide +kernel
set_option maxHeartbeats 4000000 in
set_option maxRecDepth 100000 in
theorem C_X6_withinMinutes (l : Launch) (dC : Nat → ClassId) (dI : Nat → Nat → Nat) (cI cJ cZ : ClassId) (qa : Nat → Nat) (sz : Nat) (a0 : Int32) (r0 : Int32) (hG : gX6_withinMinutes a0 = some r0) : Met l yX6_withinMinutes wsX6_withinMinutes ({ frames := 1, cells := 0, slots := 0, locals := 21 } : Room) (va_Pc [.int a0] (wq_pp (dC, dI) [(cI, .int), (cJ, .long), (cZ, .boolean)] ([]) sz)) (wq_Qi r0 wq_tr (va_A [] sz)) 0 0 (va_A [] sz) := by
  refine Met.ofW (cc := cX6_withinMinutes) (maxL := 1) (ret := (some .int)) (by decide) rfl ?_
  intro p e s m args below meth c s₁ B hml hv
  obtain ⟨rfl, hsz, hP, hK, hE⟩ := hv
  have hx := B.exec
  have hb := B.bytes
  have hr := B.returns
  have hts := atoms_spec (ws := wsX6_withinMinutes) B.pre
  have hown : s.vm.findClass RX6 = some m.cls := findClass_of_methodNamed B.named
  have hlocks := B.notSynchronized
  subst hsz
  generalize hAe : va_A [] s.heap.size = A at hE ⊢
  have hA : ∀ q : Nat, s.heap.size ≤ q → A q := fun q h => by rw [← hAe]; exact Or.inr h
  have hS : va_S A s.heap s.heap [] := va_S.rf
  have k1 := hts (.methodLink RX6 270 Lib.Math.min.name) (by decide +kernel)
  have k2 := hts (.static Lib.Math.min.name) (by decide +kernel)
  have k3 := hts (.initialized "java/lang/Math") (by decide +kernel)
  have k4 := hts (.code Lib.Math.min.name Lib.Math.min.code 2 (some .int)) (by decide +kernel)
  have k5 := hts (.methodLink RX6 160 Lib.Math.max.name) (by decide +kernel)
  have k6 := hts (.static Lib.Math.max.name) (by decide +kernel)
  have k7 := hts (.code Lib.Math.max.name Lib.Math.max.code 2 (some .int)) (by decide +kernel)
  have hl := lv_entry ([.int a0]) (n := 1) (Nat.le_of_ble_eq_true rfl)
  rw [lg_entry_eq]
  generalize (lg_sl ([.int a0]) ++ List.replicate (1 - (lg_sl ([.int a0])).length) Slot.unset).toArray = ls at hl ⊢
  have hl : lv_has ls 1 [(0, .int a0)] := hl
  unfold gX6_withinMinutes at hG
  refine lv_iconst (v := 0) hx hb dX6_withinMinutes_0 (by decide) ?_
  refine lv_bipush (v := 60) hx hb dX6_withinMinutes_1 (by decide) ?_
  refine lv_iload_n hx hb dX6_withinMinutes_3 rfl (lv_at hl 0 rfl) ?_
  refine va_mmin (x := 60) (y := a0) hx hb (hml.trans hl.1.symm) hown k1 k2 k3 k4 (Nat.le_of_ble_eq_true rfl) (Nat.le_of_ble_eq_true rfl) (Nat.zero_le _) (Nat.zero_le _) dX6_withinMinutes_4 ?_
  refine va_mmax (x := 0) (y := (if a0 < 60 then a0 else 60)) hx hb (hml.trans hl.1.symm) hown k5 k6 k3 k7 (Nat.le_of_ble_eq_true rfl) (Nat.le_of_ble_eq_true rfl) (Nat.zero_le _) (Nat.zero_le _) dX6_withinMinutes_7 ?_
  exact W.iret (v := (if 0 < (if a0 < 60 then a0 else 60) then (if a0 < 60 then a0 else 60) else 0)) hx hb hr (fun t ht hW => ⟨⟨(if 0 < (if a0 < 60 then a0 else 60) then (if a0 < 60 then a0 else 60) else 0), (), rfl, ⟨Option.some.inj hG, trivial⟩, trivial⟩, hS.F ht⟩) hS.2.2 dX6_withinMinutes_10

theorem hdV_X5_minutes : yX5_minutes.cls = RX5 ∧ yX5_minutes.cls ≠ "java/lang/invoke/MethodHandle" ∧ yX5_minutes.cls ≠ "java/lang/invoke/VarHandle" ∧ (parseMethodDescriptor yX5_minutes.desc).map (fun d => d.parameters.length) = some 4 := by decide +kernel
set_option maxHeartbeats 4000000 in
set_option maxRecDepth 100000 in
theorem C_X5_minutes (l : Launch) (dC : Nat → ClassId) (dI : Nat → Nat → Nat) (cI cJ cZ : ClassId) (qa : Nat → Nat) (sz : Nat) (t_tears : Nat → Int32) (t_gains : Nat → Int32) (t_likings : Nat → Int32) (t_settings : Nat → Int32) (t_goodbyes : Int32) (t_women : Int32) (a1 : Int32) (a2 : Int32) (a3 : Int32) (a4 : Int32) (r0 : Int32) (hG : gX5_minutes t_tears t_settings t_goodbyes a1 a2 a3 a4 = some r0) : Met l yX5_minutes wsX5_minutes ({ frames := 2, cells := 0, slots := 0, locals := 42 } : Room) (va_Pc [.ref (qa 16), .int a1, .int a2, .int a3, .int a4] (wq_pp (dC, dI) [(cI, .int), (cJ, .long), (cZ, .boolean)] (wcT qa cI cJ cZ t_tears t_gains t_likings t_settings t_goodbyes t_women) sz)) (wq_Qi r0 wq_tr (va_A [] sz)) 0 0 (va_A [] sz) := by
  refine Met.ofW (cc := cX5_minutes) (maxL := 5) (ret := (some .int)) (by decide) rfl ?_
  intro p e s m args below meth c s₁ B hml hv
  obtain ⟨rfl, hsz, hP, hK, hE⟩ := hv
  have hx := B.exec
  have hb := B.bytes
  have hr := B.returns
  have hts := atoms_spec (ws := wsX5_minutes) B.pre
  have hown : s.vm.findClass RX5 = some m.cls := findClass_of_methodNamed B.named
  have hlocks := B.notSynchronized
  subst hsz
  generalize hAe : va_A [] s.heap.size = A at hE ⊢
  have hA : ∀ q : Nat, s.heap.size ≤ q → A q := fun q h => by rw [← hAe]; exact Or.inr h
  have hS : va_S A s.heap s.heap [] := va_S.rf
  have k1 := hts (.initialized RX6) (by decide +kernel)
  have k2 := hts (.static yX6_beyondTrust) (by decide +kernel)
  have k3 := hts (.static yX6_withinMinutes) (by decide +kernel)
  have hl := lv_entry ([.ref (qa 16), .int a1, .int a2, .int a3, .int a4]) (n := 5) (Nat.le_of_ble_eq_true rfl)
  rw [lg_entry_eq]
  generalize (lg_sl ([.ref (qa 16), .int a1, .int a2, .int a3, .int a4]) ++ List.replicate (5 - (lg_sl ([.ref (qa 16), .int a1, .int a2, .int a3, .int a4])).length) Slot.unset).toArray = ls at hl ⊢
  have hl : lv_has ls 5 [(0, .ref (qa 16)), (1, .int a1), (2, .int a2), (3, .int a3), (4, .int a4)] := hl
  unfold gX5_minutes at hG
  refine lv_aload_n hx hb dX5_minutes_0 rfl (lv_at hl 0 rfl) ?_
  refine lv_iload_n hx hb dX5_minutes_1 rfl (lv_at hl 1 rfl) ?_
  obtain ⟨v2, g1, hG⟩ := wq_b1_s hG
  refine wq_ci (v := v2) (B := wq_tr) (va_runV (As := [.int a1]) (rest := []) ⟨hx, hb, hml, hown, hts⟩ (C_X5_tearsOf l dC dI cI cJ cZ qa s.heap.size t_tears t_gains t_likings t_settings t_goodbyes t_women a1 v2 g1) (cwV 1 hts gX5_minutes_X5_tearsOf rfl rfl rfl hdV_X5_tearsOf ⟨Nat.le_of_ble_eq_true rfl, Nat.le_of_ble_eq_true rfl⟩) (wq_ppV hK hP hE hS hA (ci := 5) (q0 := 0) rfl rfl) rfl rfl hl.1 rfl (lv_room (Nat.le_of_ble_eq_true rfl)) dX5_minutes_2 ⟨Nat.zero_le _, Nat.zero_le _⟩) hS hA (fun H locs b3 hk hS => ?_)
  replace hP := wq_kp hP hk
  clear hk
  refine lv_aload_n hx hb dX5_minutes_5 rfl (lv_at hl 0 rfl) ?_
  refine lv_iconst (v := 0) hx hb dX5_minutes_6 (by decide) ?_
  obtain ⟨v5, g4, hG⟩ := wq_b1_s hG
  refine wq_ci (v := v5) (B := wq_tr) (va_runV (As := [.int 0]) (rest := [.int v2]) ⟨hx, hb, hml, hown, hts⟩ (C_X5_setting l dC dI cI cJ cZ qa H.size t_tears t_gains t_likings t_settings t_goodbyes t_women 0 v5 g4) (cwV 1 hts gX5_minutes_X5_setting rfl rfl rfl hdV_X5_setting ⟨Nat.le_of_ble_eq_true rfl, Nat.le_of_ble_eq_true rfl⟩) (wq_ppV hK hP hE hS hA (ci := 5) (q0 := 0) rfl rfl) rfl rfl hl.1 rfl (lv_room (Nat.le_of_ble_eq_true rfl)) dX5_minutes_7 ⟨Nat.zero_le _, Nat.zero_le _⟩) hS hA (fun H locs b6 hk hS => ?_)
  replace hP := wq_kp hP hk
  clear hk
  refine lv_iload_n hx hb dX5_minutes_10 rfl (lv_at hl 3 rfl) ?_
  refine lv_iload_n hx hb dX5_minutes_11 rfl (lv_at hl 2 rfl) ?_
  obtain ⟨v8, g7, hG⟩ := wq_b1_s hG
  refine wq_ci (v := v8) (B := wq_tr) (va_runSN (As := [.int a3, .int a2]) (rest := [.int v5, .int v2]) ⟨hx, hb, hml, hown, hts⟩ (C_X6_beyondTrust l dC dI cI cJ cZ qa H.size  a3 a2 v8 g7) ⟨va_cnB 2 hts gX5_minutes_X6_beyondTrust_n53 rfl rfl rfl hE.1.2.2.2.2.2.2.2.1 k1 hdS_X6_beyondTrust ⟨Nat.le_of_ble_eq_true rfl, Nat.le_of_ble_eq_true rfl⟩, k2, trivial⟩ (wq_ppS hK (hP.sub (ws' := []) [] rfl) hE hS hA) rfl rfl hl.1 rfl (lv_room (Nat.le_of_ble_eq_true rfl)) dX5_minutes_12 ⟨Nat.zero_le _, Nat.zero_le _⟩) hS hA (fun H locs b9 hk hS => ?_)
  replace hP := wq_kp hP hk
  clear hk
  refine lv_imul hx hb dX5_minutes_15 ?_
  refine lv_iadd hx hb dX5_minutes_16 ?_
  refine lv_iload hx hb dX5_minutes_17 (lv_at hl 4 rfl) ?_
  refine lv_isub hx hb dX5_minutes_19 ?_
  obtain ⟨v11, g10, hG⟩ := wq_b1_s hG
  refine wq_ci (v := v11) (B := wq_tr) (va_runSN (As := [.int ((v2 + (v5 * v8)) - a4)]) (rest := []) ⟨hx, hb, hml, hown, hts⟩ (C_X6_withinMinutes l dC dI cI cJ cZ qa H.size  ((v2 + (v5 * v8)) - a4) v11 g10) ⟨va_cnB 1 hts gX5_minutes_X6_withinMinutes_n57 rfl rfl rfl hE.1.2.2.2.2.2.2.2.2.1 k1 hdS_X6_withinMinutes ⟨Nat.le_of_ble_eq_true rfl, Nat.le_of_ble_eq_true rfl⟩, k3, trivial⟩ (wq_ppS hK (hP.sub (ws' := []) [] rfl) hE hS hA) rfl rfl hl.1 rfl (lv_room (Nat.le_of_ble_eq_true rfl)) dX5_minutes_20 ⟨Nat.zero_le _, Nat.zero_le _⟩) hS hA (fun H locs b12 hk hS => ?_)
  replace hP := wq_kp hP hk
  clear hk
  exact W.iret (v := v11) hx hb hr (fun t ht hW => ⟨⟨v11, (), rfl, ⟨Option.some.inj hG, trivial⟩, trivial⟩, hS.F ht⟩) hS.2.2 dX5_minutes_23

theorem hdV_X6_minutesNow : yX6_minutesNow.cls = RX6 ∧ yX6_minutesNow.cls ≠ "java/lang/invoke/MethodHandle" ∧ yX6_minutesNow.cls ≠ "java/lang/invoke/VarHandle" ∧ (parseMethodDescriptor yX6_minutesNow.desc).map (fun d => d.parameters.length) = some 3 := by decide +kernel
set_option maxHeartbeats 4000000 in
set_option maxRecDepth 100000 in
theorem C_X6_minutesNow (l : Launch) (dC : Nat → ClassId) (dI : Nat → Nat → Nat) (cI cJ cZ : ClassId) (qa : Nat → Nat) (sz : Nat) (r_images : Nat → Int64) (r_asked : Int64) (n_likings : Nat → Int32) (n_day : Int32) (n_trust : Int32) (n_ill : Int32) (n_done : Int32) (t_tears : Nat → Int32) (t_gains : Nat → Int32) (t_likings : Nat → Int32) (t_settings : Nat → Int32) (t_goodbyes : Int32) (t_women : Int32) (a1 : Int32) (a2 : Int32) (a3 : Int32) (r0 : Int32) (hG : gX6_minutesNow n_likings n_trust t_tears t_settings t_goodbyes a1 a2 a3 = some r0) : Met l yX6_minutesNow wsX6_minutesNow ({ frames := 3, cells := 0, slots := 0, locals := 66 } : Room) (va_Pc [.ref (qa 0), .int a1, .int a2, .int a3] (wq_pp (dC, dI) [(cI, .int), (cJ, .long), (cZ, .boolean)] (wcRNT qa cI cJ cZ r_images r_asked n_likings n_day n_trust n_ill n_done t_tears t_gains t_likings t_settings t_goodbyes t_women) sz)) (wq_Qi r0 wq_tr (va_A [] sz)) 0 0 (va_A [] sz) := by
  refine Met.ofW (cc := cX6_minutesNow) (maxL := 4) (ret := (some .int)) (by decide) rfl ?_
  intro p e s m args below meth c s₁ B hml hv
  obtain ⟨rfl, hsz, hP, hK, hE⟩ := hv
  have hx := B.exec
  have hb := B.bytes
  have hr := B.returns
  have hts := atoms_spec (ws := wsX6_minutesNow) B.pre
  have hown : s.vm.findClass RX6 = some m.cls := findClass_of_methodNamed B.named
  have hlocks := B.notSynchronized
  subst hsz
  generalize hAe : va_A [] s.heap.size = A at hE ⊢
  have hA : ∀ q : Nat, s.heap.size ≤ q → A q := fun q h => by rw [← hAe]; exact Or.inr h
  have hS : va_S A s.heap s.heap [] := va_S.rf
  have hinX6 : ∀ w ∈ u_ws RX6 TX6 9, w ∈ wsX6_minutesNow := by decide +kernel
  have hinX0 : ∀ w ∈ u_ws RX0 TX0 5, w ∈ wsX6_minutesNow := by decide +kernel
  have k1 := hts (.fieldLink RX6 53 "DoorMornings" "told" "LDoorMornings$Told;") (by decide +kernel)
  have k2 := hts (.fieldLink RX6 19 "DoorMornings" "today" "LDoorMornings$Now;") (by decide +kernel)
  have k3 := hts (.fieldLink RX6 113 "DoorMornings$Now" "trust" "I") (by decide +kernel)
  have hl := lv_entry ([.ref (qa 0), .int a1, .int a2, .int a3]) (n := 4) (Nat.le_of_ble_eq_true rfl)
  rw [lg_entry_eq]
  generalize (lg_sl ([.ref (qa 0), .int a1, .int a2, .int a3]) ++ List.replicate (4 - (lg_sl ([.ref (qa 0), .int a1, .int a2, .int a3])).length) Slot.unset).toArray = ls at hl ⊢
  have hl : lv_has ls 4 [(0, .ref (qa 0)), (1, .int a1), (2, .int a2), (3, .int a3)] := hl
  unfold gX6_minutesNow at hG
  refine lv_aload_n hx hb dX6_minutesNow_0 rfl (lv_at hl 0 rfl) ?_
  refine va_get (D := (dC, dI)) (ci := 6) (v := .ref (qa 16)) (C := RX6) (T := TX6) (N := 9) hx hb hts hinX6 hown hK hP 0 rfl rfl 6 (by decide) k1 (fun _ h9 => h9) rfl dX6_minutesNow_1 ?_
  refine lv_iload_n hx hb dX6_minutesNow_4 rfl (lv_at hl 1 rfl) ?_
  refine lv_aload_n hx hb dX6_minutesNow_5 rfl (lv_at hl 0 rfl) ?_
  refine va_get (D := (dC, dI)) (ci := 6) (v := .ref (qa 3)) (C := RX6) (T := TX6) (N := 9) hx hb hts hinX6 hown hK hP 0 rfl rfl 1 (by decide) k2 (fun _ h9 => h9) rfl dX6_minutesNow_6 ?_
  refine va_get (D := (dC, dI)) (ci := 0) (v := .int n_trust) (C := RX0) (T := TX0) (N := 5) hx hb hts hinX0 hown hK hP 2 rfl rfl 2 (by decide) k3 (fun _ h9 => h9) rfl dX6_minutesNow_9 ?_
  refine lv_iload_n hx hb dX6_minutesNow_12 rfl (lv_at hl 2 rfl) ?_
  refine lv_aload_n hx hb dX6_minutesNow_13 rfl (lv_at hl 0 rfl) ?_
  refine va_get (D := (dC, dI)) (ci := 6) (v := .ref (qa 3)) (C := RX6) (T := TX6) (N := 9) hx hb hts hinX6 hown hK hP 0 rfl rfl 1 (by decide) k2 (fun _ h9 => h9) rfl dX6_minutesNow_14 ?_
  refine lv_iload_n hx hb dX6_minutesNow_17 rfl (lv_at hl 3 rfl) ?_
  obtain ⟨v2, g1, hG⟩ := wq_b1_s hG
  refine wq_ci (v := v2) (B := wq_tr) (va_runV (As := [.int a3]) (rest := [.int a2, .int n_trust, .int a1, .ref (qa 16)]) ⟨hx, hb, hml, hown, hts⟩ (C_X0_likingOf l dC dI cI cJ cZ qa s.heap.size n_likings n_day n_trust n_ill n_done a3 v2 g1) (cwV 1 hts gX6_minutesNow_X0_likingOf rfl rfl rfl hdV_X0_likingOf ⟨Nat.le_of_ble_eq_true rfl, Nat.le_of_ble_eq_true rfl⟩) (wq_ppV hK (hP.sub (ws' := wcN qa cI cJ cZ n_likings n_day n_trust n_ill n_done) [2, 3] rfl) hE hS hA (ci := 0) (q0 := 0) rfl rfl) rfl rfl hl.1 rfl (lv_room (Nat.le_of_ble_eq_true rfl)) dX6_minutesNow_18 ⟨Nat.zero_le _, Nat.zero_le _⟩) hS hA (fun H locs b3 hk hS => ?_)
  replace hP := wq_kp hP hk
  clear hk
  obtain ⟨v5, g4, hG⟩ := wq_b1_s hG
  refine wq_ci (v := v5) (B := wq_tr) (va_runV (As := [.int a1, .int n_trust, .int a2, .int v2]) (rest := []) ⟨hx, hb, hml, hown, hts⟩ (C_X5_minutes l dC dI cI cJ cZ qa H.size t_tears t_gains t_likings t_settings t_goodbyes t_women a1 n_trust a2 v2 v5 g4) (cwV 4 hts gX6_minutesNow_X5_minutes rfl rfl rfl hdV_X5_minutes ⟨Nat.le_of_ble_eq_true rfl, Nat.le_of_ble_eq_true rfl⟩) (wq_ppV hK (hP.sub (ws' := wcT qa cI cJ cZ t_tears t_gains t_likings t_settings t_goodbyes t_women) [4, 5, 6, 7, 8] rfl) hE hS hA (ci := 5) (q0 := 0) rfl rfl) rfl rfl hl.1 rfl (lv_room (Nat.le_of_ble_eq_true rfl)) dX6_minutesNow_21 ⟨Nat.zero_le _, Nat.zero_le _⟩) hS hA (fun H locs b6 hk hS => ?_)
  replace hP := wq_kp hP hk
  clear hk
  exact W.iret (v := v5) hx hb hr (fun t ht hW => ⟨⟨v5, (), rfl, ⟨Option.some.inj hG, trivial⟩, trivial⟩, hS.F ht⟩) hS.2.2 dX6_minutesNow_24

theorem hdV_X5_isCalm : yX5_isCalm.cls = RX5 ∧ yX5_isCalm.cls ≠ "java/lang/invoke/MethodHandle" ∧ yX5_isCalm.cls ≠ "java/lang/invoke/VarHandle" ∧ (parseMethodDescriptor yX5_isCalm.desc).map (fun d => d.parameters.length) = some 1 := by decide +kernel
set_option maxHeartbeats 4000000 in
set_option maxRecDepth 100000 in
theorem C_X5_isCalm (l : Launch) (dC : Nat → ClassId) (dI : Nat → Nat → Nat) (cI cJ cZ : ClassId) (qa : Nat → Nat) (sz : Nat) (t_tears : Nat → Int32) (t_gains : Nat → Int32) (t_likings : Nat → Int32) (t_settings : Nat → Int32) (t_goodbyes : Int32) (t_women : Int32) (a1 : Int32) (r0 : Int32) (hG : gX5_isCalm t_settings a1 = some r0) : Met l yX5_isCalm wsX5_isCalm ({ frames := 1, cells := 0, slots := 0, locals := 21 } : Room) (va_Pc [.ref (qa 16), .int a1] (wq_pp (dC, dI) [(cI, .int), (cJ, .long), (cZ, .boolean)] (wcT qa cI cJ cZ t_tears t_gains t_likings t_settings t_goodbyes t_women) sz)) (wq_Qi r0 wq_Z1 (va_A [] sz)) 0 0 (va_A [] sz) := by
  refine Met.ofW (cc := cX5_isCalm) (maxL := 2) (ret := (some .boolean)) (by decide) rfl ?_
  intro p e s m args below meth c s₁ B hml hv
  obtain ⟨rfl, hsz, hP, hK, hE⟩ := hv
  have hx := B.exec
  have hb := B.bytes
  have hr := B.returns
  have hts := atoms_spec (ws := wsX5_isCalm) B.pre
  have hown : s.vm.findClass RX5 = some m.cls := findClass_of_methodNamed B.named
  have hlocks := B.notSynchronized
  subst hsz
  generalize hAe : va_A [] s.heap.size = A at hE ⊢
  have hA : ∀ q : Nat, s.heap.size ≤ q → A q := fun q h => by rw [← hAe]; exact Or.inr h
  have hS : va_S A s.heap s.heap [] := va_S.rf
  have hl := lv_entry ([.ref (qa 16), .int a1]) (n := 2) (Nat.le_of_ble_eq_true rfl)
  rw [lg_entry_eq]
  generalize (lg_sl ([.ref (qa 16), .int a1]) ++ List.replicate (2 - (lg_sl ([.ref (qa 16), .int a1])).length) Slot.unset).toArray = ls at hl ⊢
  have hl : lv_has ls 2 [(0, .ref (qa 16)), (1, .int a1)] := hl
  unfold gX5_isCalm at hG
  refine lv_iload_n hx hb dX5_isCalm_0 rfl (lv_at hl 1 rfl) ?_
  refine lv_aload_n hx hb dX5_isCalm_1 rfl (lv_at hl 0 rfl) ?_
  refine lv_iconst (v := 1) hx hb dX5_isCalm_2 (by decide) ?_
  obtain ⟨v2, g1, hG⟩ := wq_b1_s hG
  refine wq_ci (v := v2) (B := wq_tr) (va_runV (As := [.int 1]) (rest := [.int a1]) ⟨hx, hb, hml, hown, hts⟩ (C_X5_setting l dC dI cI cJ cZ qa s.heap.size t_tears t_gains t_likings t_settings t_goodbyes t_women 1 v2 g1) (cwV 1 hts gX5_isCalm_X5_setting rfl rfl rfl hdV_X5_setting ⟨Nat.le_of_ble_eq_true rfl, Nat.le_of_ble_eq_true rfl⟩) (wq_ppV hK hP hE hS hA (ci := 5) (q0 := 0) rfl rfl) rfl rfl hl.1 rfl (lv_room (Nat.le_of_ble_eq_true rfl)) dX5_isCalm_3 ⟨Nat.zero_le _, Nat.zero_le _⟩) hS hA (fun H locs b3 hk hS => ?_)
  replace hP := wq_kp hP hk
  clear hk
  refine lv_icmp_gt (tgt := 13) hx hb dX5_isCalm_6 (by decide) (fun c4 => ?_) (fun c4 => ?_)
  · replace hG := wq_t c4 hG
    refine lv_iconst (v := 0) hx hb dX5_isCalm_13 (by decide) ?_
    exact W.zret (v := 0) hx hb hr (wq_Z1_n (Or.inl rfl)) (fun t ht hW => ⟨⟨0, (), rfl, ⟨Option.some.inj hG, (Or.inl rfl)⟩, trivial⟩, hS.F ht⟩) hS.2.2 dX5_isCalm_14
  · replace hG := wq_f c4 hG
    refine lv_iconst (v := 1) hx hb dX5_isCalm_9 (by decide) ?_
    refine lv_goto (tgt := 14) hx hb dX5_isCalm_10 (by decide) ?_
    exact W.zret (v := 1) hx hb hr (wq_Z1_n (Or.inr rfl)) (fun t ht hW => ⟨⟨1, (), rfl, ⟨Option.some.inj hG, (Or.inr rfl)⟩, trivial⟩, hS.F ht⟩) hS.2.2 dX5_isCalm_14

theorem hdV_X5_calmerTrust : yX5_calmerTrust.cls = RX5 ∧ yX5_calmerTrust.cls ≠ "java/lang/invoke/MethodHandle" ∧ yX5_calmerTrust.cls ≠ "java/lang/invoke/VarHandle" ∧ (parseMethodDescriptor yX5_calmerTrust.desc).map (fun d => d.parameters.length) = some 2 := by decide +kernel
set_option maxHeartbeats 4000000 in
set_option maxRecDepth 100000 in
theorem C_X5_calmerTrust (l : Launch) (dC : Nat → ClassId) (dI : Nat → Nat → Nat) (cI cJ cZ : ClassId) (qa : Nat → Nat) (sz : Nat) (t_tears : Nat → Int32) (t_gains : Nat → Int32) (t_likings : Nat → Int32) (t_settings : Nat → Int32) (t_goodbyes : Int32) (t_women : Int32) (a1 : Int32) (a2 : Int32) (r0 : Int32) (hG : gX5_calmerTrust t_gains t_goodbyes a1 a2 = some r0) : Met l yX5_calmerTrust wsX5_calmerTrust ({ frames := 2, cells := 0, slots := 0, locals := 42 } : Room) (va_Pc [.ref (qa 16), .int a1, .int a2] (wq_pp (dC, dI) [(cI, .int), (cJ, .long), (cZ, .boolean)] (wcT qa cI cJ cZ t_tears t_gains t_likings t_settings t_goodbyes t_women) sz)) (wq_Qi r0 wq_tr (va_A [] sz)) 0 0 (va_A [] sz) := by
  refine Met.ofW (cc := cX5_calmerTrust) (maxL := 3) (ret := (some .int)) (by decide) rfl ?_
  intro p e s m args below meth c s₁ B hml hv
  obtain ⟨rfl, hsz, hP, hK, hE⟩ := hv
  have hx := B.exec
  have hb := B.bytes
  have hr := B.returns
  have hts := atoms_spec (ws := wsX5_calmerTrust) B.pre
  have hown : s.vm.findClass RX5 = some m.cls := findClass_of_methodNamed B.named
  have hlocks := B.notSynchronized
  subst hsz
  generalize hAe : va_A [] s.heap.size = A at hE ⊢
  have hA : ∀ q : Nat, s.heap.size ≤ q → A q := fun q h => by rw [← hAe]; exact Or.inr h
  have hS : va_S A s.heap s.heap [] := va_S.rf
  have k1 := hts (.methodLink RX5 80 Lib.Math.min.name) (by decide +kernel)
  have k2 := hts (.static Lib.Math.min.name) (by decide +kernel)
  have k3 := hts (.initialized "java/lang/Math") (by decide +kernel)
  have k4 := hts (.code Lib.Math.min.name Lib.Math.min.code 2 (some .int)) (by decide +kernel)
  have hl := lv_entry ([.ref (qa 16), .int a1, .int a2]) (n := 3) (Nat.le_of_ble_eq_true rfl)
  rw [lg_entry_eq]
  generalize (lg_sl ([.ref (qa 16), .int a1, .int a2]) ++ List.replicate (3 - (lg_sl ([.ref (qa 16), .int a1, .int a2])).length) Slot.unset).toArray = ls at hl ⊢
  have hl : lv_has ls 3 [(0, .ref (qa 16)), (1, .int a1), (2, .int a2)] := hl
  unfold gX5_calmerTrust at hG
  refine lv_bipush (v := 24) hx hb dX5_calmerTrust_0 (by decide) ?_
  refine lv_iload_n hx hb dX5_calmerTrust_2 rfl (lv_at hl 2 rfl) ?_
  refine lv_aload_n hx hb dX5_calmerTrust_3 rfl (lv_at hl 0 rfl) ?_
  refine lv_iload_n hx hb dX5_calmerTrust_4 rfl (lv_at hl 1 rfl) ?_
  obtain ⟨v2, g1, hG⟩ := wq_b1_s hG
  refine wq_ci (v := v2) (B := wq_tr) (va_runV (As := [.int a1]) (rest := [.int a2, .int 24]) ⟨hx, hb, hml, hown, hts⟩ (C_X5_gainOf l dC dI cI cJ cZ qa s.heap.size t_tears t_gains t_likings t_settings t_goodbyes t_women a1 v2 g1) (cwV 1 hts gX5_calmerTrust_X5_gainOf rfl rfl rfl hdV_X5_gainOf ⟨Nat.le_of_ble_eq_true rfl, Nat.le_of_ble_eq_true rfl⟩) (wq_ppV hK hP hE hS hA (ci := 5) (q0 := 0) rfl rfl) rfl rfl hl.1 rfl (lv_room (Nat.le_of_ble_eq_true rfl)) dX5_calmerTrust_5 ⟨Nat.zero_le _, Nat.zero_le _⟩) hS hA (fun H locs b3 hk hS => ?_)
  replace hP := wq_kp hP hk
  clear hk
  refine lv_iadd hx hb dX5_calmerTrust_8 ?_
  refine va_mmin (x := 24) (y := (a2 + v2)) hx hb (hml.trans hl.1.symm) hown k1 k2 k3 k4 (Nat.le_of_ble_eq_true rfl) (Nat.le_of_ble_eq_true rfl) (Nat.zero_le _) (Nat.zero_le _) dX5_calmerTrust_9 ?_
  exact W.iret (v := (if (a2 + v2) < 24 then (a2 + v2) else 24)) hx hb hr (fun t ht hW => ⟨⟨(if (a2 + v2) < 24 then (a2 + v2) else 24), (), rfl, ⟨Option.some.inj hG, trivial⟩, trivial⟩, hS.F ht⟩) hS.2.2 dX5_calmerTrust_12

theorem hdV_X5_isWild : yX5_isWild.cls = RX5 ∧ yX5_isWild.cls ≠ "java/lang/invoke/MethodHandle" ∧ yX5_isWild.cls ≠ "java/lang/invoke/VarHandle" ∧ (parseMethodDescriptor yX5_isWild.desc).map (fun d => d.parameters.length) = some 1 := by decide +kernel
set_option maxHeartbeats 4000000 in
set_option maxRecDepth 100000 in
theorem C_X5_isWild (l : Launch) (dC : Nat → ClassId) (dI : Nat → Nat → Nat) (cI cJ cZ : ClassId) (qa : Nat → Nat) (sz : Nat) (t_tears : Nat → Int32) (t_gains : Nat → Int32) (t_likings : Nat → Int32) (t_settings : Nat → Int32) (t_goodbyes : Int32) (t_women : Int32) (a1 : Int32) (r0 : Int32) (hG : gX5_isWild t_settings a1 = some r0) : Met l yX5_isWild wsX5_isWild ({ frames := 1, cells := 0, slots := 0, locals := 21 } : Room) (va_Pc [.ref (qa 16), .int a1] (wq_pp (dC, dI) [(cI, .int), (cJ, .long), (cZ, .boolean)] (wcT qa cI cJ cZ t_tears t_gains t_likings t_settings t_goodbyes t_women) sz)) (wq_Qi r0 wq_Z1 (va_A [] sz)) 0 0 (va_A [] sz) := by
  refine Met.ofW (cc := cX5_isWild) (maxL := 2) (ret := (some .boolean)) (by decide) rfl ?_
  intro p e s m args below meth c s₁ B hml hv
  obtain ⟨rfl, hsz, hP, hK, hE⟩ := hv
  have hx := B.exec
  have hb := B.bytes
  have hr := B.returns
  have hts := atoms_spec (ws := wsX5_isWild) B.pre
  have hown : s.vm.findClass RX5 = some m.cls := findClass_of_methodNamed B.named
  have hlocks := B.notSynchronized
  subst hsz
  generalize hAe : va_A [] s.heap.size = A at hE ⊢
  have hA : ∀ q : Nat, s.heap.size ≤ q → A q := fun q h => by rw [← hAe]; exact Or.inr h
  have hS : va_S A s.heap s.heap [] := va_S.rf
  have hl := lv_entry ([.ref (qa 16), .int a1]) (n := 2) (Nat.le_of_ble_eq_true rfl)
  rw [lg_entry_eq]
  generalize (lg_sl ([.ref (qa 16), .int a1]) ++ List.replicate (2 - (lg_sl ([.ref (qa 16), .int a1])).length) Slot.unset).toArray = ls at hl ⊢
  have hl : lv_has ls 2 [(0, .ref (qa 16)), (1, .int a1)] := hl
  unfold gX5_isWild at hG
  refine lv_iload_n hx hb dX5_isWild_0 rfl (lv_at hl 1 rfl) ?_
  refine lv_aload_n hx hb dX5_isWild_1 rfl (lv_at hl 0 rfl) ?_
  refine lv_iconst (v := 2) hx hb dX5_isWild_2 (by decide) ?_
  obtain ⟨v2, g1, hG⟩ := wq_b1_s hG
  refine wq_ci (v := v2) (B := wq_tr) (va_runV (As := [.int 2]) (rest := [.int a1]) ⟨hx, hb, hml, hown, hts⟩ (C_X5_setting l dC dI cI cJ cZ qa s.heap.size t_tears t_gains t_likings t_settings t_goodbyes t_women 2 v2 g1) (cwV 1 hts gX5_isWild_X5_setting rfl rfl rfl hdV_X5_setting ⟨Nat.le_of_ble_eq_true rfl, Nat.le_of_ble_eq_true rfl⟩) (wq_ppV hK hP hE hS hA (ci := 5) (q0 := 0) rfl rfl) rfl rfl hl.1 rfl (lv_room (Nat.le_of_ble_eq_true rfl)) dX5_isWild_3 ⟨Nat.zero_le _, Nat.zero_le _⟩) hS hA (fun H locs b3 hk hS => ?_)
  replace hP := wq_kp hP hk
  clear hk
  refine lv_icmp_lt (tgt := 13) hx hb dX5_isWild_6 (by decide) (fun c4 => ?_) (fun c4 => ?_)
  · replace hG := wq_t c4 hG
    refine lv_iconst (v := 0) hx hb dX5_isWild_13 (by decide) ?_
    exact W.zret (v := 0) hx hb hr (wq_Z1_n (Or.inl rfl)) (fun t ht hW => ⟨⟨0, (), rfl, ⟨Option.some.inj hG, (Or.inl rfl)⟩, trivial⟩, hS.F ht⟩) hS.2.2 dX5_isWild_14
  · replace hG := wq_f c4 hG
    refine lv_iconst (v := 1) hx hb dX5_isWild_9 (by decide) ?_
    refine lv_goto (tgt := 14) hx hb dX5_isWild_10 (by decide) ?_
    exact W.zret (v := 1) hx hb hr (wq_Z1_n (Or.inr rfl)) (fun t ht hW => ⟨⟨1, (), rfl, ⟨Option.some.inj hG, (Or.inr rfl)⟩, trivial⟩, hS.F ht⟩) hS.2.2 dX5_isWild_14

theorem hdV_X5_trustAfter : yX5_trustAfter.cls = RX5 ∧ yX5_trustAfter.cls ≠ "java/lang/invoke/MethodHandle" ∧ yX5_trustAfter.cls ≠ "java/lang/invoke/VarHandle" ∧ (parseMethodDescriptor yX5_trustAfter.desc).map (fun d => d.parameters.length) = some 3 := by decide +kernel
set_option maxHeartbeats 4000000 in
set_option maxRecDepth 100000 in
theorem C_X5_trustAfter (l : Launch) (dC : Nat → ClassId) (dI : Nat → Nat → Nat) (cI cJ cZ : ClassId) (qa : Nat → Nat) (sz : Nat) (t_tears : Nat → Int32) (t_gains : Nat → Int32) (t_likings : Nat → Int32) (t_settings : Nat → Int32) (t_goodbyes : Int32) (t_women : Int32) (a1 : Int32) (a2 : Int32) (a3 : Int32) (r0 : Int32) (hG : gX5_trustAfter t_gains t_settings t_goodbyes a1 a2 a3 = some r0) : Met l yX5_trustAfter wsX5_trustAfter ({ frames := 3, cells := 0, slots := 0, locals := 64 } : Room) (va_Pc [.ref (qa 16), .int a1, .int a2, .int a3] (wq_pp (dC, dI) [(cI, .int), (cJ, .long), (cZ, .boolean)] (wcT qa cI cJ cZ t_tears t_gains t_likings t_settings t_goodbyes t_women) sz)) (wq_Qi r0 wq_tr (va_A [] sz)) 0 0 (va_A [] sz) := by
  refine Met.ofW (cc := cX5_trustAfter) (maxL := 4) (ret := (some .int)) (by decide) rfl ?_
  intro p e s m args below meth c s₁ B hml hv
  obtain ⟨rfl, hsz, hP, hK, hE⟩ := hv
  have hx := B.exec
  have hb := B.bytes
  have hr := B.returns
  have hts := atoms_spec (ws := wsX5_trustAfter) B.pre
  have hown : s.vm.findClass RX5 = some m.cls := findClass_of_methodNamed B.named
  have hlocks := B.notSynchronized
  subst hsz
  generalize hAe : va_A [] s.heap.size = A at hE ⊢
  have hA : ∀ q : Nat, s.heap.size ≤ q → A q := fun q h => by rw [← hAe]; exact Or.inr h
  have hS : va_S A s.heap s.heap [] := va_S.rf
  have k1 := hts (.methodLink RX5 69 Lib.Math.max.name) (by decide +kernel)
  have k2 := hts (.static Lib.Math.max.name) (by decide +kernel)
  have k3 := hts (.initialized "java/lang/Math") (by decide +kernel)
  have k4 := hts (.code Lib.Math.max.name Lib.Math.max.code 2 (some .int)) (by decide +kernel)
  have hl := lv_entry ([.ref (qa 16), .int a1, .int a2, .int a3]) (n := 4) (Nat.le_of_ble_eq_true rfl)
  rw [lg_entry_eq]
  generalize (lg_sl ([.ref (qa 16), .int a1, .int a2, .int a3]) ++ List.replicate (4 - (lg_sl ([.ref (qa 16), .int a1, .int a2, .int a3])).length) Slot.unset).toArray = ls at hl ⊢
  have hl : lv_has ls 4 [(0, .ref (qa 16)), (1, .int a1), (2, .int a2), (3, .int a3)] := hl
  unfold gX5_trustAfter at hG
  refine lv_aload_n hx hb dX5_trustAfter_0 rfl (lv_at hl 0 rfl) ?_
  refine lv_iload_n hx hb dX5_trustAfter_1 rfl (lv_at hl 3 rfl) ?_
  obtain ⟨v2, g1, hG⟩ := wq_b1_s hG
  refine wq_ci (v := v2) (B := wq_Z1) (va_runV (As := [.int a3]) (rest := []) ⟨hx, hb, hml, hown, hts⟩ (C_X5_isCalm l dC dI cI cJ cZ qa s.heap.size t_tears t_gains t_likings t_settings t_goodbyes t_women a3 v2 g1) (cwV 1 hts gX5_trustAfter_X5_isCalm rfl rfl rfl hdV_X5_isCalm ⟨Nat.le_of_ble_eq_true rfl, Nat.le_of_ble_eq_true rfl⟩) (wq_ppV hK hP hE hS hA (ci := 5) (q0 := 0) rfl rfl) rfl rfl hl.1 rfl (lv_room (Nat.le_of_ble_eq_true rfl)) dX5_trustAfter_2 ⟨Nat.zero_le _, Nat.zero_le _⟩) hS hA (fun H locs b3 hk hS => ?_)
  replace hP := wq_kp hP hk
  clear hk
  refine lv_if_eq (tgt := 15) hx hb dX5_trustAfter_5 (by decide) (fun c4 => ?_) (fun c4 => ?_)
  · replace hG := wq_t c4 hG
    refine lv_aload_n hx hb dX5_trustAfter_15 rfl (lv_at hl 0 rfl) ?_
    refine lv_iload_n hx hb dX5_trustAfter_16 rfl (lv_at hl 3 rfl) ?_
    obtain ⟨v6, g5, hG⟩ := wq_b1_s hG
    refine wq_ci (v := v6) (B := wq_Z1) (va_runV (As := [.int a3]) (rest := []) ⟨hx, hb, hml, hown, hts⟩ (C_X5_isWild l dC dI cI cJ cZ qa H.size t_tears t_gains t_likings t_settings t_goodbyes t_women a3 v6 g5) (cwV 1 hts gX5_trustAfter_X5_isWild rfl rfl rfl hdV_X5_isWild ⟨Nat.le_of_ble_eq_true rfl, Nat.le_of_ble_eq_true rfl⟩) (wq_ppV hK hP hE hS hA (ci := 5) (q0 := 0) rfl rfl) rfl rfl hl.1 rfl (lv_room (Nat.le_of_ble_eq_true rfl)) dX5_trustAfter_17 ⟨Nat.zero_le _, Nat.zero_le _⟩) hS hA (fun H locs b7 hk hS => ?_)
    replace hP := wq_kp hP hk
    clear hk
    refine lv_if_eq (tgt := 33) hx hb dX5_trustAfter_20 (by decide) (fun c8 => ?_) (fun c8 => ?_)
    · replace hG := wq_t c8 hG
      refine lv_iload_n hx hb dX5_trustAfter_33 rfl (lv_at hl 2 rfl) ?_
      exact W.iret (v := a2) hx hb hr (fun t ht hW => ⟨⟨a2, (), rfl, ⟨Option.some.inj hG, trivial⟩, trivial⟩, hS.F ht⟩) hS.2.2 dX5_trustAfter_34
    · replace hG := wq_f c8 hG
      refine lv_iconst (v := 0) hx hb dX5_trustAfter_23 (by decide) ?_
      refine lv_iload_n hx hb dX5_trustAfter_24 rfl (lv_at hl 2 rfl) ?_
      refine lv_iconst (v := 2) hx hb dX5_trustAfter_25 (by decide) ?_
      refine lv_isub hx hb dX5_trustAfter_26 ?_
      refine va_mmax (x := 0) (y := (a2 - 2)) hx hb (hml.trans hl.1.symm) hown k1 k2 k3 k4 (Nat.le_of_ble_eq_true rfl) (Nat.le_of_ble_eq_true rfl) (Nat.zero_le _) (Nat.zero_le _) dX5_trustAfter_27 ?_
      refine lv_goto (tgt := 34) hx hb dX5_trustAfter_30 (by decide) ?_
      exact W.iret (v := (if 0 < (a2 - 2) then (a2 - 2) else 0)) hx hb hr (fun t ht hW => ⟨⟨(if 0 < (a2 - 2) then (a2 - 2) else 0), (), rfl, ⟨Option.some.inj hG, trivial⟩, trivial⟩, hS.F ht⟩) hS.2.2 dX5_trustAfter_34
  · replace hG := wq_f c4 hG
    refine lv_aload_n hx hb dX5_trustAfter_8 rfl (lv_at hl 0 rfl) ?_
    refine lv_iload_n hx hb dX5_trustAfter_9 rfl (lv_at hl 1 rfl) ?_
    refine lv_iload_n hx hb dX5_trustAfter_10 rfl (lv_at hl 2 rfl) ?_
    obtain ⟨v10, g9, hG⟩ := wq_b1_s hG
    refine wq_ci (v := v10) (B := wq_tr) (va_runV (As := [.int a1, .int a2]) (rest := []) ⟨hx, hb, hml, hown, hts⟩ (C_X5_calmerTrust l dC dI cI cJ cZ qa H.size t_tears t_gains t_likings t_settings t_goodbyes t_women a1 a2 v10 g9) (cwV 2 hts gX5_trustAfter_X5_calmerTrust rfl rfl rfl hdV_X5_calmerTrust ⟨Nat.le_of_ble_eq_true rfl, Nat.le_of_ble_eq_true rfl⟩) (wq_ppV hK hP hE hS hA (ci := 5) (q0 := 0) rfl rfl) rfl rfl hl.1 rfl (lv_room (Nat.le_of_ble_eq_true rfl)) dX5_trustAfter_11 ⟨Nat.zero_le _, Nat.zero_le _⟩) hS hA (fun H locs b11 hk hS => ?_)
    replace hP := wq_kp hP hk
    clear hk
    exact W.iret (v := v10) hx hb hr (fun t ht hW => ⟨⟨v10, (), rfl, ⟨Option.some.inj hG, trivial⟩, trivial⟩, hS.F ht⟩) hS.2.2 dX5_trustAfter_14

theorem hdV_X5_calmerLiking : yX5_calmerLiking.cls = RX5 ∧ yX5_calmerLiking.cls ≠ "java/lang/invoke/MethodHandle" ∧ yX5_calmerLiking.cls ≠ "java/lang/invoke/VarHandle" ∧ (parseMethodDescriptor yX5_calmerLiking.desc).map (fun d => d.parameters.length) = some 1 := by decide +kernel
set_option maxHeartbeats 4000000 in
set_option maxRecDepth 100000 in
theorem C_X5_calmerLiking (l : Launch) (dC : Nat → ClassId) (dI : Nat → Nat → Nat) (cI cJ cZ : ClassId) (qa : Nat → Nat) (sz : Nat) (t_tears : Nat → Int32) (t_gains : Nat → Int32) (t_likings : Nat → Int32) (t_settings : Nat → Int32) (t_goodbyes : Int32) (t_women : Int32) (a1 : Int32) (r0 : Int32) (hG : gX5_calmerLiking a1 = some r0) : Met l yX5_calmerLiking wsX5_calmerLiking ({ frames := 1, cells := 0, slots := 0, locals := 21 } : Room) (va_Pc [.ref (qa 16), .int a1] (wq_pp (dC, dI) [(cI, .int), (cJ, .long), (cZ, .boolean)] (wcT qa cI cJ cZ t_tears t_gains t_likings t_settings t_goodbyes t_women) sz)) (wq_Qi r0 wq_tr (va_A [] sz)) 0 0 (va_A [] sz) := by
  refine Met.ofW (cc := cX5_calmerLiking) (maxL := 2) (ret := (some .int)) (by decide) rfl ?_
  intro p e s m args below meth c s₁ B hml hv
  obtain ⟨rfl, hsz, hP, hK, hE⟩ := hv
  have hx := B.exec
  have hb := B.bytes
  have hr := B.returns
  have hts := atoms_spec (ws := wsX5_calmerLiking) B.pre
  have hown : s.vm.findClass RX5 = some m.cls := findClass_of_methodNamed B.named
  have hlocks := B.notSynchronized
  subst hsz
  generalize hAe : va_A [] s.heap.size = A at hE ⊢
  have hA : ∀ q : Nat, s.heap.size ≤ q → A q := fun q h => by rw [← hAe]; exact Or.inr h
  have hS : va_S A s.heap s.heap [] := va_S.rf
  have k1 := hts (.methodLink RX5 80 Lib.Math.min.name) (by decide +kernel)
  have k2 := hts (.static Lib.Math.min.name) (by decide +kernel)
  have k3 := hts (.initialized "java/lang/Math") (by decide +kernel)
  have k4 := hts (.code Lib.Math.min.name Lib.Math.min.code 2 (some .int)) (by decide +kernel)
  have hl := lv_entry ([.ref (qa 16), .int a1]) (n := 2) (Nat.le_of_ble_eq_true rfl)
  rw [lg_entry_eq]
  generalize (lg_sl ([.ref (qa 16), .int a1]) ++ List.replicate (2 - (lg_sl ([.ref (qa 16), .int a1])).length) Slot.unset).toArray = ls at hl ⊢
  have hl : lv_has ls 2 [(0, .ref (qa 16)), (1, .int a1)] := hl
  unfold gX5_calmerLiking at hG
  refine lv_bipush (v := 9) hx hb dX5_calmerLiking_0 (by decide) ?_
  refine lv_iload_n hx hb dX5_calmerLiking_2 rfl (lv_at hl 1 rfl) ?_
  refine lv_iconst (v := 1) hx hb dX5_calmerLiking_3 (by decide) ?_
  refine lv_iadd hx hb dX5_calmerLiking_4 ?_
  refine va_mmin (x := 9) (y := (a1 + 1)) hx hb (hml.trans hl.1.symm) hown k1 k2 k3 k4 (Nat.le_of_ble_eq_true rfl) (Nat.le_of_ble_eq_true rfl) (Nat.zero_le _) (Nat.zero_le _) dX5_calmerLiking_5 ?_
  exact W.iret (v := (if (a1 + 1) < 9 then (a1 + 1) else 9)) hx hb hr (fun t ht hW => ⟨⟨(if (a1 + 1) < 9 then (a1 + 1) else 9), (), rfl, ⟨Option.some.inj hG, trivial⟩, trivial⟩, hS.F ht⟩) hS.2.2 dX5_calmerLiking_8

theorem hdV_X5_likingAfter : yX5_likingAfter.cls = RX5 ∧ yX5_likingAfter.cls ≠ "java/lang/invoke/MethodHandle" ∧ yX5_likingAfter.cls ≠ "java/lang/invoke/VarHandle" ∧ (parseMethodDescriptor yX5_likingAfter.desc).map (fun d => d.parameters.length) = some 2 := by decide +kernel
set_option maxHeartbeats 4000000 in
set_option maxRecDepth 100000 in
theorem C_X5_likingAfter (l : Launch) (dC : Nat → ClassId) (dI : Nat → Nat → Nat) (cI cJ cZ : ClassId) (qa : Nat → Nat) (sz : Nat) (t_tears : Nat → Int32) (t_gains : Nat → Int32) (t_likings : Nat → Int32) (t_settings : Nat → Int32) (t_goodbyes : Int32) (t_women : Int32) (a1 : Int32) (a2 : Int32) (r0 : Int32) (hG : gX5_likingAfter t_settings a1 a2 = some r0) : Met l yX5_likingAfter wsX5_likingAfter ({ frames := 2, cells := 0, slots := 0, locals := 42 } : Room) (va_Pc [.ref (qa 16), .int a1, .int a2] (wq_pp (dC, dI) [(cI, .int), (cJ, .long), (cZ, .boolean)] (wcT qa cI cJ cZ t_tears t_gains t_likings t_settings t_goodbyes t_women) sz)) (wq_Qi r0 wq_tr (va_A [] sz)) 0 0 (va_A [] sz) := by
  refine Met.ofW (cc := cX5_likingAfter) (maxL := 3) (ret := (some .int)) (by decide) rfl ?_
  intro p e s m args below meth c s₁ B hml hv
  obtain ⟨rfl, hsz, hP, hK, hE⟩ := hv
  have hx := B.exec
  have hb := B.bytes
  have hr := B.returns
  have hts := atoms_spec (ws := wsX5_likingAfter) B.pre
  have hown : s.vm.findClass RX5 = some m.cls := findClass_of_methodNamed B.named
  have hlocks := B.notSynchronized
  subst hsz
  generalize hAe : va_A [] s.heap.size = A at hE ⊢
  have hA : ∀ q : Nat, s.heap.size ≤ q → A q := fun q h => by rw [← hAe]; exact Or.inr h
  have hS : va_S A s.heap s.heap [] := va_S.rf
  have k1 := hts (.methodLink RX5 69 Lib.Math.max.name) (by decide +kernel)
  have k2 := hts (.static Lib.Math.max.name) (by decide +kernel)
  have k3 := hts (.initialized "java/lang/Math") (by decide +kernel)
  have k4 := hts (.code Lib.Math.max.name Lib.Math.max.code 2 (some .int)) (by decide +kernel)
  have hl := lv_entry ([.ref (qa 16), .int a1, .int a2]) (n := 3) (Nat.le_of_ble_eq_true rfl)
  rw [lg_entry_eq]
  generalize (lg_sl ([.ref (qa 16), .int a1, .int a2]) ++ List.replicate (3 - (lg_sl ([.ref (qa 16), .int a1, .int a2])).length) Slot.unset).toArray = ls at hl ⊢
  have hl : lv_has ls 3 [(0, .ref (qa 16)), (1, .int a1), (2, .int a2)] := hl
  unfold gX5_likingAfter at hG
  refine lv_aload_n hx hb dX5_likingAfter_0 rfl (lv_at hl 0 rfl) ?_
  refine lv_iload_n hx hb dX5_likingAfter_1 rfl (lv_at hl 2 rfl) ?_
  obtain ⟨v2, g1, hG⟩ := wq_b1_s hG
  refine wq_ci (v := v2) (B := wq_Z1) (va_runV (As := [.int a2]) (rest := []) ⟨hx, hb, hml, hown, hts⟩ (C_X5_isCalm l dC dI cI cJ cZ qa s.heap.size t_tears t_gains t_likings t_settings t_goodbyes t_women a2 v2 g1) (cwV 1 hts gX5_likingAfter_X5_isCalm rfl rfl rfl hdV_X5_isCalm ⟨Nat.le_of_ble_eq_true rfl, Nat.le_of_ble_eq_true rfl⟩) (wq_ppV hK hP hE hS hA (ci := 5) (q0 := 0) rfl rfl) rfl rfl hl.1 rfl (lv_room (Nat.le_of_ble_eq_true rfl)) dX5_likingAfter_2 ⟨Nat.zero_le _, Nat.zero_le _⟩) hS hA (fun H locs b3 hk hS => ?_)
  replace hP := wq_kp hP hk
  clear hk
  refine lv_if_eq (tgt := 14) hx hb dX5_likingAfter_5 (by decide) (fun c4 => ?_) (fun c4 => ?_)
  · replace hG := wq_t c4 hG
    refine lv_aload_n hx hb dX5_likingAfter_14 rfl (lv_at hl 0 rfl) ?_
    refine lv_iload_n hx hb dX5_likingAfter_15 rfl (lv_at hl 2 rfl) ?_
    obtain ⟨v6, g5, hG⟩ := wq_b1_s hG
    refine wq_ci (v := v6) (B := wq_Z1) (va_runV (As := [.int a2]) (rest := []) ⟨hx, hb, hml, hown, hts⟩ (C_X5_isWild l dC dI cI cJ cZ qa H.size t_tears t_gains t_likings t_settings t_goodbyes t_women a2 v6 g5) (cwV 1 hts gX5_likingAfter_X5_isWild rfl rfl rfl hdV_X5_isWild ⟨Nat.le_of_ble_eq_true rfl, Nat.le_of_ble_eq_true rfl⟩) (wq_ppV hK hP hE hS hA (ci := 5) (q0 := 0) rfl rfl) rfl rfl hl.1 rfl (lv_room (Nat.le_of_ble_eq_true rfl)) dX5_likingAfter_16 ⟨Nat.zero_le _, Nat.zero_le _⟩) hS hA (fun H locs b7 hk hS => ?_)
    replace hP := wq_kp hP hk
    clear hk
    refine lv_if_eq (tgt := 32) hx hb dX5_likingAfter_19 (by decide) (fun c8 => ?_) (fun c8 => ?_)
    · replace hG := wq_t c8 hG
      refine lv_iload_n hx hb dX5_likingAfter_32 rfl (lv_at hl 1 rfl) ?_
      exact W.iret (v := a1) hx hb hr (fun t ht hW => ⟨⟨a1, (), rfl, ⟨Option.some.inj hG, trivial⟩, trivial⟩, hS.F ht⟩) hS.2.2 dX5_likingAfter_33
    · replace hG := wq_f c8 hG
      refine lv_iconst (v := 0) hx hb dX5_likingAfter_22 (by decide) ?_
      refine lv_iload_n hx hb dX5_likingAfter_23 rfl (lv_at hl 1 rfl) ?_
      refine lv_iconst (v := 1) hx hb dX5_likingAfter_24 (by decide) ?_
      refine lv_isub hx hb dX5_likingAfter_25 ?_
      refine va_mmax (x := 0) (y := (a1 - 1)) hx hb (hml.trans hl.1.symm) hown k1 k2 k3 k4 (Nat.le_of_ble_eq_true rfl) (Nat.le_of_ble_eq_true rfl) (Nat.zero_le _) (Nat.zero_le _) dX5_likingAfter_26 ?_
      refine lv_goto (tgt := 33) hx hb dX5_likingAfter_29 (by decide) ?_
      exact W.iret (v := (if 0 < (a1 - 1) then (a1 - 1) else 0)) hx hb hr (fun t ht hW => ⟨⟨(if 0 < (a1 - 1) then (a1 - 1) else 0), (), rfl, ⟨Option.some.inj hG, trivial⟩, trivial⟩, hS.F ht⟩) hS.2.2 dX5_likingAfter_33
  · replace hG := wq_f c4 hG
    refine lv_aload_n hx hb dX5_likingAfter_8 rfl (lv_at hl 0 rfl) ?_
    refine lv_iload_n hx hb dX5_likingAfter_9 rfl (lv_at hl 1 rfl) ?_
    obtain ⟨v10, g9, hG⟩ := wq_b1_s hG
    refine wq_ci (v := v10) (B := wq_tr) (va_runV (As := [.int a1]) (rest := []) ⟨hx, hb, hml, hown, hts⟩ (C_X5_calmerLiking l dC dI cI cJ cZ qa H.size t_tears t_gains t_likings t_settings t_goodbyes t_women a1 v10 g9) (cwV 1 hts gX5_likingAfter_X5_calmerLiking rfl rfl rfl hdV_X5_calmerLiking ⟨Nat.le_of_ble_eq_true rfl, Nat.le_of_ble_eq_true rfl⟩) (wq_ppV hK hP hE hS hA (ci := 5) (q0 := 0) rfl rfl) rfl rfl hl.1 rfl (lv_room (Nat.le_of_ble_eq_true rfl)) dX5_likingAfter_10 ⟨Nat.zero_le _, Nat.zero_le _⟩) hS hA (fun H locs b11 hk hS => ?_)
    replace hP := wq_kp hP hk
    clear hk
    exact W.iret (v := v10) hx hb hr (fun t ht hW => ⟨⟨v10, (), rfl, ⟨Option.some.inj hG, trivial⟩, trivial⟩, hS.F ht⟩) hS.2.2 dX5_likingAfter_13

theorem hdV_X0_setLiking : yX0_setLiking.cls = RX0 ∧ yX0_setLiking.cls ≠ "java/lang/invoke/MethodHandle" ∧ yX0_setLiking.cls ≠ "java/lang/invoke/VarHandle" ∧ (parseMethodDescriptor yX0_setLiking.desc).map (fun d => d.parameters.length) = some 2 := by decide +kernel
set_option maxHeartbeats 4000000 in
set_option maxRecDepth 100000 in
theorem C_X0_setLiking (l : Launch) (dC : Nat → ClassId) (dI : Nat → Nat → Nat) (cI cJ cZ : ClassId) (qa : Nat → Nat) (sz : Nat) (n_likings : Nat → Int32) (n_day : Int32) (n_trust : Int32) (n_ill : Int32) (n_done : Int32) (a1 : Int32) (a2 : Int32) (r_n_likings : Nat → Int32) (hG : gX0_setLiking n_likings a1 a2 = some r_n_likings) : Met l yX0_setLiking wsX0_setLiking ({ frames := 0, cells := 0, slots := 0, locals := 0 } : Room) (va_Pc [.ref (qa 3), .int a1, .int a2] (wq_pw (dC, dI) [(cI, .int), (cJ, .long), (cZ, .boolean)] (wcN qa cI cJ cZ n_likings n_day n_trust n_ill n_done) sz)) (wq_Wv (dC, dI) (wcN qa cI cJ cZ r_n_likings n_day n_trust n_ill n_done) (va_A (wcN qa cI cJ cZ n_likings n_day n_trust n_ill n_done) sz)) 0 0 (va_A (wcN qa cI cJ cZ n_likings n_day n_trust n_ill n_done) sz) := by
  refine Met.ofW (cc := cX0_setLiking) (maxL := 3) (ret := none) (by decide) rfl ?_
  intro p e s m args below meth c s₁ B hml hv
  obtain ⟨rfl, hsz, hP, hK, hD0, hE⟩ := hv
  have hx := B.exec
  have hb := B.bytes
  have hr := B.returns
  have hts := atoms_spec (ws := wsX0_setLiking) B.pre
  have hown : s.vm.findClass RX0 = some m.cls := findClass_of_methodNamed B.named
  have hlocks := B.notSynchronized
  subst hsz
  have hD := hD0.self (sz := s.heap.size)
  generalize hAe : va_A (wcN qa cI cJ cZ n_likings n_day n_trust n_ill n_done) s.heap.size = A at hD hE ⊢
  have hA : ∀ q : Nat, s.heap.size ≤ q → A q := fun q h => by rw [← hAe]; exact Or.inr h
  have hS : va_S A s.heap s.heap [] := va_S.rf
  have hinX0 : ∀ w ∈ u_ws RX0 TX0 5, w ∈ wsX0_setLiking := by decide +kernel
  have k1 := hts (.fieldLink RX0 9 "DoorMornings$Now" "likings" "[I") (by decide +kernel)
  have hl := lv_entry ([.ref (qa 3), .int a1, .int a2]) (n := 3) (Nat.le_of_ble_eq_true rfl)
  rw [lg_entry_eq]
  generalize (lg_sl ([.ref (qa 3), .int a1, .int a2]) ++ List.replicate (3 - (lg_sl ([.ref (qa 3), .int a1, .int a2])).length) Slot.unset).toArray = ls at hl ⊢
  have hl : lv_has ls 3 [(0, .ref (qa 3)), (1, .int a1), (2, .int a2)] := hl
  unfold gX0_setLiking at hG
  refine lv_iload_n hx hb dX0_setLiking_0 rfl (lv_at hl 1 rfl) ?_
  refine lv_if_lt (tgt := 16) hx hb dX0_setLiking_1 (by decide) (fun c1 => ?_) (fun c1 => ?_)
  · replace hG := wq_t c1 hG
    have e0 := Option.some.inj hG
    subst e0
    exact W.vret hx hb hr (fun t ht hW => ⟨⟨(), rfl, trivial, by rw [ht]; exact hP, hD⟩, hS.F ht⟩) hS.2.2 dX0_setLiking_16
  · replace hG := wq_f c1 hG
    refine lv_iload_n hx hb dX0_setLiking_4 rfl (lv_at hl 1 rfl) ?_
    refine lv_iconst (v := 4) hx hb dX0_setLiking_5 (by decide) ?_
    refine lv_icmp_ge (tgt := 16) hx hb dX0_setLiking_6 (by decide) (fun c2 => ?_) (fun c2 => ?_)
    · replace hG := wq_t c2 hG
      have e0 := Option.some.inj hG
      subst e0
      exact W.vret hx hb hr (fun t ht hW => ⟨⟨(), rfl, trivial, by rw [ht]; exact hP, hD⟩, hS.F ht⟩) hS.2.2 dX0_setLiking_16
    · replace hG := wq_f c2 hG
      refine lv_aload_n hx hb dX0_setLiking_9 rfl (lv_at hl 0 rfl) ?_
      refine va_get (D := (dC, dI)) (ci := 0) (v := .ref (qa 4)) (C := RX0) (T := TX0) (N := 5) hx hb hts hinX0 hown hK hP 0 rfl rfl 0 (by decide) k1 (fun _ h9 => h9) rfl dX0_setLiking_10 ?_
      refine lv_iload_n hx hb dX0_setLiking_13 rfl (lv_at hl 1 rfl) ?_
      refine lv_iload_n hx hb dX0_setLiking_14 rfl (lv_at hl 2 rfl) ?_
      obtain ⟨h3, hG⟩ := wq_chk_s hG
      refine wq_iast (D := (dC, dI)) hx hb hK hP hD hS 1 0 rfl rfl h3 (Int32.toNatClampNeg a1) rfl (wcN qa cI cJ cZ (upd n_likings (Int32.toNatClampNeg a1) a2) n_day n_trust n_ill n_done) rfl dX0_setLiking_15 (fun H locs hP hD hS => ?_)
      have e0 := Option.some.inj hG
      subst e0
      exact W.vret hx hb hr (fun t ht hW => ⟨⟨(), rfl, trivial, by rw [ht]; exact hP, hD⟩, hS.F ht⟩) hS.2.2 dX0_setLiking_16

theorem hdV_X6_morning : yX6_morning.cls = RX6 ∧ yX6_morning.cls ≠ "java/lang/invoke/MethodHandle" ∧ yX6_morning.cls ≠ "java/lang/invoke/VarHandle" ∧ (parseMethodDescriptor yX6_morning.desc).map (fun d => d.parameters.length) = some 3 := by decide +kernel
set_option maxHeartbeats 4000000 in
set_option maxRecDepth 100000 in
theorem C_X6_morning (l : Launch) (dC : Nat → ClassId) (dI : Nat → Nat → Nat) (cI cJ cZ : ClassId) (qa : Nat → Nat) (sz : Nat) (r_images : Nat → Int64) (r_asked : Int64) (n_likings : Nat → Int32) (n_day : Int32) (n_trust : Int32) (n_ill : Int32) (n_done : Int32) (p_befores : Nat → Int64) (p_known : Int32) (t_tears : Nat → Int32) (t_gains : Nat → Int32) (t_likings : Nat → Int32) (t_settings : Nat → Int32) (t_goodbyes : Int32) (t_women : Int32) (a1 : Int32) (a2 : Int32) (a3 : Int32) (r0 : Int32) (r_n_likings : Nat → Int32) (r_n_day : Int32) (r_n_trust : Int32) (r_n_done : Int32) (r_p_befores : Nat → Int64) (r_p_known : Int32) (hG : gX6_morning n_likings n_day n_trust n_ill n_done p_befores p_known t_tears t_gains t_settings t_goodbyes t_women a1 a2 a3 = some (r0, r_n_likings, r_n_day, r_n_trust, r_n_done, r_p_befores, r_p_known)) : Met l yX6_morning wsX6_morning ({ frames := 4, cells := 0, slots := 0, locals := 89 } : Room) (va_Pc [.ref (qa 0), .int a1, .int a2, .int a3] (wq_pw (dC, dI) [(cI, .int), (cJ, .long), (cZ, .boolean)] (wcRNPT qa cI cJ cZ r_images r_asked n_likings n_day n_trust n_ill n_done p_befores p_known t_tears t_gains t_likings t_settings t_goodbyes t_women) sz)) (wq_Wi (dC, dI) r0 wq_tr (wcRNPT qa cI cJ cZ r_images r_asked r_n_likings r_n_day r_n_trust n_ill r_n_done r_p_befores r_p_known t_tears t_gains t_likings t_settings t_goodbyes t_women) (va_A (wcRNPT qa cI cJ cZ r_images r_asked n_likings n_day n_trust n_ill n_done p_befores p_known t_tears t_gains t_likings t_settings t_goodbyes t_women) sz)) 0 0 (va_A (wcRNPT qa cI cJ cZ r_images r_asked n_likings n_day n_trust n_ill n_done p_befores p_known t_tears t_gains t_likings t_settings t_goodbyes t_women) sz) := by
  refine Met.ofW (cc := cX6_morning) (maxL := 5) (ret := (some .int)) (by decide) rfl ?_
  intro p e s m args below meth c s₁ B hml hv
  obtain ⟨rfl, hsz, hP, hK, hD0, hE⟩ := hv
  have hx := B.exec
  have hb := B.bytes
  have hr := B.returns
  have hts := atoms_spec (ws := wsX6_morning) B.pre
  have hown : s.vm.findClass RX6 = some m.cls := findClass_of_methodNamed B.named
  have hlocks := B.notSynchronized
  subst hsz
  have hD := hD0.self (sz := s.heap.size)
  generalize hAe : va_A (wcRNPT qa cI cJ cZ r_images r_asked n_likings n_day n_trust n_ill n_done p_befores p_known t_tears t_gains t_likings t_settings t_goodbyes t_women) s.heap.size = A at hD hE ⊢
  have hA : ∀ q : Nat, s.heap.size ≤ q → A q := fun q h => by rw [← hAe]; exact Or.inr h
  have hS : va_S A s.heap s.heap [] := va_S.rf
  have hinX6 : ∀ w ∈ u_ws RX6 TX6 9, w ∈ wsX6_morning := by decide +kernel
  have hinX0 : ∀ w ∈ u_ws RX0 TX0 5, w ∈ wsX6_morning := by decide +kernel
  have k1 := hts (.fieldLink RX6 19 "DoorMornings" "today" "LDoorMornings$Now;") (by decide +kernel)
  have k2 := hts (.fieldLink RX6 109 "DoorMornings$Now" "day" "I") (by decide +kernel)
  have k3 := hts (.fieldLink RX6 26 "DoorMornings" "past" "LDoorMornings$Past;") (by decide +kernel)
  have k4 := hts (.fieldLink RX6 53 "DoorMornings" "told" "LDoorMornings$Told;") (by decide +kernel)
  have k5 := hts (.fieldLink RX6 113 "DoorMornings$Now" "trust" "I") (by decide +kernel)
  have k6 := hts (.fieldLink RX6 116 "DoorMornings$Now" "done" "Z") (by decide +kernel)
  have hl := lv_entry ([.ref (qa 0), .int a1, .int a2, .int a3]) (n := 5) (Nat.le_of_ble_eq_true rfl)
  rw [lg_entry_eq]
  generalize (lg_sl ([.ref (qa 0), .int a1, .int a2, .int a3]) ++ List.replicate (5 - (lg_sl ([.ref (qa 0), .int a1, .int a2, .int a3])).length) Slot.unset).toArray = ls at hl ⊢
  have hl : lv_has ls 5 [(0, .ref (qa 0)), (1, .int a1), (2, .int a2), (3, .int a3)] := hl
  unfold gX6_morning at hG
  refine lv_aload_n hx hb dX6_morning_0 rfl (lv_at hl 0 rfl) ?_
  refine lv_iload_n hx hb dX6_morning_1 rfl (lv_at hl 1 rfl) ?_
  refine lv_iload_n hx hb dX6_morning_2 rfl (lv_at hl 2 rfl) ?_
  refine lv_iload_n hx hb dX6_morning_3 rfl (lv_at hl 3 rfl) ?_
  obtain ⟨v2, g1, hG⟩ := wq_b1_s hG
  refine wq_ci (v := v2) (B := wq_Z1) (va_runV (As := [.int a1, .int a2, .int a3]) (rest := []) ⟨hx, hb, hml, hown, hts⟩ (C_X6_isMorning l dC dI cI cJ cZ qa s.heap.size r_images r_asked t_tears t_gains t_likings t_settings t_goodbyes t_women a1 a2 a3 v2 g1) (cwV 3 hts gX6_morning_X6_isMorning rfl rfl rfl hdV_X6_isMorning ⟨Nat.le_of_ble_eq_true rfl, Nat.le_of_ble_eq_true rfl⟩) (wq_ppV hK (hP.sub (ws' := wcRT qa cI cJ cZ r_images r_asked t_tears t_gains t_likings t_settings t_goodbyes t_women) [0, 1, 6, 7, 8, 9, 10] rfl) hE hS hA (ci := 6) (q0 := 0) rfl rfl) rfl rfl hl.1 rfl (lv_room (Nat.le_of_ble_eq_true rfl)) dX6_morning_4 ⟨Nat.zero_le _, Nat.zero_le _⟩) hS hA (fun H locs b3 hk hS => ?_)
  replace hP := wq_kp hP hk
  clear hk
  refine lv_if_ne (tgt := 12) hx hb dX6_morning_7 (by decide) (fun c4 => ?_) (fun c4 => ?_)
  · replace hG := wq_f c4 hG
    refine lv_aload_n hx hb dX6_morning_12 rfl (lv_at hl 0 rfl) ?_
    refine va_get (D := (dC, dI)) (ci := 6) (v := .ref (qa 3)) (C := RX6) (T := TX6) (N := 9) hx hb hts hinX6 hown hK hP 0 rfl rfl 1 (by decide) k1 (fun _ h9 => h9) rfl dX6_morning_13 ?_
    refine lv_iload_n hx hb dX6_morning_16 rfl (lv_at hl 3 rfl) ?_
    obtain ⟨v6, g5, hG⟩ := wq_b1_s hG
    refine wq_ci (v := v6) (B := wq_Z1) (va_runV (As := [.int a3]) (rest := []) ⟨hx, hb, hml, hown, hts⟩ (C_X0_isIll l dC dI cI cJ cZ qa H.size n_likings n_day n_trust n_ill n_done a3 v6 g5) (cwV 1 hts gX6_morning_X0_isIll rfl rfl rfl hdV_X0_isIll ⟨Nat.le_of_ble_eq_true rfl, Nat.le_of_ble_eq_true rfl⟩) (wq_ppV hK (hP.sub (ws' := wcN qa cI cJ cZ n_likings n_day n_trust n_ill n_done) [2, 3] rfl) hE hS hA (ci := 0) (q0 := 0) rfl rfl) rfl rfl hl.1 rfl (lv_room (Nat.le_of_ble_eq_true rfl)) dX6_morning_17 ⟨Nat.zero_le _, Nat.zero_le _⟩) hS hA (fun H locs b7 hk hS => ?_)
    replace hP := wq_kp hP hk
    clear hk
    refine lv_if_ne (tgt := 36) hx hb dX6_morning_20 (by decide) (fun c8 => ?_) (fun c8 => ?_)
    · replace hG := wq_f c8 hG
      refine lv_bipush (v := (-2)) hx hb dX6_morning_36 (by decide) ?_
      obtain ⟨e0, e1, e2, e3, e4, e5, e6⟩ := wq_j7 hG
      subst e0
      subst e1
      subst e2
      subst e3
      subst e4
      subst e5
      subst e6
      exact W.iret hx hb hr (fun t ht hW => ⟨⟨_, (), rfl, ⟨rfl, trivial⟩, by rw [ht]; exact hP, hD⟩, hS.F ht⟩) hS.2.2 dX6_morning_38
    · replace hG := wq_t c8 hG
      refine lv_aload_n hx hb dX6_morning_23 rfl (lv_at hl 0 rfl) ?_
      refine va_get (D := (dC, dI)) (ci := 6) (v := .ref (qa 3)) (C := RX6) (T := TX6) (N := 9) hx hb hts hinX6 hown hK hP 0 rfl rfl 1 (by decide) k1 (fun _ h9 => h9) rfl dX6_morning_24 ?_
      refine va_get (D := (dC, dI)) (ci := 0) (v := .int n_day) (C := RX0) (T := TX0) (N := 5) hx hb hts hinX0 hown hK hP 2 rfl rfl 1 (by decide) k2 (fun _ h9 => h9) rfl dX6_morning_27 ?_
      refine lv_sipush (v := 999) hx hb dX6_morning_30 (by decide) ?_
      refine lv_icmp_lt (tgt := 39) hx hb dX6_morning_33 (by decide) (fun c9 => ?_) (fun c9 => ?_)
      · replace hG := wq_t c9 hG
        refine lv_aload_n hx hb dX6_morning_39 rfl (lv_at hl 0 rfl) ?_
        refine va_get (D := (dC, dI)) (ci := 6) (v := .ref (qa 5)) (C := RX6) (T := TX6) (N := 9) hx hb hts hinX6 hown hK hP 0 rfl rfl 2 (by decide) k3 (fun _ h9 => h9) rfl dX6_morning_40 ?_
        refine lv_aload_n hx hb dX6_morning_43 rfl (lv_at hl 0 rfl) ?_
        refine va_get (D := (dC, dI)) (ci := 6) (v := .ref (qa 3)) (C := RX6) (T := TX6) (N := 9) hx hb hts hinX6 hown hK hP 0 rfl rfl 1 (by decide) k1 (fun _ h9 => h9) rfl dX6_morning_44 ?_
        obtain ⟨v11, g10, hG⟩ := wq_b1_s hG
        refine wq_cl (v := v11) (va_runV (As := []) (rest := [.ref (qa 5)]) ⟨hx, hb, hml, hown, hts⟩ (C_X0_folded l dC dI cI cJ cZ qa H.size n_likings n_day n_trust n_ill n_done  v11 g10) (cwV 0 hts gX6_morning_X0_folded rfl rfl rfl hdV_X0_folded ⟨Nat.le_of_ble_eq_true rfl, Nat.le_of_ble_eq_true rfl⟩) (wq_ppV hK (hP.sub (ws' := wcN qa cI cJ cZ n_likings n_day n_trust n_ill n_done) [2, 3] rfl) hE hS hA (ci := 0) (q0 := 0) rfl rfl) rfl rfl hl.1 rfl (lv_room (Nat.le_of_ble_eq_true rfl)) dX6_morning_47 ⟨Nat.zero_le _, Nat.zero_le _⟩) hS hA (fun H locs hk hS => ?_)
        replace hP := wq_kp hP hk
        clear hk
        obtain ⟨w13, w14, g12, hG⟩ := wq_b2_s hG
        have hFc := va_free (wc := wcP qa cI cJ cZ p_befores p_known) hD hS hA [4, 5] rfl
        refine wq_dv (D := (dC, dI)) (wr := wcRNT qa cI cJ cZ r_images r_asked n_likings n_day n_trust n_ill n_done t_tears t_gains t_likings t_settings t_goodbyes t_women) (w1 := wcP qa cI cJ cZ w13 w14) (w2 := wcRNPT qa cI cJ cZ r_images r_asked n_likings n_day n_trust n_ill n_done w13 w14 t_tears t_gains t_likings t_settings t_goodbyes t_women) (va_runV (As := [.long v11]) (rest := []) ⟨hx, hb, hml, hown, hts⟩ (C_X2_add l dC dI cI cJ cZ qa H.size p_befores p_known v11 w13 w14 g12) (cwV 1 hts gX6_morning_X2_add rfl rfl rfl hdV_X2_add ⟨Nat.le_of_ble_eq_true rfl, Nat.le_of_ble_eq_true rfl⟩) (wq_pwV hK (hP.sub (ws' := wcP qa cI cJ cZ p_befores p_known) [4, 5] rfl) (hD.sub (ws' := wcP qa cI cJ cZ p_befores p_known) [4, 5] (by decide) rfl) hE hS hFc (ci := 2) (q0 := 0) rfl rfl) rfl rfl hl.1 rfl (lv_room (Nat.le_of_ble_eq_true rfl)) dX6_morning_50 ⟨Nat.zero_le _, Nat.zero_le _⟩) hP hD hS hFc [4, 5] [0, 1, 2, 3, 6, 7, 8, 9, 10] [0, 1, 2, 3, 9, 10, 4, 5, 6, 7, 8] rfl rfl (by decide) (by decide) (by decide) rfl (fun H locs hP hD hS => ?_)
        clear hFc
        refine lv_aload_n hx hb dX6_morning_53 rfl (lv_at hl 0 rfl) ?_
        refine lv_iload_n hx hb dX6_morning_54 rfl (lv_at hl 1 rfl) ?_
        refine lv_iload_n hx hb dX6_morning_55 rfl (lv_at hl 2 rfl) ?_
        refine lv_iload_n hx hb dX6_morning_56 rfl (lv_at hl 3 rfl) ?_
        obtain ⟨v16, g15, hG⟩ := wq_b1_s hG
        refine wq_ci (v := v16) (B := wq_tr) (va_runV (As := [.int a1, .int a2, .int a3]) (rest := []) ⟨hx, hb, hml, hown, hts⟩ (C_X6_minutesNow l dC dI cI cJ cZ qa H.size r_images r_asked n_likings n_day n_trust n_ill n_done t_tears t_gains t_likings t_settings t_goodbyes t_women a1 a2 a3 v16 g15) (cwV 3 hts gX6_morning_X6_minutesNow rfl rfl rfl hdV_X6_minutesNow ⟨Nat.le_of_ble_eq_true rfl, Nat.le_of_ble_eq_true rfl⟩) (wq_ppV hK (hP.sub (ws' := wcRNT qa cI cJ cZ r_images r_asked n_likings n_day n_trust n_ill n_done t_tears t_gains t_likings t_settings t_goodbyes t_women) [0, 1, 2, 3, 6, 7, 8, 9, 10] rfl) hE hS hA (ci := 6) (q0 := 0) rfl rfl) rfl rfl hl.1 rfl (lv_room (Nat.le_of_ble_eq_true rfl)) dX6_morning_57 ⟨Nat.zero_le _, Nat.zero_le _⟩) hS hA (fun H locs b17 hk hS => ?_)
        replace hP := wq_kp hP hk
        clear hk
        refine lv_istore (lv' := [(4, .int v16), (0, .ref (qa 0)), (1, .int a1), (2, .int a2), (3, .int a3)]) hx hb dX6_morning_60 hl (by decide) rfl (fun ls hl => ?_)
        refine lv_aload_n hx hb dX6_morning_62 rfl (lv_at hl 1 rfl) ?_
        refine va_get (D := (dC, dI)) (ci := 6) (v := .ref (qa 3)) (C := RX6) (T := TX6) (N := 9) hx hb hts hinX6 hown hK hP 0 rfl rfl 1 (by decide) k1 (fun _ h9 => h9) rfl dX6_morning_63 ?_
        refine lv_aload_n hx hb dX6_morning_66 rfl (lv_at hl 1 rfl) ?_
        refine va_get (D := (dC, dI)) (ci := 6) (v := .ref (qa 16)) (C := RX6) (T := TX6) (N := 9) hx hb hts hinX6 hown hK hP 0 rfl rfl 6 (by decide) k4 (fun _ h9 => h9) rfl dX6_morning_67 ?_
        refine lv_iload_n hx hb dX6_morning_70 rfl (lv_at hl 2 rfl) ?_
        refine lv_aload_n hx hb dX6_morning_71 rfl (lv_at hl 1 rfl) ?_
        refine va_get (D := (dC, dI)) (ci := 6) (v := .ref (qa 3)) (C := RX6) (T := TX6) (N := 9) hx hb hts hinX6 hown hK hP 0 rfl rfl 1 (by decide) k1 (fun _ h9 => h9) rfl dX6_morning_72 ?_
        refine va_get (D := (dC, dI)) (ci := 0) (v := .int n_trust) (C := RX0) (T := TX0) (N := 5) hx hb hts hinX0 hown hK hP 2 rfl rfl 2 (by decide) k5 (fun _ h9 => h9) rfl dX6_morning_75 ?_
        refine lv_iload hx hb dX6_morning_78 (lv_at hl 0 rfl) ?_
        obtain ⟨v19, g18, hG⟩ := wq_b1_s hG
        refine wq_ci (v := v19) (B := wq_tr) (va_runV (As := [.int a1, .int n_trust, .int v16]) (rest := [.ref (qa 3)]) ⟨hx, hb, hml, hown, hts⟩ (C_X5_trustAfter l dC dI cI cJ cZ qa H.size t_tears t_gains t_likings t_settings t_goodbyes t_women a1 n_trust v16 v19 g18) (cwV 3 hts gX6_morning_X5_trustAfter rfl rfl rfl hdV_X5_trustAfter ⟨Nat.le_of_ble_eq_true rfl, Nat.le_of_ble_eq_true rfl⟩) (wq_ppV hK (hP.sub (ws' := wcT qa cI cJ cZ t_tears t_gains t_likings t_settings t_goodbyes t_women) [6, 7, 8, 9, 10] rfl) hE hS hA (ci := 5) (q0 := 0) rfl rfl) rfl rfl hl.1 rfl (lv_room (Nat.le_of_ble_eq_true rfl)) dX6_morning_80 ⟨Nat.zero_le _, Nat.zero_le _⟩) hS hA (fun H locs b20 hk hS => ?_)
        replace hP := wq_kp hP hk
        clear hk
        refine va_put (D := (dC, dI)) (ci := 0) (v := .int v19) (ty := tyX0 2) (C := RX0) (T := TX0) (N := 5) hx hb hts hinX0 tyX0 tyX0_ok nmX0 hown hK hP hD hS 2 rfl rfl 2 (by decide) k5 (fun _ h9 => h9) rfl (tyX0_ok 2 (by decide)) rfl rfl (Nat.le_of_ble_eq_true rfl) dX6_morning_83 (fun H locs hP hD hS => ?_)
        replace hP : va_P (dC, dI) vwCl (wcRNPT qa cI cJ cZ r_images r_asked n_likings n_day v19 n_ill n_done w13 w14 t_tears t_gains t_likings t_settings t_goodbyes t_women) H := hP
        replace hD : va_D A (wcRNPT qa cI cJ cZ r_images r_asked n_likings n_day v19 n_ill n_done w13 w14 t_tears t_gains t_likings t_settings t_goodbyes t_women) := hD
        refine lv_aload_n hx hb dX6_morning_86 rfl (lv_at hl 1 rfl) ?_
        refine va_get (D := (dC, dI)) (ci := 6) (v := .ref (qa 3)) (C := RX6) (T := TX6) (N := 9) hx hb hts hinX6 hown hK hP 0 rfl rfl 1 (by decide) k1 (fun _ h9 => h9) rfl dX6_morning_87 ?_
        refine lv_iload_n hx hb dX6_morning_90 rfl (lv_at hl 4 rfl) ?_
        refine lv_aload_n hx hb dX6_morning_91 rfl (lv_at hl 1 rfl) ?_
        refine va_get (D := (dC, dI)) (ci := 6) (v := .ref (qa 16)) (C := RX6) (T := TX6) (N := 9) hx hb hts hinX6 hown hK hP 0 rfl rfl 6 (by decide) k4 (fun _ h9 => h9) rfl dX6_morning_92 ?_
        refine lv_aload_n hx hb dX6_morning_95 rfl (lv_at hl 1 rfl) ?_
        refine va_get (D := (dC, dI)) (ci := 6) (v := .ref (qa 3)) (C := RX6) (T := TX6) (N := 9) hx hb hts hinX6 hown hK hP 0 rfl rfl 1 (by decide) k1 (fun _ h9 => h9) rfl dX6_morning_96 ?_
        refine lv_iload_n hx hb dX6_morning_99 rfl (lv_at hl 4 rfl) ?_
        obtain ⟨v22, g21, hG⟩ := wq_b1_s hG
        refine wq_ci (v := v22) (B := wq_tr) (va_runV (As := [.int a3]) (rest := [.ref (qa 16), .int a3, .ref (qa 3)]) ⟨hx, hb, hml, hown, hts⟩ (C_X0_likingOf l dC dI cI cJ cZ qa H.size n_likings n_day v19 n_ill n_done a3 v22 g21) (cwV 1 hts gX6_morning_X0_likingOf rfl rfl rfl hdV_X0_likingOf ⟨Nat.le_of_ble_eq_true rfl, Nat.le_of_ble_eq_true rfl⟩) (wq_ppV hK (hP.sub (ws' := wcN qa cI cJ cZ n_likings n_day v19 n_ill n_done) [2, 3] rfl) hE hS hA (ci := 0) (q0 := 0) rfl rfl) rfl rfl hl.1 rfl (lv_room (Nat.le_of_ble_eq_true rfl)) dX6_morning_100 ⟨Nat.zero_le _, Nat.zero_le _⟩) hS hA (fun H locs b23 hk hS => ?_)
        replace hP := wq_kp hP hk
        clear hk
        refine lv_iload hx hb dX6_morning_103 (lv_at hl 0 rfl) ?_
        obtain ⟨v25, g24, hG⟩ := wq_b1_s hG
        refine wq_ci (v := v25) (B := wq_tr) (va_runV (As := [.int v22, .int v16]) (rest := [.int a3, .ref (qa 3)]) ⟨hx, hb, hml, hown, hts⟩ (C_X5_likingAfter l dC dI cI cJ cZ qa H.size t_tears t_gains t_likings t_settings t_goodbyes t_women v22 v16 v25 g24) (cwV 2 hts gX6_morning_X5_likingAfter rfl rfl rfl hdV_X5_likingAfter ⟨Nat.le_of_ble_eq_true rfl, Nat.le_of_ble_eq_true rfl⟩) (wq_ppV hK (hP.sub (ws' := wcT qa cI cJ cZ t_tears t_gains t_likings t_settings t_goodbyes t_women) [6, 7, 8, 9, 10] rfl) hE hS hA (ci := 5) (q0 := 0) rfl rfl) rfl rfl hl.1 rfl (lv_room (Nat.le_of_ble_eq_true rfl)) dX6_morning_105 ⟨Nat.zero_le _, Nat.zero_le _⟩) hS hA (fun H locs b26 hk hS => ?_)
        replace hP := wq_kp hP hk
        clear hk
        obtain ⟨w28, g27, hG⟩ := wq_b1_s hG
        have hFc := va_free (wc := wcN qa cI cJ cZ n_likings n_day v19 n_ill n_done) hD hS hA [2, 3] rfl
        refine wq_dv (D := (dC, dI)) (wr := wcRPT qa cI cJ cZ r_images r_asked w13 w14 t_tears t_gains t_likings t_settings t_goodbyes t_women) (w1 := wcN qa cI cJ cZ w28 n_day v19 n_ill n_done) (w2 := wcRNPT qa cI cJ cZ r_images r_asked w28 n_day v19 n_ill n_done w13 w14 t_tears t_gains t_likings t_settings t_goodbyes t_women) (va_runV (As := [.int a3, .int v25]) (rest := []) ⟨hx, hb, hml, hown, hts⟩ (C_X0_setLiking l dC dI cI cJ cZ qa H.size n_likings n_day v19 n_ill n_done a3 v25 w28 g27) (cwV 2 hts gX6_morning_X0_setLiking rfl rfl rfl hdV_X0_setLiking ⟨Nat.le_of_ble_eq_true rfl, Nat.le_of_ble_eq_true rfl⟩) (wq_pwV hK (hP.sub (ws' := wcN qa cI cJ cZ n_likings n_day v19 n_ill n_done) [2, 3] rfl) (hD.sub (ws' := wcN qa cI cJ cZ n_likings n_day v19 n_ill n_done) [2, 3] (by decide) rfl) hE hS hFc (ci := 0) (q0 := 0) rfl rfl) rfl rfl hl.1 rfl (lv_room (Nat.le_of_ble_eq_true rfl)) dX6_morning_108 ⟨Nat.zero_le _, Nat.zero_le _⟩) hP hD hS hFc [2, 3] [0, 1, 4, 5, 6, 7, 8, 9, 10] [0, 1, 9, 10, 2, 3, 4, 5, 6, 7, 8] rfl rfl (by decide) (by decide) (by decide) rfl (fun H locs hP hD hS => ?_)
        clear hFc
        refine lv_aload_n hx hb dX6_morning_111 rfl (lv_at hl 1 rfl) ?_
        refine va_get (D := (dC, dI)) (ci := 6) (v := .ref (qa 16)) (C := RX6) (T := TX6) (N := 9) hx hb hts hinX6 hown hK hP 0 rfl rfl 6 (by decide) k4 (fun _ h9 => h9) rfl dX6_morning_112 ?_
        refine lv_iload hx hb dX6_morning_115 (lv_at hl 0 rfl) ?_
        obtain ⟨v30, g29, hG⟩ := wq_b1_s hG
        refine wq_ci (v := v30) (B := wq_Z1) (va_runV (As := [.int v16]) (rest := []) ⟨hx, hb, hml, hown, hts⟩ (C_X5_isCalm l dC dI cI cJ cZ qa H.size t_tears t_gains t_likings t_settings t_goodbyes t_women v16 v30 g29) (cwV 1 hts gX6_morning_X5_isCalm rfl rfl rfl hdV_X5_isCalm ⟨Nat.le_of_ble_eq_true rfl, Nat.le_of_ble_eq_true rfl⟩) (wq_ppV hK (hP.sub (ws' := wcT qa cI cJ cZ t_tears t_gains t_likings t_settings t_goodbyes t_women) [6, 7, 8, 9, 10] rfl) hE hS hA (ci := 5) (q0 := 0) rfl rfl) rfl rfl hl.1 rfl (lv_room (Nat.le_of_ble_eq_true rfl)) dX6_morning_117 ⟨Nat.zero_le _, Nat.zero_le _⟩) hS hA (fun H locs b31 hk hS => ?_)
        replace hP := wq_kp hP hk
        clear hk
        refine lv_if_eq (tgt := 143) hx hb dX6_morning_120 (by decide) (fun c32 => ?_) (fun c32 => ?_)
        · replace hG := wq_t c32 hG
          refine lv_aload_n hx hb dX6_morning_143 rfl (lv_at hl 1 rfl) ?_
          refine va_get (D := (dC, dI)) (ci := 6) (v := .ref (qa 3)) (C := RX6) (T := TX6) (N := 9) hx hb hts hinX6 hown hK hP 0 rfl rfl 1 (by decide) k1 (fun _ h9 => h9) rfl dX6_morning_144 ?_
          refine lv_dup hx hb dX6_morning_147 rfl ?_
          refine va_get (D := (dC, dI)) (ci := 0) (v := .int n_day) (C := RX0) (T := TX0) (N := 5) hx hb hts hinX0 hown hK hP 2 rfl rfl 1 (by decide) k2 (fun _ h9 => h9) rfl dX6_morning_148 ?_
          refine lv_iconst (v := 1) hx hb dX6_morning_151 (by decide) ?_
          refine lv_iadd hx hb dX6_morning_152 ?_
          refine va_put (D := (dC, dI)) (ci := 0) (v := .int (n_day + 1)) (ty := tyX0 1) (C := RX0) (T := TX0) (N := 5) hx hb hts hinX0 tyX0 tyX0_ok nmX0 hown hK hP hD hS 2 rfl rfl 1 (by decide) k2 (fun _ h9 => h9) rfl (tyX0_ok 1 (by decide)) rfl rfl (Nat.le_of_ble_eq_true rfl) dX6_morning_153 (fun H locs hP hD hS => ?_)
          replace hP : va_P (dC, dI) vwCl (wcRNPT qa cI cJ cZ r_images r_asked w28 (n_day + 1) v19 n_ill n_done w13 w14 t_tears t_gains t_likings t_settings t_goodbyes t_women) H := hP
          replace hD : va_D A (wcRNPT qa cI cJ cZ r_images r_asked w28 (n_day + 1) v19 n_ill n_done w13 w14 t_tears t_gains t_likings t_settings t_goodbyes t_women) := hD
          refine lv_iload hx hb dX6_morning_156 (lv_at hl 0 rfl) ?_
          obtain ⟨e0, e1, e2, e3, e4, e5, e6⟩ := wq_j7 hG
          subst e0
          subst e1
          subst e2
          subst e3
          subst e4
          subst e5
          subst e6
          exact W.iret hx hb hr (fun t ht hW => ⟨⟨_, (), rfl, ⟨rfl, trivial⟩, by rw [ht]; exact hP, hD⟩, hS.F ht⟩) hS.2.2 dX6_morning_158
        · replace hG := wq_f c32 hG
          refine lv_iload_n hx hb dX6_morning_123 rfl (lv_at hl 3 rfl) ?_
          refine lv_aload_n hx hb dX6_morning_124 rfl (lv_at hl 1 rfl) ?_
          refine va_get (D := (dC, dI)) (ci := 6) (v := .ref (qa 16)) (C := RX6) (T := TX6) (N := 9) hx hb hts hinX6 hown hK hP 0 rfl rfl 6 (by decide) k4 (fun _ h9 => h9) rfl dX6_morning_125 ?_
          refine lv_iconst (v := 3) hx hb dX6_morning_128 (by decide) ?_
          obtain ⟨v34, g33, hG⟩ := wq_b1_s hG
          refine wq_ci (v := v34) (B := wq_tr) (va_runV (As := [.int 3]) (rest := [.int a2]) ⟨hx, hb, hml, hown, hts⟩ (C_X5_setting l dC dI cI cJ cZ qa H.size t_tears t_gains t_likings t_settings t_goodbyes t_women 3 v34 g33) (cwV 1 hts gX6_morning_X5_setting rfl rfl rfl hdV_X5_setting ⟨Nat.le_of_ble_eq_true rfl, Nat.le_of_ble_eq_true rfl⟩) (wq_ppV hK (hP.sub (ws' := wcT qa cI cJ cZ t_tears t_gains t_likings t_settings t_goodbyes t_women) [6, 7, 8, 9, 10] rfl) hE hS hA (ci := 5) (q0 := 0) rfl rfl) rfl rfl hl.1 rfl (lv_room (Nat.le_of_ble_eq_true rfl)) dX6_morning_129 ⟨Nat.zero_le _, Nat.zero_le _⟩) hS hA (fun H locs b35 hk hS => ?_)
          replace hP := wq_kp hP hk
          clear hk
          refine lv_icmp_lt (tgt := 143) hx hb dX6_morning_132 (by decide) (fun c36 => ?_) (fun c36 => ?_)
          · replace hG := wq_t c36 hG
            refine lv_aload_n hx hb dX6_morning_143 rfl (lv_at hl 1 rfl) ?_
            refine va_get (D := (dC, dI)) (ci := 6) (v := .ref (qa 3)) (C := RX6) (T := TX6) (N := 9) hx hb hts hinX6 hown hK hP 0 rfl rfl 1 (by decide) k1 (fun _ h9 => h9) rfl dX6_morning_144 ?_
            refine lv_dup hx hb dX6_morning_147 rfl ?_
            refine va_get (D := (dC, dI)) (ci := 0) (v := .int n_day) (C := RX0) (T := TX0) (N := 5) hx hb hts hinX0 hown hK hP 2 rfl rfl 1 (by decide) k2 (fun _ h9 => h9) rfl dX6_morning_148 ?_
            refine lv_iconst (v := 1) hx hb dX6_morning_151 (by decide) ?_
            refine lv_iadd hx hb dX6_morning_152 ?_
            refine va_put (D := (dC, dI)) (ci := 0) (v := .int (n_day + 1)) (ty := tyX0 1) (C := RX0) (T := TX0) (N := 5) hx hb hts hinX0 tyX0 tyX0_ok nmX0 hown hK hP hD hS 2 rfl rfl 1 (by decide) k2 (fun _ h9 => h9) rfl (tyX0_ok 1 (by decide)) rfl rfl (Nat.le_of_ble_eq_true rfl) dX6_morning_153 (fun H locs hP hD hS => ?_)
            replace hP : va_P (dC, dI) vwCl (wcRNPT qa cI cJ cZ r_images r_asked w28 (n_day + 1) v19 n_ill n_done w13 w14 t_tears t_gains t_likings t_settings t_goodbyes t_women) H := hP
            replace hD : va_D A (wcRNPT qa cI cJ cZ r_images r_asked w28 (n_day + 1) v19 n_ill n_done w13 w14 t_tears t_gains t_likings t_settings t_goodbyes t_women) := hD
            refine lv_iload hx hb dX6_morning_156 (lv_at hl 0 rfl) ?_
            obtain ⟨e0, e1, e2, e3, e4, e5, e6⟩ := wq_j7 hG
            subst e0
            subst e1
            subst e2
            subst e3
            subst e4
            subst e5
            subst e6
            exact W.iret hx hb hr (fun t ht hW => ⟨⟨_, (), rfl, ⟨rfl, trivial⟩, by rw [ht]; exact hP, hD⟩, hS.F ht⟩) hS.2.2 dX6_morning_158
          · replace hG := wq_f c36 hG
            refine lv_aload_n hx hb dX6_morning_135 rfl (lv_at hl 1 rfl) ?_
            refine va_get (D := (dC, dI)) (ci := 6) (v := .ref (qa 3)) (C := RX6) (T := TX6) (N := 9) hx hb hts hinX6 hown hK hP 0 rfl rfl 1 (by decide) k1 (fun _ h9 => h9) rfl dX6_morning_136 ?_
            refine lv_iconst (v := 1) hx hb dX6_morning_139 (by decide) ?_
            refine va_put (D := (dC, dI)) (ci := 0) (v := .int 1) (ty := tyX0 4) (C := RX0) (T := TX0) (N := 5) hx hb hts hinX0 tyX0 tyX0_ok nmX0 hown hK hP hD hS 2 rfl rfl 4 (by decide) k6 (fun _ h9 => h9) rfl (tyX0_ok 4 (by decide)) rfl rfl (Nat.le_of_ble_eq_true rfl) dX6_morning_140 (fun H locs hP hD hS => ?_)
            replace hP : va_P (dC, dI) vwCl (wcRNPT qa cI cJ cZ r_images r_asked w28 n_day v19 n_ill 1 w13 w14 t_tears t_gains t_likings t_settings t_goodbyes t_women) H := hP
            replace hD : va_D A (wcRNPT qa cI cJ cZ r_images r_asked w28 n_day v19 n_ill 1 w13 w14 t_tears t_gains t_likings t_settings t_goodbyes t_women) := hD
            refine lv_aload_n hx hb dX6_morning_143 rfl (lv_at hl 1 rfl) ?_
            refine va_get (D := (dC, dI)) (ci := 6) (v := .ref (qa 3)) (C := RX6) (T := TX6) (N := 9) hx hb hts hinX6 hown hK hP 0 rfl rfl 1 (by decide) k1 (fun _ h9 => h9) rfl dX6_morning_144 ?_
            refine lv_dup hx hb dX6_morning_147 rfl ?_
            refine va_get (D := (dC, dI)) (ci := 0) (v := .int n_day) (C := RX0) (T := TX0) (N := 5) hx hb hts hinX0 hown hK hP 2 rfl rfl 1 (by decide) k2 (fun _ h9 => h9) rfl dX6_morning_148 ?_
            refine lv_iconst (v := 1) hx hb dX6_morning_151 (by decide) ?_
            refine lv_iadd hx hb dX6_morning_152 ?_
            refine va_put (D := (dC, dI)) (ci := 0) (v := .int (n_day + 1)) (ty := tyX0 1) (C := RX0) (T := TX0) (N := 5) hx hb hts hinX0 tyX0 tyX0_ok nmX0 hown hK hP hD hS 2 rfl rfl 1 (by decide) k2 (fun _ h9 => h9) rfl (tyX0_ok 1 (by decide)) rfl rfl (Nat.le_of_ble_eq_true rfl) dX6_morning_153 (fun H locs hP hD hS => ?_)
            replace hP : va_P (dC, dI) vwCl (wcRNPT qa cI cJ cZ r_images r_asked w28 (n_day + 1) v19 n_ill 1 w13 w14 t_tears t_gains t_likings t_settings t_goodbyes t_women) H := hP
            replace hD : va_D A (wcRNPT qa cI cJ cZ r_images r_asked w28 (n_day + 1) v19 n_ill 1 w13 w14 t_tears t_gains t_likings t_settings t_goodbyes t_women) := hD
            refine lv_iload hx hb dX6_morning_156 (lv_at hl 0 rfl) ?_
            obtain ⟨e0, e1, e2, e3, e4, e5, e6⟩ := wq_j7 hG
            subst e0
            subst e1
            subst e2
            subst e3
            subst e4
            subst e5
            subst e6
            exact W.iret hx hb hr (fun t ht hW => ⟨⟨_, (), rfl, ⟨rfl, trivial⟩, by rw [ht]; exact hP, hD⟩, hS.F ht⟩) hS.2.2 dX6_morning_158
      · replace hG := wq_f c9 hG
        refine lv_bipush (v := (-2)) hx hb dX6_morning_36 (by decide) ?_
        obtain ⟨e0, e1, e2, e3, e4, e5, e6⟩ := wq_j7 hG
        subst e0
        subst e1
        subst e2
        subst e3
        subst e4
        subst e5
        subst e6
        exact W.iret hx hb hr (fun t ht hW => ⟨⟨_, (), rfl, ⟨rfl, trivial⟩, by rw [ht]; exact hP, hD⟩, hS.F ht⟩) hS.2.2 dX6_morning_38
  · replace hG := wq_t c4 hG
    refine lv_iconst (v := (-1)) hx hb dX6_morning_10 (by decide) ?_
    obtain ⟨e0, e1, e2, e3, e4, e5, e6⟩ := wq_j7 hG
    subst e0
    subst e1
    subst e2
    subst e3
    subst e4
    subst e5
    subst e6
    exact W.iret hx hb hr (fun t ht hW => ⟨⟨_, (), rfl, ⟨rfl, trivial⟩, by rw [ht]; exact hP, hD⟩, hS.F ht⟩) hS.2.2 dX6_morning_11

