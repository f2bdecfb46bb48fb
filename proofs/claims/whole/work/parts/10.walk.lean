theorem hdV_X4_add : yX4_add.cls = RX4 ∧ yX4_add.cls ≠ "java/lang/invoke/MethodHandle" ∧ yX4_add.cls ≠ "java/lang/invoke/VarHandle" ∧ (parseMethodDescriptor yX4_add.desc).map (fun d => d.parameters.length) = some 1 := by decide +kernel
set_option maxHeartbeats 4000000 in
set_option maxRecDepth 100000 in
theorem C_X4_add (l : Launch) (dC : Nat → ClassId) (dI : Nat → Nat → Nat) (cI cJ cZ : ClassId) (qa : Nat → Nat) (sz : Nat) (x_letters : Nat → Int32) (x_size : Int32) (x_place : Int32) (x_fault : Int32) (x_stold : Int32) (a1 : Int32) (r0 : Int32) (r_x_letters : Nat → Int32) (r_x_size : Int32) (hG : gX4_add x_letters x_size a1 = some (r0, r_x_letters, r_x_size)) : Met l yX4_add wsX4_add ({ frames := 0, cells := 0, slots := 0, locals := 0 } : Room) (va_Pc [.ref (qa 1), .int a1] (wq_pw (dC, dI) [(cI, .int), (cJ, .long), (cZ, .boolean)] (wcX qa cI cJ cZ x_letters x_size x_place x_fault x_stold) sz)) (wq_Wi (dC, dI) r0 wq_tr (wcX qa cI cJ cZ r_x_letters r_x_size x_place x_fault x_stold) (va_A (wcX qa cI cJ cZ x_letters x_size x_place x_fault x_stold) sz)) 0 0 (va_A (wcX qa cI cJ cZ x_letters x_size x_place x_fault x_stold) sz) := by
  refine Met.ofW (cc := cX4_add) (maxL := 2) (ret := (some .int)) (by decide) rfl ?_
  intro p e s m args below meth c s₁ B hml hv
  obtain ⟨rfl, hsz, hP, hK, hD0, hE⟩ := hv
  have hx := B.exec
  have hb := B.bytes
  have hr := B.returns
  have hts := atoms_spec (ws := wsX4_add) B.pre
  have hown : s.vm.findClass RX4 = some m.cls := findClass_of_methodNamed B.named
  have hlocks := B.notSynchronized
  subst hsz
  have hD := hD0.self (sz := s.heap.size)
  generalize hAe : va_A (wcX qa cI cJ cZ x_letters x_size x_place x_fault x_stold) s.heap.size = A at hD hE ⊢
  have hA : ∀ q : Nat, s.heap.size ≤ q → A q := fun q h => by rw [← hAe]; exact Or.inr h
  have hS : va_S A s.heap s.heap [] := va_S.rf
  have hinX4 : ∀ w ∈ u_ws RX4 TX4 5, w ∈ wsX4_add := by decide +kernel
  have k1 := hts (.fieldLink RX4 15 "DoorMornings$Text" "size" "I") (by decide +kernel)
  have k2 := hts (.fieldLink RX4 9 "DoorMornings$Text" "letters" "[I") (by decide +kernel)
  have hl := lv_entry ([.ref (qa 1), .int a1]) (n := 2) (Nat.le_of_ble_eq_true rfl)
  rw [lg_entry_eq]
  generalize (lg_sl ([.ref (qa 1), .int a1]) ++ List.replicate (2 - (lg_sl ([.ref (qa 1), .int a1])).length) Slot.unset).toArray = ls at hl ⊢
  have hl : lv_has ls 2 [(0, .ref (qa 1)), (1, .int a1)] := hl
  unfold gX4_add at hG
  refine lv_aload_n hx hb dX4_add_0 rfl (lv_at hl 0 rfl) ?_
  refine va_get (D := (dC, dI)) (ci := 4) (v := .int x_size) (C := RX4) (T := TX4) (N := 5) hx hb hts hinX4 hown hK hP 0 rfl rfl 1 (by decide) k1 (fun _ h9 => h9) rfl dX4_add_1 ?_
  refine lv_if_lt (tgt := 16) hx hb dX4_add_4 (by decide) (fun c1 => ?_) (fun c1 => ?_)
  · replace hG := wq_t c1 hG
    refine lv_bipush (v := (-3)) hx hb dX4_add_16 (by decide) ?_
    obtain ⟨e0, e1, e2⟩ := wq_j3 hG
    subst e0
    subst e1
    subst e2
    exact W.iret hx hb hr (fun t ht hW => ⟨⟨_, (), rfl, ⟨rfl, trivial⟩, by rw [ht]; exact hP, hD⟩, hS.F ht⟩) hS.2.2 dX4_add_18
  · replace hG := wq_f c1 hG
    refine lv_aload_n hx hb dX4_add_7 rfl (lv_at hl 0 rfl) ?_
    refine va_get (D := (dC, dI)) (ci := 4) (v := .int x_size) (C := RX4) (T := TX4) (N := 5) hx hb hts hinX4 hown hK hP 0 rfl rfl 1 (by decide) k1 (fun _ h9 => h9) rfl dX4_add_8 ?_
    refine lv_bipush (v := 120) hx hb dX4_add_11 (by decide) ?_
    refine lv_icmp_lt (tgt := 19) hx hb dX4_add_13 (by decide) (fun c2 => ?_) (fun c2 => ?_)
    · replace hG := wq_t c2 hG
      refine lv_aload_n hx hb dX4_add_19 rfl (lv_at hl 0 rfl) ?_
      refine va_get (D := (dC, dI)) (ci := 4) (v := .ref (qa 2)) (C := RX4) (T := TX4) (N := 5) hx hb hts hinX4 hown hK hP 0 rfl rfl 0 (by decide) k2 (fun _ h9 => h9) rfl dX4_add_20 ?_
      refine lv_aload_n hx hb dX4_add_23 rfl (lv_at hl 0 rfl) ?_
      refine va_get (D := (dC, dI)) (ci := 4) (v := .int x_size) (C := RX4) (T := TX4) (N := 5) hx hb hts hinX4 hown hK hP 0 rfl rfl 1 (by decide) k1 (fun _ h9 => h9) rfl dX4_add_24 ?_
      refine lv_iload_n hx hb dX4_add_27 rfl (lv_at hl 1 rfl) ?_
      obtain ⟨h3, hG⟩ := wq_chk_s hG
      refine wq_iast (D := (dC, dI)) hx hb hK hP hD hS 1 0 rfl rfl h3 (Int32.toNatClampNeg x_size) rfl (wcX qa cI cJ cZ (upd x_letters (Int32.toNatClampNeg x_size) a1) x_size x_place x_fault x_stold) rfl dX4_add_28 (fun H locs hP hD hS => ?_)
      refine lv_aload_n hx hb dX4_add_29 rfl (lv_at hl 0 rfl) ?_
      refine lv_dup hx hb dX4_add_30 rfl ?_
      refine va_get (D := (dC, dI)) (ci := 4) (v := .int x_size) (C := RX4) (T := TX4) (N := 5) hx hb hts hinX4 hown hK hP 0 rfl rfl 1 (by decide) k1 (fun _ h9 => h9) rfl dX4_add_31 ?_
      refine lv_iconst (v := 1) hx hb dX4_add_34 (by decide) ?_
      refine lv_iadd hx hb dX4_add_35 ?_
      refine va_put (D := (dC, dI)) (ci := 4) (v := .int (x_size + 1)) (ty := tyX4 1) (C := RX4) (T := TX4) (N := 5) hx hb hts hinX4 tyX4 tyX4_ok nmX4 hown hK hP hD hS 0 rfl rfl 1 (by decide) k1 (fun _ h9 => h9) rfl (tyX4_ok 1 (by decide)) rfl rfl (Nat.le_of_ble_eq_true rfl) dX4_add_36 (fun H locs hP hD hS => ?_)
      replace hP : va_P (dC, dI) vwCl (wcX qa cI cJ cZ (upd x_letters (Int32.toNatClampNeg x_size) a1) (x_size + 1) x_place x_fault x_stold) H := hP
      replace hD : va_D A (wcX qa cI cJ cZ (upd x_letters (Int32.toNatClampNeg x_size) a1) (x_size + 1) x_place x_fault x_stold) := hD
      refine lv_aload_n hx hb dX4_add_39 rfl (lv_at hl 0 rfl) ?_
      refine va_get (D := (dC, dI)) (ci := 4) (v := .int (x_size + 1)) (C := RX4) (T := TX4) (N := 5) hx hb hts hinX4 hown hK hP 0 rfl rfl 1 (by decide) k1 (fun _ h9 => h9) rfl dX4_add_40 ?_
      obtain ⟨e0, e1, e2⟩ := wq_j3 hG
      subst e0
      subst e1
      subst e2
      exact W.iret hx hb hr (fun t ht hW => ⟨⟨_, (), rfl, ⟨rfl, trivial⟩, by rw [ht]; exact hP, hD⟩, hS.F ht⟩) hS.2.2 dX4_add_43
    · replace hG := wq_f c2 hG
      refine lv_bipush (v := (-3)) hx hb dX4_add_16 (by decide) ?_
      obtain ⟨e0, e1, e2⟩ := wq_j3 hG
      subst e0
      subst e1
      subst e2
      exact W.iret hx hb hr (fun t ht hW => ⟨⟨_, (), rfl, ⟨rfl, trivial⟩, by rw [ht]; exact hP, hD⟩, hS.F ht⟩) hS.2.2 dX4_add_18

theorem hdV_X6_type : yX6_type.cls = RX6 ∧ yX6_type.cls ≠ "java/lang/invoke/MethodHandle" ∧ yX6_type.cls ≠ "java/lang/invoke/VarHandle" ∧ (parseMethodDescriptor yX6_type.desc).map (fun d => d.parameters.length) = some 1 := by decide +kernel
set_option maxHeartbeats 4000000 in
set_option maxRecDepth 100000 in
theorem C_X6_type (l : Launch) (dC : Nat → ClassId) (dI : Nat → Nat → Nat) (cI cJ cZ : ClassId) (qa : Nat → Nat) (sz : Nat) (r_images : Nat → Int64) (r_asked : Int64) (x_letters : Nat → Int32) (x_size : Int32) (x_place : Int32) (x_fault : Int32) (x_stold : Int32) (a1 : Int32) (r0 : Int32) (r_x_letters : Nat → Int32) (r_x_size : Int32) (hG : gX6_type x_letters x_size a1 = some (r0, r_x_letters, r_x_size)) : Met l yX6_type wsX6_type ({ frames := 1, cells := 0, slots := 0, locals := 21 } : Room) (va_Pc [.ref (qa 0), .int a1] (wq_pw (dC, dI) [(cI, .int), (cJ, .long), (cZ, .boolean)] (wcRX qa cI cJ cZ r_images r_asked x_letters x_size x_place x_fault x_stold) sz)) (wq_Wi (dC, dI) r0 wq_tr (wcRX qa cI cJ cZ r_images r_asked r_x_letters r_x_size x_place x_fault x_stold) (va_A (wcRX qa cI cJ cZ r_images r_asked x_letters x_size x_place x_fault x_stold) sz)) 0 0 (va_A (wcRX qa cI cJ cZ r_images r_asked x_letters x_size x_place x_fault x_stold) sz) := by
  refine Met.ofW (cc := cX6_type) (maxL := 2) (ret := (some .int)) (by decide) rfl ?_
  intro p e s m args below meth c s₁ B hml hv
  obtain ⟨rfl, hsz, hP, hK, hD0, hE⟩ := hv
  have hx := B.exec
  have hb := B.bytes
  have hr := B.returns
  have hts := atoms_spec (ws := wsX6_type) B.pre
  have hown : s.vm.findClass RX6 = some m.cls := findClass_of_methodNamed B.named
  have hlocks := B.notSynchronized
  subst hsz
  have hD := hD0.self (sz := s.heap.size)
  generalize hAe : va_A (wcRX qa cI cJ cZ r_images r_asked x_letters x_size x_place x_fault x_stold) s.heap.size = A at hD hE ⊢
  have hA : ∀ q : Nat, s.heap.size ≤ q → A q := fun q h => by rw [← hAe]; exact Or.inr h
  have hS : va_S A s.heap s.heap [] := va_S.rf
  have hinX6 : ∀ w ∈ u_ws RX6 TX6 9, w ∈ wsX6_type := by decide +kernel
  have k1 := hts (.fieldLink RX6 10 "DoorMornings" "text" "LDoorMornings$Text;") (by decide +kernel)
  have hl := lv_entry ([.ref (qa 0), .int a1]) (n := 2) (Nat.le_of_ble_eq_true rfl)
  rw [lg_entry_eq]
  generalize (lg_sl ([.ref (qa 0), .int a1]) ++ List.replicate (2 - (lg_sl ([.ref (qa 0), .int a1])).length) Slot.unset).toArray = ls at hl ⊢
  have hl : lv_has ls 2 [(0, .ref (qa 0)), (1, .int a1)] := hl
  unfold gX6_type at hG
  refine lv_iload_n hx hb dX6_type_0 rfl (lv_at hl 1 rfl) ?_
  refine lv_if_lt (tgt := 11) hx hb dX6_type_1 (by decide) (fun c1 => ?_) (fun c1 => ?_)
  · replace hG := wq_t c1 hG
    refine lv_iconst (v := (-1)) hx hb dX6_type_11 (by decide) ?_
    obtain ⟨e0, e1, e2⟩ := wq_j3 hG
    subst e0
    subst e1
    subst e2
    exact W.iret hx hb hr (fun t ht hW => ⟨⟨_, (), rfl, ⟨rfl, trivial⟩, by rw [ht]; exact hP, hD⟩, hS.F ht⟩) hS.2.2 dX6_type_12
  · replace hG := wq_f c1 hG
    refine lv_iload_n hx hb dX6_type_4 rfl (lv_at hl 1 rfl) ?_
    refine lv_sipush (v := 255) hx hb dX6_type_5 (by decide) ?_
    refine lv_icmp_le (tgt := 13) hx hb dX6_type_8 (by decide) (fun c2 => ?_) (fun c2 => ?_)
    · replace hG := wq_t c2 hG
      refine lv_aload_n hx hb dX6_type_13 rfl (lv_at hl 0 rfl) ?_
      refine va_get (D := (dC, dI)) (ci := 6) (v := .ref (qa 1)) (C := RX6) (T := TX6) (N := 9) hx hb hts hinX6 hown hK hP 0 rfl rfl 0 (by decide) k1 (fun _ h9 => h9) rfl dX6_type_14 ?_
      refine lv_iload_n hx hb dX6_type_17 rfl (lv_at hl 1 rfl) ?_
      obtain ⟨v4, w5, w6, g3, hG⟩ := wq_b3_s hG
      have hFc := va_free (wc := wcX qa cI cJ cZ x_letters x_size x_place x_fault x_stold) hD hS hA [2, 3] rfl
      refine wq_di (D := (dC, dI)) (v := v4) (B := wq_tr) (wr := wcR qa cI cJ cZ r_images r_asked) (w1 := wcX qa cI cJ cZ w5 w6 x_place x_fault x_stold) (w2 := wcRX qa cI cJ cZ r_images r_asked w5 w6 x_place x_fault x_stold) (va_runV (As := [.int a1]) (rest := []) ⟨hx, hb, hml, hown, hts⟩ (C_X4_add l dC dI cI cJ cZ qa s.heap.size x_letters x_size x_place x_fault x_stold a1 v4 w5 w6 g3) (cwV 1 hts gX6_type_X4_add rfl rfl rfl hdV_X4_add ⟨Nat.le_of_ble_eq_true rfl, Nat.le_of_ble_eq_true rfl⟩) (wq_pwV hK (hP.sub (ws' := wcX qa cI cJ cZ x_letters x_size x_place x_fault x_stold) [2, 3] rfl) (hD.sub (ws' := wcX qa cI cJ cZ x_letters x_size x_place x_fault x_stold) [2, 3] (by decide) rfl) hE hS hFc (ci := 4) (q0 := 0) rfl rfl) rfl rfl hl.1 rfl (lv_room (Nat.le_of_ble_eq_true rfl)) dX6_type_18 ⟨Nat.zero_le _, Nat.zero_le _⟩) hP hD hS hFc [2, 3] [0, 1] [0, 1, 2, 3] rfl rfl (by decide) (by decide) (by decide) rfl (fun H locs b7 hP hD hS => ?_)
      clear hFc
      obtain ⟨e0, e1, e2⟩ := wq_j3 hG
      subst e0
      subst e1
      subst e2
      exact W.iret hx hb hr (fun t ht hW => ⟨⟨_, (), rfl, ⟨rfl, trivial⟩, by rw [ht]; exact hP, hD⟩, hS.F ht⟩) hS.2.2 dX6_type_21
    · replace hG := wq_f c2 hG
      refine lv_iconst (v := (-1)) hx hb dX6_type_11 (by decide) ?_
      obtain ⟨e0, e1, e2⟩ := wq_j3 hG
      subst e0
      subst e1
      subst e2
      exact W.iret hx hb hr (fun t ht hW => ⟨⟨_, (), rfl, ⟨rfl, trivial⟩, by rw [ht]; exact hP, hD⟩, hS.F ht⟩) hS.2.2 dX6_type_12

theorem hdV_X4_empty : yX4_empty.cls = RX4 ∧ yX4_empty.cls ≠ "java/lang/invoke/MethodHandle" ∧ yX4_empty.cls ≠ "java/lang/invoke/VarHandle" ∧ (parseMethodDescriptor yX4_empty.desc).map (fun d => d.parameters.length) = some 0 := by decide +kernel
set_option maxHeartbeats 4000000 in
set_option maxRecDepth 100000 in
theorem C_X4_empty (l : Launch) (dC : Nat → ClassId) (dI : Nat → Nat → Nat) (cI cJ cZ : ClassId) (qa : Nat → Nat) (sz : Nat) (x_letters : Nat → Int32) (x_size : Int32) (x_place : Int32) (x_fault : Int32) (x_stold : Int32) (r0 : Int32) (r_x_size : Int32) (hG : gX4_empty x_size = some (r0, r_x_size)) : Met l yX4_empty wsX4_empty ({ frames := 0, cells := 0, slots := 0, locals := 0 } : Room) (va_Pc [.ref (qa 1)] (wq_pw (dC, dI) [(cI, .int), (cJ, .long), (cZ, .boolean)] (wcX qa cI cJ cZ x_letters x_size x_place x_fault x_stold) sz)) (wq_Wi (dC, dI) r0 wq_tr (wcX qa cI cJ cZ x_letters r_x_size x_place x_fault x_stold) (va_A (wcX qa cI cJ cZ x_letters x_size x_place x_fault x_stold) sz)) 0 0 (va_A (wcX qa cI cJ cZ x_letters x_size x_place x_fault x_stold) sz) := by
  refine Met.ofW (cc := cX4_empty) (maxL := 2) (ret := (some .int)) (by decide) rfl ?_
  intro p e s m args below meth c s₁ B hml hv
  obtain ⟨rfl, hsz, hP, hK, hD0, hE⟩ := hv
  have hx := B.exec
  have hb := B.bytes
  have hr := B.returns
  have hts := atoms_spec (ws := wsX4_empty) B.pre
  have hown : s.vm.findClass RX4 = some m.cls := findClass_of_methodNamed B.named
  have hlocks := B.notSynchronized
  subst hsz
  have hD := hD0.self (sz := s.heap.size)
  generalize hAe : va_A (wcX qa cI cJ cZ x_letters x_size x_place x_fault x_stold) s.heap.size = A at hD hE ⊢
  have hA : ∀ q : Nat, s.heap.size ≤ q → A q := fun q h => by rw [← hAe]; exact Or.inr h
  have hS : va_S A s.heap s.heap [] := va_S.rf
  have hinX4 : ∀ w ∈ u_ws RX4 TX4 5, w ∈ wsX4_empty := by decide +kernel
  have k1 := hts (.fieldLink RX4 15 "DoorMornings$Text" "size" "I") (by decide +kernel)
  have hl := lv_entry ([.ref (qa 1)]) (n := 2) (Nat.le_of_ble_eq_true rfl)
  rw [lg_entry_eq]
  generalize (lg_sl ([.ref (qa 1)]) ++ List.replicate (2 - (lg_sl ([.ref (qa 1)])).length) Slot.unset).toArray = ls at hl ⊢
  have hl : lv_has ls 2 [(0, .ref (qa 1))] := hl
  unfold gX4_empty at hG
  refine lv_aload_n hx hb dX4_empty_0 rfl (lv_at hl 0 rfl) ?_
  refine va_get (D := (dC, dI)) (ci := 4) (v := .int x_size) (C := RX4) (T := TX4) (N := 5) hx hb hts hinX4 hown hK hP 0 rfl rfl 1 (by decide) k1 (fun _ h9 => h9) rfl dX4_empty_1 ?_
  refine lv_istore_n (lv' := [(1, .int x_size), (0, .ref (qa 1))]) hx hb dX4_empty_4 rfl hl (by decide) rfl (fun ls hl => ?_)
  refine lv_aload_n hx hb dX4_empty_5 rfl (lv_at hl 1 rfl) ?_
  refine lv_iconst (v := 0) hx hb dX4_empty_6 (by decide) ?_
  refine va_put (D := (dC, dI)) (ci := 4) (v := .int 0) (ty := tyX4 1) (C := RX4) (T := TX4) (N := 5) hx hb hts hinX4 tyX4 tyX4_ok nmX4 hown hK hP hD hS 0 rfl rfl 1 (by decide) k1 (fun _ h9 => h9) rfl (tyX4_ok 1 (by decide)) rfl rfl (Nat.le_of_ble_eq_true rfl) dX4_empty_7 (fun H locs hP hD hS => ?_)
  replace hP : va_P (dC, dI) vwCl (wcX qa cI cJ cZ x_letters 0 x_place x_fault x_stold) H := hP
  replace hD : va_D A (wcX qa cI cJ cZ x_letters 0 x_place x_fault x_stold) := hD
  refine lv_iload_n hx hb dX4_empty_10 rfl (lv_at hl 0 rfl) ?_
  obtain ⟨e0, e1⟩ := wq_j2 hG
  subst e0
  subst e1
  exact W.iret hx hb hr (fun t ht hW => ⟨⟨_, (), rfl, ⟨rfl, trivial⟩, by rw [ht]; exact hP, hD⟩, hS.F ht⟩) hS.2.2 dX4_empty_11

theorem hdV_X6_clear : yX6_clear.cls = RX6 ∧ yX6_clear.cls ≠ "java/lang/invoke/MethodHandle" ∧ yX6_clear.cls ≠ "java/lang/invoke/VarHandle" ∧ (parseMethodDescriptor yX6_clear.desc).map (fun d => d.parameters.length) = some 0 := by decide +kernel
set_option maxHeartbeats 4000000 in
set_option maxRecDepth 100000 in
theorem C_X6_clear (l : Launch) (dC : Nat → ClassId) (dI : Nat → Nat → Nat) (cI cJ cZ : ClassId) (qa : Nat → Nat) (sz : Nat) (r_images : Nat → Int64) (r_asked : Int64) (x_letters : Nat → Int32) (x_size : Int32) (x_place : Int32) (x_fault : Int32) (x_stold : Int32) (r0 : Int32) (r_x_size : Int32) (hG : gX6_clear x_size = some (r0, r_x_size)) : Met l yX6_clear wsX6_clear ({ frames := 1, cells := 0, slots := 0, locals := 21 } : Room) (va_Pc [.ref (qa 0)] (wq_pw (dC, dI) [(cI, .int), (cJ, .long), (cZ, .boolean)] (wcRX qa cI cJ cZ r_images r_asked x_letters x_size x_place x_fault x_stold) sz)) (wq_Wi (dC, dI) r0 wq_tr (wcRX qa cI cJ cZ r_images r_asked x_letters r_x_size x_place x_fault x_stold) (va_A (wcRX qa cI cJ cZ r_images r_asked x_letters x_size x_place x_fault x_stold) sz)) 0 0 (va_A (wcRX qa cI cJ cZ r_images r_asked x_letters x_size x_place x_fault x_stold) sz) := by
  refine Met.ofW (cc := cX6_clear) (maxL := 1) (ret := (some .int)) (by decide) rfl ?_
  intro p e s m args below meth c s₁ B hml hv
  obtain ⟨rfl, hsz, hP, hK, hD0, hE⟩ := hv
  have hx := B.exec
  have hb := B.bytes
  have hr := B.returns
  have hts := atoms_spec (ws := wsX6_clear) B.pre
  have hown : s.vm.findClass RX6 = some m.cls := findClass_of_methodNamed B.named
  have hlocks := B.notSynchronized
  subst hsz
  have hD := hD0.self (sz := s.heap.size)
  generalize hAe : va_A (wcRX qa cI cJ cZ r_images r_asked x_letters x_size x_place x_fault x_stold) s.heap.size = A at hD hE ⊢
  have hA : ∀ q : Nat, s.heap.size ≤ q → A q := fun q h => by rw [← hAe]; exact Or.inr h
  have hS : va_S A s.heap s.heap [] := va_S.rf
  have hinX6 : ∀ w ∈ u_ws RX6 TX6 9, w ∈ wsX6_clear := by decide +kernel
  have k1 := hts (.fieldLink RX6 10 "DoorMornings" "text" "LDoorMornings$Text;") (by decide +kernel)
  have hl := lv_entry ([.ref (qa 0)]) (n := 1) (Nat.le_of_ble_eq_true rfl)
  rw [lg_entry_eq]
  generalize (lg_sl ([.ref (qa 0)]) ++ List.replicate (1 - (lg_sl ([.ref (qa 0)])).length) Slot.unset).toArray = ls at hl ⊢
  have hl : lv_has ls 1 [(0, .ref (qa 0))] := hl
  unfold gX6_clear at hG
  refine lv_aload_n hx hb dX6_clear_0 rfl (lv_at hl 0 rfl) ?_
  refine va_get (D := (dC, dI)) (ci := 6) (v := .ref (qa 1)) (C := RX6) (T := TX6) (N := 9) hx hb hts hinX6 hown hK hP 0 rfl rfl 0 (by decide) k1 (fun _ h9 => h9) rfl dX6_clear_1 ?_
  obtain ⟨v2, w3, g1, hG⟩ := wq_b2_s hG
  have hFc := va_free (wc := wcX qa cI cJ cZ x_letters x_size x_place x_fault x_stold) hD hS hA [2, 3] rfl
  refine wq_di (D := (dC, dI)) (v := v2) (B := wq_tr) (wr := wcR qa cI cJ cZ r_images r_asked) (w1 := wcX qa cI cJ cZ x_letters w3 x_place x_fault x_stold) (w2 := wcRX qa cI cJ cZ r_images r_asked x_letters w3 x_place x_fault x_stold) (va_runV (As := []) (rest := []) ⟨hx, hb, hml, hown, hts⟩ (C_X4_empty l dC dI cI cJ cZ qa s.heap.size x_letters x_size x_place x_fault x_stold  v2 w3 g1) (cwV 0 hts gX6_clear_X4_empty rfl rfl rfl hdV_X4_empty ⟨Nat.le_of_ble_eq_true rfl, Nat.le_of_ble_eq_true rfl⟩) (wq_pwV hK (hP.sub (ws' := wcX qa cI cJ cZ x_letters x_size x_place x_fault x_stold) [2, 3] rfl) (hD.sub (ws' := wcX qa cI cJ cZ x_letters x_size x_place x_fault x_stold) [2, 3] (by decide) rfl) hE hS hFc (ci := 4) (q0 := 0) rfl rfl) rfl rfl hl.1 rfl (lv_room (Nat.le_of_ble_eq_true rfl)) dX6_clear_4 ⟨Nat.zero_le _, Nat.zero_le _⟩) hP hD hS hFc [2, 3] [0, 1] [0, 1, 2, 3] rfl rfl (by decide) (by decide) (by decide) rfl (fun H locs b4 hP hD hS => ?_)
  clear hFc
  obtain ⟨e0, e1⟩ := wq_j2 hG
  subst e0
  subst e1
  exact W.iret hx hb hr (fun t ht hW => ⟨⟨_, (), rfl, ⟨rfl, trivial⟩, by rw [ht]; exact hP, hD⟩, hS.F ht⟩) hS.2.2 dX6_clear_7

theorem hdV_X5_startAnew : yX5_startAnew.cls = RX5 ∧ yX5_startAnew.cls ≠ "java/lang/invoke/MethodHandle" ∧ yX5_startAnew.cls ≠ "java/lang/invoke/VarHandle" ∧ (parseMethodDescriptor yX5_startAnew.desc).map (fun d => d.parameters.length) = some 0 := by decide +kernel
set_option maxHeartbeats 4000000 in
set_option maxRecDepth 100000 in
theorem C_X5_startAnew (l : Launch) (dC : Nat → ClassId) (dI : Nat → Nat → Nat) (cI cJ cZ : ClassId) (qa : Nat → Nat) (sz : Nat) (d_tears : Nat → Int32) (d_gains : Nat → Int32) (d_likings : Nat → Int32) (d_settings : Nat → Int32) (d_goodbyes : Int32) (d_women : Int32) (r_d_settings : Nat → Int32) (r_d_goodbyes : Int32) (r_d_women : Int32) (hG : gX5_startAnew d_settings d_goodbyes d_women = some (r_d_settings, r_d_goodbyes, r_d_women)) : Met l yX5_startAnew wsX5_startAnew ({ frames := 0, cells := 0, slots := 0, locals := 0 } : Room) (va_Pc [.ref (qa 21)] (wq_pw (dC, dI) [(cI, .int), (cJ, .long), (cZ, .boolean)] (wcD qa cI cJ cZ d_tears d_gains d_likings d_settings d_goodbyes d_women) sz)) (wq_Wv (dC, dI) (wcD qa cI cJ cZ d_tears d_gains d_likings r_d_settings r_d_goodbyes r_d_women) (va_A (wcD qa cI cJ cZ d_tears d_gains d_likings d_settings d_goodbyes d_women) sz)) 0 0 (va_A (wcD qa cI cJ cZ d_tears d_gains d_likings d_settings d_goodbyes d_women) sz) := by
  refine Met.ofW (cc := cX5_startAnew) (maxL := 2) (ret := none) (by decide) rfl ?_
  intro p e s m args below meth c s₁ B hml hv
  obtain ⟨rfl, hsz, hP, hK, hD0, hE⟩ := hv
  have hx := B.exec
  have hb := B.bytes
  have hr := B.returns
  have hts := atoms_spec (ws := wsX5_startAnew) B.pre
  have hown : s.vm.findClass RX5 = some m.cls := findClass_of_methodNamed B.named
  have hlocks := B.notSynchronized
  subst hsz
  have hD := hD0.self (sz := s.heap.size)
  generalize hAe : va_A (wcD qa cI cJ cZ d_tears d_gains d_likings d_settings d_goodbyes d_women) s.heap.size = A at hD hE ⊢
  have hA : ∀ q : Nat, s.heap.size ≤ q → A q := fun q h => by rw [← hAe]; exact Or.inr h
  have hS : va_S A s.heap s.heap [] := va_S.rf
  obtain ⟨t_FIRST_SETTING, hZ_FIRST_SETTING, hT_FIRST_SETTING⟩ := hE.2.2.1
  have hinX5 : ∀ w ∈ u_ws RX5 TX5 6, w ∈ wsX5_startAnew := by decide +kernel
  have k1 := hts (.fieldLink RX5 29 "DoorMornings$Told" "settings" "[I") (by decide +kernel)
  have k2 := hts (.fieldLink RX5 32 "DoorMornings$Told" "goodbyes" "I") (by decide +kernel)
  have k3 := hts (.fieldLink RX5 36 "DoorMornings$Told" "women" "I") (by decide +kernel)
  have hl := lv_entry ([.ref (qa 21)]) (n := 2) (Nat.le_of_ble_eq_true rfl)
  rw [lg_entry_eq]
  generalize (lg_sl ([.ref (qa 21)]) ++ List.replicate (2 - (lg_sl ([.ref (qa 21)])).length) Slot.unset).toArray = ls at hl ⊢
  have hl : lv_has ls 2 [(0, .ref (qa 21))] := hl
  have hL12 : ∀ (z_d_goodbyes : Int32) (z_d_women : Int32) (n : Nat) (x1 : Int32) (z_d_settings : Nat → Int32) (H : Heap) (locs : List Loc) (ls : Array Slot), gX5_startAnew_L12 z_d_goodbyes z_d_women n x1 z_d_settings = some (r_d_settings, r_d_goodbyes, r_d_women) → va_P (dC, dI) vwCl (wcD qa cI cJ cZ d_tears d_gains d_likings z_d_settings z_d_goodbyes z_d_women) H → va_D A (wcD qa cI cJ cZ d_tears d_gains d_likings z_d_settings z_d_goodbyes z_d_women) → va_S A s.heap H locs → lv_has ls 2 [(0, .ref (qa 21)), (1, .int x1)] → W p l e (headSpec wsX5_startAnew ({ frames := 0, cells := 0, slots := 0, locals := 0 } : Room)).room s m ([.ref (qa 21)] : List Value).toArray below meth c H locs 0 0 (MQ below (wq_Wv (dC, dI) (wcD qa cI cJ cZ d_tears d_gains d_likings r_d_settings r_d_goodbyes r_d_women) A) ([.ref (qa 21)] : List Value).toArray s 0 0 A) (F0 m 12 ls []) := by
    intro z_d_goodbyes z_d_women n
    induction n with
    | zero =>
      intro x1 z_d_settings H locs ls hG
      exact absurd (show (none : Option ((Nat → Int32) × Int32 × Int32)) = some (r_d_settings, r_d_goodbyes, r_d_women) from hG) (by intro h9; cases h9)
    | succ n ih12 =>
      intro x1 z_d_settings H locs ls hG hP hD hS hl
      rw [gX5_startAnew_L12] at hG
      refine lv_iload_n hx hb dX5_startAnew_12 rfl (lv_at hl 1 rfl) ?_
      refine lv_iconst (v := 4) hx hb dX5_startAnew_13 (by decide) ?_
      refine lv_icmp_ge (tgt := 34) hx hb dX5_startAnew_14 (by decide) (fun c1 => ?_) (fun c1 => ?_)
      · replace hG := wq_t c1 hG
        obtain ⟨e0, e1, e2⟩ := wq_j3 hG
        subst e0
        subst e1
        subst e2
        exact W.vret hx hb hr (fun t ht hW => ⟨⟨(), rfl, trivial, by rw [ht]; exact hP, hD⟩, hS.F ht⟩) hS.2.2 dX5_startAnew_34
      · replace hG := wq_f c1 hG
        refine lv_aload_n hx hb dX5_startAnew_17 rfl (lv_at hl 0 rfl) ?_
        refine va_get (D := (dC, dI)) (ci := 5) (v := .ref (qa 25)) (C := RX5) (T := TX5) (N := 6) hx hb hts hinX5 hown hK hP 0 rfl rfl 3 (by decide) k1 (fun _ h9 => h9) rfl dX5_startAnew_18 ?_
        refine lv_iload_n hx hb dX5_startAnew_21 rfl (lv_at hl 1 rfl) ?_
        refine va_getsN hx hb hZ_FIRST_SETTING hS hown (va_Nw.use rfl hE.2.1.1) (fun _ h9 => h9) dX5_startAnew_22 ?_
        refine lv_iload_n hx hb dX5_startAnew_25 rfl (lv_at hl 1 rfl) ?_
        obtain ⟨h2, hG⟩ := wq_chk_s hG
        refine va_ti hx hb hT_FIRST_SETTING hS h2 (v := .int (wq_first (Int32.toNatClampNeg x1))) rfl dX5_startAnew_26 ?_
        refine wq_iast (D := (dC, dI)) hx hb hK hP hD hS 4 0 rfl rfl h2 (Int32.toNatClampNeg x1) rfl (wcD qa cI cJ cZ d_tears d_gains d_likings (upd z_d_settings (Int32.toNatClampNeg x1) (wq_first (Int32.toNatClampNeg x1))) z_d_goodbyes z_d_women) rfl dX5_startAnew_27 (fun H locs hP hD hS => ?_)
        refine lv_iinc (v := (x1 + 1)) (lv' := [(1, .int (x1 + 1)), (0, .ref (qa 21))]) hx hb dX5_startAnew_28 hl (k := 1) rfl rfl (by decide) rfl (fun ls hl => ?_)
        refine lv_goto (tgt := 12) hx hb dX5_startAnew_31 (by decide) ?_
        exact ih12 (x1 + 1) (upd z_d_settings (Int32.toNatClampNeg x1) (wq_first (Int32.toNatClampNeg x1))) _ _ _ hG hP hD hS (lv_sub hl [1, 0] rfl)
  unfold gX5_startAnew at hG
  refine lv_aload_n hx hb dX5_startAnew_0 rfl (lv_at hl 0 rfl) ?_
  refine lv_iconst (v := 0) hx hb dX5_startAnew_1 (by decide) ?_
  refine va_put (D := (dC, dI)) (ci := 5) (v := .int 0) (ty := tyX5 4) (C := RX5) (T := TX5) (N := 6) hx hb hts hinX5 tyX5 tyX5_ok nmX5 hown hK hP hD hS 0 rfl rfl 4 (by decide) k2 (fun _ h9 => h9) rfl (tyX5_ok 4 (by decide)) rfl rfl (Nat.le_of_ble_eq_true rfl) dX5_startAnew_2 (fun H locs hP hD hS => ?_)
  replace hP : va_P (dC, dI) vwCl (wcD qa cI cJ cZ d_tears d_gains d_likings d_settings 0 d_women) H := hP
  replace hD : va_D A (wcD qa cI cJ cZ d_tears d_gains d_likings d_settings 0 d_women) := hD
  refine lv_aload_n hx hb dX5_startAnew_5 rfl (lv_at hl 0 rfl) ?_
  refine lv_iconst (v := 0) hx hb dX5_startAnew_6 (by decide) ?_
  refine va_put (D := (dC, dI)) (ci := 5) (v := .int 0) (ty := tyX5 5) (C := RX5) (T := TX5) (N := 6) hx hb hts hinX5 tyX5 tyX5_ok nmX5 hown hK hP hD hS 0 rfl rfl 5 (by decide) k3 (fun _ h9 => h9) rfl (tyX5_ok 5 (by decide)) rfl rfl (Nat.le_of_ble_eq_true rfl) dX5_startAnew_7 (fun H locs hP hD hS => ?_)
  replace hP : va_P (dC, dI) vwCl (wcD qa cI cJ cZ d_tears d_gains d_likings d_settings 0 0) H := hP
  replace hD : va_D A (wcD qa cI cJ cZ d_tears d_gains d_likings d_settings 0 0) := hD
  refine lv_iconst (v := 0) hx hb dX5_startAnew_10 (by decide) ?_
  refine lv_istore_n (lv' := [(1, .int 0), (0, .ref (qa 21))]) hx hb dX5_startAnew_11 rfl hl (by decide) rfl (fun ls hl => ?_)
  exact hL12 0 0 1000 0 d_settings _ _ _ hG hP hD hS (lv_sub hl [1, 0] rfl)

theorem hdV_X4_letterAt : yX4_letterAt.cls = RX4 ∧ yX4_letterAt.cls ≠ "java/lang/invoke/MethodHandle" ∧ yX4_letterAt.cls ≠ "java/lang/invoke/VarHandle" ∧ (parseMethodDescriptor yX4_letterAt.desc).map (fun d => d.parameters.length) = some 1 := by decide +kernel
set_option maxHeartbeats 4000000 in
set_option maxRecDepth 100000 in
theorem C_X4_letterAt (l : Launch) (dC : Nat → ClassId) (dI : Nat → Nat → Nat) (cI cJ cZ : ClassId) (qa : Nat → Nat) (sz : Nat) (x_letters : Nat → Int32) (x_size : Int32) (x_place : Int32) (x_fault : Int32) (x_stold : Int32) (a1 : Int32) (r0 : Int32) (hG : gX4_letterAt x_letters x_size a1 = some r0) : Met l yX4_letterAt wsX4_letterAt ({ frames := 0, cells := 0, slots := 0, locals := 0 } : Room) (va_Pc [.ref (qa 1), .int a1] (wq_pp (dC, dI) [(cI, .int), (cJ, .long), (cZ, .boolean)] (wcX qa cI cJ cZ x_letters x_size x_place x_fault x_stold) sz)) (wq_Qi r0 wq_tr (va_A [] sz)) 0 0 (va_A [] sz) := by
  refine Met.ofW (cc := cX4_letterAt) (maxL := 2) (ret := (some .int)) (by decide) rfl ?_
  intro p e s m args below meth c s₁ B hml hv
  obtain ⟨rfl, hsz, hP, hK, hE⟩ := hv
  have hx := B.exec
  have hb := B.bytes
  have hr := B.returns
  have hts := atoms_spec (ws := wsX4_letterAt) B.pre
  have hown : s.vm.findClass RX4 = some m.cls := findClass_of_methodNamed B.named
  have hlocks := B.notSynchronized
  subst hsz
  generalize hAe : va_A [] s.heap.size = A at hE ⊢
  have hA : ∀ q : Nat, s.heap.size ≤ q → A q := fun q h => by rw [← hAe]; exact Or.inr h
  have hS : va_S A s.heap s.heap [] := va_S.rf
  have hinX4 : ∀ w ∈ u_ws RX4 TX4 5, w ∈ wsX4_letterAt := by decide +kernel
  have k1 := hts (.fieldLink RX4 15 "DoorMornings$Text" "size" "I") (by decide +kernel)
  have k2 := hts (.fieldLink RX4 9 "DoorMornings$Text" "letters" "[I") (by decide +kernel)
  have hl := lv_entry ([.ref (qa 1), .int a1]) (n := 2) (Nat.le_of_ble_eq_true rfl)
  rw [lg_entry_eq]
  generalize (lg_sl ([.ref (qa 1), .int a1]) ++ List.replicate (2 - (lg_sl ([.ref (qa 1), .int a1])).length) Slot.unset).toArray = ls at hl ⊢
  have hl : lv_has ls 2 [(0, .ref (qa 1)), (1, .int a1)] := hl
  unfold gX4_letterAt at hG
  refine lv_iload_n hx hb dX4_letterAt_0 rfl (lv_at hl 1 rfl) ?_
  refine lv_if_lt (tgt := 27) hx hb dX4_letterAt_1 (by decide) (fun c1 => ?_) (fun c1 => ?_)
  · replace hG := wq_t c1 hG
    refine lv_iconst (v := (-1)) hx hb dX4_letterAt_27 (by decide) ?_
    exact W.iret (v := (-1)) hx hb hr (fun t ht hW => ⟨⟨(-1), (), rfl, ⟨Option.some.inj hG, trivial⟩, trivial⟩, hS.F ht⟩) hS.2.2 dX4_letterAt_28
  · replace hG := wq_f c1 hG
    refine lv_iload_n hx hb dX4_letterAt_4 rfl (lv_at hl 1 rfl) ?_
    refine lv_aload_n hx hb dX4_letterAt_5 rfl (lv_at hl 0 rfl) ?_
    refine va_get (D := (dC, dI)) (ci := 4) (v := .int x_size) (C := RX4) (T := TX4) (N := 5) hx hb hts hinX4 hown hK hP 0 rfl rfl 1 (by decide) k1 (fun _ h9 => h9) rfl dX4_letterAt_6 ?_
    refine lv_icmp_ge (tgt := 27) hx hb dX4_letterAt_9 (by decide) (fun c2 => ?_) (fun c2 => ?_)
    · replace hG := wq_t c2 hG
      refine lv_iconst (v := (-1)) hx hb dX4_letterAt_27 (by decide) ?_
      exact W.iret (v := (-1)) hx hb hr (fun t ht hW => ⟨⟨(-1), (), rfl, ⟨Option.some.inj hG, trivial⟩, trivial⟩, hS.F ht⟩) hS.2.2 dX4_letterAt_28
    · replace hG := wq_f c2 hG
      refine lv_iload_n hx hb dX4_letterAt_12 rfl (lv_at hl 1 rfl) ?_
      refine lv_bipush (v := 120) hx hb dX4_letterAt_13 (by decide) ?_
      refine lv_icmp_ge (tgt := 27) hx hb dX4_letterAt_15 (by decide) (fun c3 => ?_) (fun c3 => ?_)
      · replace hG := wq_t c3 hG
        refine lv_iconst (v := (-1)) hx hb dX4_letterAt_27 (by decide) ?_
        exact W.iret (v := (-1)) hx hb hr (fun t ht hW => ⟨⟨(-1), (), rfl, ⟨Option.some.inj hG, trivial⟩, trivial⟩, hS.F ht⟩) hS.2.2 dX4_letterAt_28
      · replace hG := wq_f c3 hG
        refine lv_aload_n hx hb dX4_letterAt_18 rfl (lv_at hl 0 rfl) ?_
        refine va_get (D := (dC, dI)) (ci := 4) (v := .ref (qa 2)) (C := RX4) (T := TX4) (N := 5) hx hb hts hinX4 hown hK hP 0 rfl rfl 0 (by decide) k2 (fun _ h9 => h9) rfl dX4_letterAt_19 ?_
        refine lv_iload_n hx hb dX4_letterAt_22 rfl (lv_at hl 1 rfl) ?_
        obtain ⟨h4, hG⟩ := wq_chk_s hG
        refine wq_iald (D := (dC, dI)) hx hb hK hP 1 0 rfl rfl h4 (Int32.toNatClampNeg a1) rfl dX4_letterAt_23 ?_
        refine lv_goto (tgt := 28) hx hb dX4_letterAt_24 (by decide) ?_
        exact W.iret (v := (x_letters (Int32.toNatClampNeg a1))) hx hb hr (fun t ht hW => ⟨⟨(x_letters (Int32.toNatClampNeg a1)), (), rfl, ⟨Option.some.inj hG, trivial⟩, trivial⟩, hS.F ht⟩) hS.2.2 dX4_letterAt_28

theorem hdV_X4_skipBlanks : yX4_skipBlanks.cls = RX4 ∧ yX4_skipBlanks.cls ≠ "java/lang/invoke/MethodHandle" ∧ yX4_skipBlanks.cls ≠ "java/lang/invoke/VarHandle" ∧ (parseMethodDescriptor yX4_skipBlanks.desc).map (fun d => d.parameters.length) = some 0 := by decide +kernel
set_option maxHeartbeats 4000000 in
set_option maxRecDepth 100000 in
theorem C_X4_skipBlanks (l : Launch) (dC : Nat → ClassId) (dI : Nat → Nat → Nat) (cI cJ cZ : ClassId) (qa : Nat → Nat) (sz : Nat) (x_letters : Nat → Int32) (x_size : Int32) (x_place : Int32) (x_fault : Int32) (x_stold : Int32) (r_x_place : Int32) (hG : gX4_skipBlanks x_letters x_size x_place = some r_x_place) : Met l yX4_skipBlanks wsX4_skipBlanks ({ frames := 1, cells := 0, slots := 0, locals := 21 } : Room) (va_Pc [.ref (qa 1)] (wq_pw (dC, dI) [(cI, .int), (cJ, .long), (cZ, .boolean)] (wcX qa cI cJ cZ x_letters x_size x_place x_fault x_stold) sz)) (wq_Wv (dC, dI) (wcX qa cI cJ cZ x_letters x_size r_x_place x_fault x_stold) (va_A (wcX qa cI cJ cZ x_letters x_size x_place x_fault x_stold) sz)) 0 0 (va_A (wcX qa cI cJ cZ x_letters x_size x_place x_fault x_stold) sz) := by
  refine Met.ofW (cc := cX4_skipBlanks) (maxL := 1) (ret := none) (by decide) rfl ?_
  intro p e s m args below meth c s₁ B hml hv
  obtain ⟨rfl, hsz, hP, hK, hD0, hE⟩ := hv
  have hx := B.exec
  have hb := B.bytes
  have hr := B.returns
  have hts := atoms_spec (ws := wsX4_skipBlanks) B.pre
  have hown : s.vm.findClass RX4 = some m.cls := findClass_of_methodNamed B.named
  have hlocks := B.notSynchronized
  subst hsz
  have hD := hD0.self (sz := s.heap.size)
  generalize hAe : va_A (wcX qa cI cJ cZ x_letters x_size x_place x_fault x_stold) s.heap.size = A at hD hE ⊢
  have hA : ∀ q : Nat, s.heap.size ≤ q → A q := fun q h => by rw [← hAe]; exact Or.inr h
  have hS : va_S A s.heap s.heap [] := va_S.rf
  have hinX4 : ∀ w ∈ u_ws RX4 TX4 5, w ∈ wsX4_skipBlanks := by decide +kernel
  have k1 := hts (.fieldLink RX4 19 "DoorMornings$Text" "place" "I") (by decide +kernel)
  have k2 := hts (.fieldLink RX4 15 "DoorMornings$Text" "size" "I") (by decide +kernel)
  have hl := lv_entry ([.ref (qa 1)]) (n := 1) (Nat.le_of_ble_eq_true rfl)
  rw [lg_entry_eq]
  generalize (lg_sl ([.ref (qa 1)]) ++ List.replicate (1 - (lg_sl ([.ref (qa 1)])).length) Slot.unset).toArray = ls at hl ⊢
  have hl : lv_has ls 1 [(0, .ref (qa 1))] := hl
  have hL0 : ∀  (n : Nat) (z_x_place : Int32) (H : Heap) (locs : List Loc) (ls : Array Slot), gX4_skipBlanks_L0 x_letters x_size n z_x_place = some r_x_place → va_P (dC, dI) vwCl (wcX qa cI cJ cZ x_letters x_size z_x_place x_fault x_stold) H → va_D A (wcX qa cI cJ cZ x_letters x_size z_x_place x_fault x_stold) → va_S A s.heap H locs → lv_has ls 1 [(0, .ref (qa 1))] → W p l e (headSpec wsX4_skipBlanks ({ frames := 1, cells := 0, slots := 0, locals := 21 } : Room)).room s m ([.ref (qa 1)] : List Value).toArray below meth c H locs 0 0 (MQ below (wq_Wv (dC, dI) (wcX qa cI cJ cZ x_letters x_size r_x_place x_fault x_stold) A) ([.ref (qa 1)] : List Value).toArray s 0 0 A) (F0 m 0 ls []) := by
    intro  n
    induction n with
    | zero =>
      intro z_x_place H locs ls hG
      exact absurd (show (none : Option (Int32)) = some r_x_place from hG) (by intro h9; cases h9)
    | succ n ih0 =>
      intro z_x_place H locs ls hG hP hD hS hl
      rw [gX4_skipBlanks_L0] at hG
      refine lv_aload_n hx hb dX4_skipBlanks_0 rfl (lv_at hl 0 rfl) ?_
      refine va_get (D := (dC, dI)) (ci := 4) (v := .int z_x_place) (C := RX4) (T := TX4) (N := 5) hx hb hts hinX4 hown hK hP 0 rfl rfl 2 (by decide) k1 (fun _ h9 => h9) rfl dX4_skipBlanks_1 ?_
      refine lv_aload_n hx hb dX4_skipBlanks_4 rfl (lv_at hl 0 rfl) ?_
      refine va_get (D := (dC, dI)) (ci := 4) (v := .int x_size) (C := RX4) (T := TX4) (N := 5) hx hb hts hinX4 hown hK hP 0 rfl rfl 1 (by decide) k2 (fun _ h9 => h9) rfl dX4_skipBlanks_5 ?_
      refine lv_icmp_ge (tgt := 37) hx hb dX4_skipBlanks_8 (by decide) (fun c1 => ?_) (fun c1 => ?_)
      · replace hG := wq_t c1 hG
        have e0 := Option.some.inj hG
        subst e0
        exact W.vret hx hb hr (fun t ht hW => ⟨⟨(), rfl, trivial, by rw [ht]; exact hP, hD⟩, hS.F ht⟩) hS.2.2 dX4_skipBlanks_37
      · replace hG := wq_f c1 hG
        refine lv_aload_n hx hb dX4_skipBlanks_11 rfl (lv_at hl 0 rfl) ?_
        refine lv_aload_n hx hb dX4_skipBlanks_12 rfl (lv_at hl 0 rfl) ?_
        refine va_get (D := (dC, dI)) (ci := 4) (v := .int z_x_place) (C := RX4) (T := TX4) (N := 5) hx hb hts hinX4 hown hK hP 0 rfl rfl 2 (by decide) k1 (fun _ h9 => h9) rfl dX4_skipBlanks_13 ?_
        obtain ⟨v3, g2, hG⟩ := wq_b1_s hG
        refine wq_ci (v := v3) (B := wq_tr) (va_runV (As := [.int z_x_place]) (rest := []) ⟨hx, hb, hml, hown, hts⟩ (C_X4_letterAt l dC dI cI cJ cZ qa H.size x_letters x_size z_x_place x_fault x_stold z_x_place v3 g2) (cwV 1 hts gX4_skipBlanks_X4_letterAt rfl rfl rfl hdV_X4_letterAt ⟨Nat.le_of_ble_eq_true rfl, Nat.le_of_ble_eq_true rfl⟩) (wq_ppV hK hP hE hS hA (ci := 4) (q0 := 0) rfl rfl) rfl rfl hl.1 rfl (lv_room (Nat.le_of_ble_eq_true rfl)) dX4_skipBlanks_16 ⟨Nat.zero_le _, Nat.zero_le _⟩) hS hA (fun H locs b4 hk hS => ?_)
        replace hP := wq_kp hP hk
        clear hk
        refine lv_bipush (v := 32) hx hb dX4_skipBlanks_19 (by decide) ?_
        refine lv_icmp_ne (tgt := 37) hx hb dX4_skipBlanks_21 (by decide) (fun c5 => ?_) (fun c5 => ?_)
        · replace hG := wq_f c5 hG
          have e0 := Option.some.inj hG
          subst e0
          exact W.vret hx hb hr (fun t ht hW => ⟨⟨(), rfl, trivial, by rw [ht]; exact hP, hD⟩, hS.F ht⟩) hS.2.2 dX4_skipBlanks_37
        · replace hG := wq_t c5 hG
          refine lv_aload_n hx hb dX4_skipBlanks_24 rfl (lv_at hl 0 rfl) ?_
          refine lv_dup hx hb dX4_skipBlanks_25 rfl ?_
          refine va_get (D := (dC, dI)) (ci := 4) (v := .int z_x_place) (C := RX4) (T := TX4) (N := 5) hx hb hts hinX4 hown hK hP 0 rfl rfl 2 (by decide) k1 (fun _ h9 => h9) rfl dX4_skipBlanks_26 ?_
          refine lv_iconst (v := 1) hx hb dX4_skipBlanks_29 (by decide) ?_
          refine lv_iadd hx hb dX4_skipBlanks_30 ?_
          refine va_put (D := (dC, dI)) (ci := 4) (v := .int (z_x_place + 1)) (ty := tyX4 2) (C := RX4) (T := TX4) (N := 5) hx hb hts hinX4 tyX4 tyX4_ok nmX4 hown hK hP hD hS 0 rfl rfl 2 (by decide) k1 (fun _ h9 => h9) rfl (tyX4_ok 2 (by decide)) rfl rfl (Nat.le_of_ble_eq_true rfl) dX4_skipBlanks_31 (fun H locs hP hD hS => ?_)
          replace hP : va_P (dC, dI) vwCl (wcX qa cI cJ cZ x_letters x_size (z_x_place + 1) x_fault x_stold) H := hP
          replace hD : va_D A (wcX qa cI cJ cZ x_letters x_size (z_x_place + 1) x_fault x_stold) := hD
          refine lv_goto (tgt := 0) hx hb dX4_skipBlanks_34 (by decide) ?_
          exact ih0 (z_x_place + 1) _ _ _ hG hP hD hS (lv_sub hl [0] rfl)
  unfold gX4_skipBlanks at hG
  exact hL0  1000 x_place _ _ _ hG hP hD hS (lv_sub hl [0] rfl)

theorem hdV_X4_failsAt : yX4_failsAt.cls = RX4 ∧ yX4_failsAt.cls ≠ "java/lang/invoke/MethodHandle" ∧ yX4_failsAt.cls ≠ "java/lang/invoke/VarHandle" ∧ (parseMethodDescriptor yX4_failsAt.desc).map (fun d => d.parameters.length) = some 1 := by decide +kernel
set_option maxHeartbeats 4000000 in
set_option maxRecDepth 100000 in
theorem C_X4_failsAt (l : Launch) (dC : Nat → ClassId) (dI : Nat → Nat → Nat) (cI cJ cZ : ClassId) (qa : Nat → Nat) (sz : Nat) (x_letters : Nat → Int32) (x_size : Int32) (x_place : Int32) (x_fault : Int32) (x_stold : Int32) (a1 : Int32) (r0 : Int32) (r_x_fault : Int32) (hG : gX4_failsAt x_fault a1 = some (r0, r_x_fault)) : Met l yX4_failsAt wsX4_failsAt ({ frames := 0, cells := 0, slots := 0, locals := 0 } : Room) (va_Pc [.ref (qa 1), .int a1] (wq_pw (dC, dI) [(cI, .int), (cJ, .long), (cZ, .boolean)] (wcX qa cI cJ cZ x_letters x_size x_place x_fault x_stold) sz)) (wq_Wi (dC, dI) r0 wq_Z1 (wcX qa cI cJ cZ x_letters x_size x_place r_x_fault x_stold) (va_A (wcX qa cI cJ cZ x_letters x_size x_place x_fault x_stold) sz)) 0 0 (va_A (wcX qa cI cJ cZ x_letters x_size x_place x_fault x_stold) sz) := by
  refine Met.ofW (cc := cX4_failsAt) (maxL := 2) (ret := (some .boolean)) (by decide) rfl ?_
  intro p e s m args below meth c s₁ B hml hv
  obtain ⟨rfl, hsz, hP, hK, hD0, hE⟩ := hv
  have hx := B.exec
  have hb := B.bytes
  have hr := B.returns
  have hts := atoms_spec (ws := wsX4_failsAt) B.pre
  have hown : s.vm.findClass RX4 = some m.cls := findClass_of_methodNamed B.named
  have hlocks := B.notSynchronized
  subst hsz
  have hD := hD0.self (sz := s.heap.size)
  generalize hAe : va_A (wcX qa cI cJ cZ x_letters x_size x_place x_fault x_stold) s.heap.size = A at hD hE ⊢
  have hA : ∀ q : Nat, s.heap.size ≤ q → A q := fun q h => by rw [← hAe]; exact Or.inr h
  have hS : va_S A s.heap s.heap [] := va_S.rf
  have hinX4 : ∀ w ∈ u_ws RX4 TX4 5, w ∈ wsX4_failsAt := by decide +kernel
  have k1 := hts (.fieldLink RX4 22 "DoorMornings$Text" "fault" "I") (by decide +kernel)
  have hl := lv_entry ([.ref (qa 1), .int a1]) (n := 2) (Nat.le_of_ble_eq_true rfl)
  rw [lg_entry_eq]
  generalize (lg_sl ([.ref (qa 1), .int a1]) ++ List.replicate (2 - (lg_sl ([.ref (qa 1), .int a1])).length) Slot.unset).toArray = ls at hl ⊢
  have hl : lv_has ls 2 [(0, .ref (qa 1)), (1, .int a1)] := hl
  unfold gX4_failsAt at hG
  refine lv_aload_n hx hb dX4_failsAt_0 rfl (lv_at hl 0 rfl) ?_
  refine lv_iload_n hx hb dX4_failsAt_1 rfl (lv_at hl 1 rfl) ?_
  refine va_put (D := (dC, dI)) (ci := 4) (v := .int a1) (ty := tyX4 3) (C := RX4) (T := TX4) (N := 5) hx hb hts hinX4 tyX4 tyX4_ok nmX4 hown hK hP hD hS 0 rfl rfl 3 (by decide) k1 (fun _ h9 => h9) rfl (tyX4_ok 3 (by decide)) rfl rfl (Nat.le_of_ble_eq_true rfl) dX4_failsAt_2 (fun H locs hP hD hS => ?_)
  replace hP : va_P (dC, dI) vwCl (wcX qa cI cJ cZ x_letters x_size x_place a1 x_stold) H := hP
  replace hD : va_D A (wcX qa cI cJ cZ x_letters x_size x_place a1 x_stold) := hD
  refine lv_iconst (v := 0) hx hb dX4_failsAt_5 (by decide) ?_
  obtain ⟨e0, e1⟩ := wq_j2 hG
  subst e0
  subst e1
  exact W.zret hx hb hr (wq_Z1_n (Or.inl rfl)) (fun t ht hW => ⟨⟨_, (), rfl, ⟨rfl, (Or.inl rfl)⟩, by rw [ht]; exact hP, hD⟩, hS.F ht⟩) hS.2.2 dX4_failsAt_6

