theorem hdV_X4_readGoodbye : yX4_readGoodbye.cls = RX4 ∧ yX4_readGoodbye.cls ≠ "java/lang/invoke/MethodHandle" ∧ yX4_readGoodbye.cls ≠ "java/lang/invoke/VarHandle" ∧ (parseMethodDescriptor yX4_readGoodbye.desc).map (fun d => d.parameters.length) = some 1 := by decide +kernel
set_option maxHeartbeats 4000000 in
set_option maxRecDepth 100000 in
theorem C_X4_readGoodbye (l : Launch) (dC : Nat → ClassId) (dI : Nat → Nat → Nat) (cI cJ cZ : ClassId) (qa : Nat → Nat) (sz : Nat) (x_letters : Nat → Int32) (x_size : Int32) (x_place : Int32) (x_fault : Int32) (x_stold : Int32) (d_tears : Nat → Int32) (d_gains : Nat → Int32) (d_likings : Nat → Int32) (d_settings : Nat → Int32) (d_goodbyes : Int32) (d_women : Int32) (r0 : Int32) (r_x_place : Int32) (r_x_fault : Int32) (r_d_tears : Nat → Int32) (r_d_gains : Nat → Int32) (r_d_goodbyes : Int32) (hG : gX4_readGoodbye x_letters x_size x_place x_fault d_tears d_gains d_goodbyes = some (r0, r_x_place, r_x_fault, r_d_tears, r_d_gains, r_d_goodbyes)) : Met l yX4_readGoodbye wsX4_readGoodbye ({ frames := 3, cells := 0, slots := 0, locals := 67 } : Room) (va_Pc [.ref (qa 1), .ref (qa 21)] (wq_pw (dC, dI) [(cI, .int), (cJ, .long), (cZ, .boolean)] (wcXD qa cI cJ cZ x_letters x_size x_place x_fault x_stold d_tears d_gains d_likings d_settings d_goodbyes d_women) sz)) (wq_Wi (dC, dI) r0 wq_Z1 (wcXD qa cI cJ cZ x_letters x_size r_x_place r_x_fault x_stold r_d_tears r_d_gains d_likings d_settings r_d_goodbyes d_women) (va_A (wcXD qa cI cJ cZ x_letters x_size x_place x_fault x_stold d_tears d_gains d_likings d_settings d_goodbyes d_women) sz)) 0 0 (va_A (wcXD qa cI cJ cZ x_letters x_size x_place x_fault x_stold d_tears d_gains d_likings d_settings d_goodbyes d_women) sz) := by
  refine Met.ofW (cc := cX4_readGoodbye) (maxL := 4) (ret := (some .boolean)) (by decide) rfl ?_
  intro p e s m args below meth c s₁ B hml hv
  obtain ⟨rfl, hsz, hP, hK, hD0, hE⟩ := hv
  have hx := B.exec
  have hb := B.bytes
  have hr := B.returns
  have hts := atoms_spec (ws := wsX4_readGoodbye) B.pre
  have hown : s.vm.findClass RX4 = some m.cls := findClass_of_methodNamed B.named
  have hlocks := B.notSynchronized
  subst hsz
  have hD := hD0.self (sz := s.heap.size)
  generalize hAe : va_A (wcXD qa cI cJ cZ x_letters x_size x_place x_fault x_stold d_tears d_gains d_likings d_settings d_goodbyes d_women) s.heap.size = A at hD hE ⊢
  have hA : ∀ q : Nat, s.heap.size ≤ q → A q := fun q h => by rw [← hAe]; exact Or.inr h
  have hS : va_S A s.heap s.heap [] := va_S.rf
  have hinX5 : ∀ w ∈ u_ws RX5 TX5 6, w ∈ wsX4_readGoodbye := by decide +kernel
  have hinX4 : ∀ w ∈ u_ws RX4 TX4 5, w ∈ wsX4_readGoodbye := by decide +kernel
  have k1 := hts (.fieldLink RX4 58 "DoorMornings$Told" "goodbyes" "I") (by decide +kernel)
  have k2 := hts (.fieldLink RX4 19 "DoorMornings$Text" "place" "I") (by decide +kernel)
  have hl := lv_entry ([.ref (qa 1), .ref (qa 21)]) (n := 4) (Nat.le_of_ble_eq_true rfl)
  rw [lg_entry_eq]
  generalize (lg_sl ([.ref (qa 1), .ref (qa 21)]) ++ List.replicate (4 - (lg_sl ([.ref (qa 1), .ref (qa 21)])).length) Slot.unset).toArray = ls at hl ⊢
  have hl : lv_has ls 4 [(0, .ref (qa 1)), (1, .ref (qa 21))] := hl
  unfold gX4_readGoodbye at hG
  refine lv_aload_n hx hb dX4_readGoodbye_0 rfl (lv_at hl 1 rfl) ?_
  refine va_get (D := (dC, dI)) (ci := 5) (v := .int d_goodbyes) (C := RX5) (T := TX5) (N := 6) hx hb hts hinX5 hown hK hP 2 rfl rfl 4 (by decide) k1 (fun _ h9 => h9) rfl dX4_readGoodbye_1 ?_
  refine lv_iconst (v := 5) hx hb dX4_readGoodbye_4 (by decide) ?_
  refine lv_icmp_lt (tgt := 17) hx hb dX4_readGoodbye_5 (by decide) (fun c1 => ?_) (fun c1 => ?_)
  · replace hG := wq_t c1 hG
    refine lv_aload_n hx hb dX4_readGoodbye_17 rfl (lv_at hl 0 rfl) ?_
    refine lv_dup hx hb dX4_readGoodbye_18 rfl ?_
    refine va_get (D := (dC, dI)) (ci := 4) (v := .int x_place) (C := RX4) (T := TX4) (N := 5) hx hb hts hinX4 hown hK hP 0 rfl rfl 2 (by decide) k2 (fun _ h9 => h9) rfl dX4_readGoodbye_19 ?_
    refine lv_iconst (v := 1) hx hb dX4_readGoodbye_22 (by decide) ?_
    refine lv_iadd hx hb dX4_readGoodbye_23 ?_
    refine va_put (D := (dC, dI)) (ci := 4) (v := .int (x_place + 1)) (ty := tyX4 2) (C := RX4) (T := TX4) (N := 5) hx hb hts hinX4 tyX4 tyX4_ok nmX4 hown hK hP hD hS 0 rfl rfl 2 (by decide) k2 (fun _ h9 => h9) rfl (tyX4_ok 2 (by decide)) rfl rfl (Nat.le_of_ble_eq_true rfl) dX4_readGoodbye_24 (fun H locs hP hD hS => ?_)
    replace hP : va_P (dC, dI) vwCl (wcXD qa cI cJ cZ x_letters x_size (x_place + 1) x_fault x_stold d_tears d_gains d_likings d_settings d_goodbyes d_women) H := hP
    replace hD : va_D A (wcXD qa cI cJ cZ x_letters x_size (x_place + 1) x_fault x_stold d_tears d_gains d_likings d_settings d_goodbyes d_women) := hD
    refine lv_aload_n hx hb dX4_readGoodbye_27 rfl (lv_at hl 0 rfl) ?_
    refine lv_iconst (v := 0) hx hb dX4_readGoodbye_28 (by decide) ?_
    refine lv_bipush (v := 40) hx hb dX4_readGoodbye_29 (by decide) ?_
    obtain ⟨v3, w4, w5, g2, hG⟩ := wq_b3_s hG
    have hFc := va_free (wc := wcX qa cI cJ cZ x_letters x_size (x_place + 1) x_fault x_stold) hD hS hA [0, 1] rfl
    refine wq_di (D := (dC, dI)) (v := v3) (B := wq_tr) (wr := wcD qa cI cJ cZ d_tears d_gains d_likings d_settings d_goodbyes d_women) (w1 := wcX qa cI cJ cZ x_letters x_size w4 w5 x_stold) (w2 := wcXD qa cI cJ cZ x_letters x_size w4 w5 x_stold d_tears d_gains d_likings d_settings d_goodbyes d_women) (va_runV (As := [.int 0, .int 40]) (rest := []) ⟨hx, hb, hml, hown, hts⟩ (C_X4_readNumber l dC dI cI cJ cZ qa H.size x_letters x_size (x_place + 1) x_fault x_stold 0 40 v3 w4 w5 g2) (cwV 2 hts gX4_readGoodbye_X4_readNumber rfl rfl rfl hdV_X4_readNumber ⟨Nat.le_of_ble_eq_true rfl, Nat.le_of_ble_eq_true rfl⟩) (wq_pwV hK (hP.sub (ws' := wcX qa cI cJ cZ x_letters x_size (x_place + 1) x_fault x_stold) [0, 1] rfl) (hD.sub (ws' := wcX qa cI cJ cZ x_letters x_size (x_place + 1) x_fault x_stold) [0, 1] (by decide) rfl) hE hS hFc (ci := 4) (q0 := 0) rfl rfl) rfl rfl hl.1 rfl (lv_room (Nat.le_of_ble_eq_true rfl)) dX4_readGoodbye_31 ⟨Nat.zero_le _, Nat.zero_le _⟩) hP hD hS hFc [0, 1] [2, 3, 4, 5, 6] [5, 6, 0, 1, 2, 3, 4] rfl rfl (by decide) (by decide) (by decide) rfl (fun H locs b6 hP hD hS => ?_)
    clear hFc
    refine lv_istore_n (lv' := [(2, .int v3), (0, .ref (qa 1)), (1, .ref (qa 21))]) hx hb dX4_readGoodbye_34 rfl hl (by decide) rfl (fun ls hl => ?_)
    refine lv_iload_n hx hb dX4_readGoodbye_35 rfl (lv_at hl 0 rfl) ?_
    refine lv_if_ge (tgt := 41) hx hb dX4_readGoodbye_36 (by decide) (fun c7 => ?_) (fun c7 => ?_)
    · replace hG := wq_t c7 hG
      refine lv_aload_n hx hb dX4_readGoodbye_41 rfl (lv_at hl 1 rfl) ?_
      refine lv_iconst (v := 0) hx hb dX4_readGoodbye_42 (by decide) ?_
      refine lv_iconst (v := 3) hx hb dX4_readGoodbye_43 (by decide) ?_
      obtain ⟨v9, w10, w11, g8, hG⟩ := wq_b3_s hG
      have hFc := va_free (wc := wcX qa cI cJ cZ x_letters x_size w4 w5 x_stold) hD hS hA [0, 1] rfl
      refine wq_di (D := (dC, dI)) (v := v9) (B := wq_tr) (wr := wcD qa cI cJ cZ d_tears d_gains d_likings d_settings d_goodbyes d_women) (w1 := wcX qa cI cJ cZ x_letters x_size w10 w11 x_stold) (w2 := wcXD qa cI cJ cZ x_letters x_size w10 w11 x_stold d_tears d_gains d_likings d_settings d_goodbyes d_women) (va_runV (As := [.int 0, .int 3]) (rest := []) ⟨hx, hb, hml, hown, hts⟩ (C_X4_readNumber l dC dI cI cJ cZ qa H.size x_letters x_size w4 w5 x_stold 0 3 v9 w10 w11 g8) (cwV 2 hts gX4_readGoodbye_X4_readNumber rfl rfl rfl hdV_X4_readNumber ⟨Nat.le_of_ble_eq_true rfl, Nat.le_of_ble_eq_true rfl⟩) (wq_pwV hK (hP.sub (ws' := wcX qa cI cJ cZ x_letters x_size w4 w5 x_stold) [0, 1] rfl) (hD.sub (ws' := wcX qa cI cJ cZ x_letters x_size w4 w5 x_stold) [0, 1] (by decide) rfl) hE hS hFc (ci := 4) (q0 := 0) rfl rfl) rfl rfl hl.1 rfl (lv_room (Nat.le_of_ble_eq_true rfl)) dX4_readGoodbye_44 ⟨Nat.zero_le _, Nat.zero_le _⟩) hP hD hS hFc [0, 1] [2, 3, 4, 5, 6] [5, 6, 0, 1, 2, 3, 4] rfl rfl (by decide) (by decide) (by decide) rfl (fun H locs b12 hP hD hS => ?_)
      clear hFc
      refine lv_istore_n (lv' := [(3, .int v9), (2, .int v3), (0, .ref (qa 1)), (1, .ref (qa 21))]) hx hb dX4_readGoodbye_47 rfl hl (by decide) rfl (fun ls hl => ?_)
      refine lv_iload_n hx hb dX4_readGoodbye_48 rfl (lv_at hl 0 rfl) ?_
      refine lv_if_ge (tgt := 54) hx hb dX4_readGoodbye_49 (by decide) (fun c13 => ?_) (fun c13 => ?_)
      · replace hG := wq_t c13 hG
        refine lv_aload_n hx hb dX4_readGoodbye_54 rfl (lv_at hl 3 rfl) ?_
        refine lv_iload_n hx hb dX4_readGoodbye_55 rfl (lv_at hl 1 rfl) ?_
        refine lv_iload_n hx hb dX4_readGoodbye_56 rfl (lv_at hl 0 rfl) ?_
        obtain ⟨w15, w16, w17, g14, hG⟩ := wq_b3_s hG
        have hFc := va_free (wc := wcD qa cI cJ cZ d_tears d_gains d_likings d_settings d_goodbyes d_women) hD hS hA [2, 3, 4, 5, 6] rfl
        refine wq_dv (D := (dC, dI)) (wr := wcX qa cI cJ cZ x_letters x_size w10 w11 x_stold) (w1 := wcD qa cI cJ cZ w15 w16 d_likings d_settings w17 d_women) (w2 := wcXD qa cI cJ cZ x_letters x_size w10 w11 x_stold w15 w16 d_likings d_settings w17 d_women) (va_runV (As := [.int v3, .int v9]) (rest := []) ⟨hx, hb, hml, hown, hts⟩ (C_X5_addGoodbye l dC dI cI cJ cZ qa H.size d_tears d_gains d_likings d_settings d_goodbyes d_women v3 v9 w15 w16 w17 g14) (cwV 2 hts gX4_readGoodbye_X5_addGoodbye rfl rfl rfl hdV_X5_addGoodbye ⟨Nat.le_of_ble_eq_true rfl, Nat.le_of_ble_eq_true rfl⟩) (wq_pwV hK (hP.sub (ws' := wcD qa cI cJ cZ d_tears d_gains d_likings d_settings d_goodbyes d_women) [2, 3, 4, 5, 6] rfl) (hD.sub (ws' := wcD qa cI cJ cZ d_tears d_gains d_likings d_settings d_goodbyes d_women) [2, 3, 4, 5, 6] (by decide) rfl) hE hS hFc (ci := 5) (q0 := 0) rfl rfl) rfl rfl hl.1 rfl (lv_room (Nat.le_of_ble_eq_true rfl)) dX4_readGoodbye_57 ⟨Nat.zero_le _, Nat.zero_le _⟩) hP hD hS hFc [2, 3, 4, 5, 6] [0, 1] [0, 1, 2, 3, 4, 5, 6] rfl rfl (by decide) (by decide) (by decide) rfl (fun H locs hP hD hS => ?_)
        clear hFc
        refine lv_aload_n hx hb dX4_readGoodbye_60 rfl (lv_at hl 2 rfl) ?_
        obtain ⟨v19, w20, w21, g18, hG⟩ := wq_b3_s hG
        have hFc := va_free (wc := wcX qa cI cJ cZ x_letters x_size w10 w11 x_stold) hD hS hA [0, 1] rfl
        refine wq_di (D := (dC, dI)) (v := v19) (B := wq_Z1) (wr := wcD qa cI cJ cZ w15 w16 d_likings d_settings w17 d_women) (w1 := wcX qa cI cJ cZ x_letters x_size w20 w21 x_stold) (w2 := wcXD qa cI cJ cZ x_letters x_size w20 w21 x_stold w15 w16 d_likings d_settings w17 d_women) (va_runV (As := []) (rest := []) ⟨hx, hb, hml, hown, hts⟩ (C_X4_readEnd l dC dI cI cJ cZ qa H.size x_letters x_size w10 w11 x_stold  v19 w20 w21 g18) (cwV 0 hts gX4_readGoodbye_X4_readEnd rfl rfl rfl hdV_X4_readEnd ⟨Nat.le_of_ble_eq_true rfl, Nat.le_of_ble_eq_true rfl⟩) (wq_pwV hK (hP.sub (ws' := wcX qa cI cJ cZ x_letters x_size w10 w11 x_stold) [0, 1] rfl) (hD.sub (ws' := wcX qa cI cJ cZ x_letters x_size w10 w11 x_stold) [0, 1] (by decide) rfl) hE hS hFc (ci := 4) (q0 := 0) rfl rfl) rfl rfl hl.1 rfl (lv_room (Nat.le_of_ble_eq_true rfl)) dX4_readGoodbye_61 ⟨Nat.zero_le _, Nat.zero_le _⟩) hP hD hS hFc [0, 1] [2, 3, 4, 5, 6] [5, 6, 0, 1, 2, 3, 4] rfl rfl (by decide) (by decide) (by decide) rfl (fun H locs b22 hP hD hS => ?_)
        clear hFc
        obtain ⟨e0, e1, e2, e3, e4, e5⟩ := wq_j6 hG
        subst e0
        subst e1
        subst e2
        subst e3
        subst e4
        subst e5
        exact W.zret hx hb hr (wq_Z1_n b22) (fun t ht hW => ⟨⟨_, (), rfl, ⟨rfl, b22⟩, by rw [ht]; exact hP, hD⟩, hS.F ht⟩) hS.2.2 dX4_readGoodbye_64
      · replace hG := wq_f c13 hG
        refine lv_iconst (v := 0) hx hb dX4_readGoodbye_52 (by decide) ?_
        obtain ⟨e0, e1, e2, e3, e4, e5⟩ := wq_j6 hG
        subst e0
        subst e1
        subst e2
        subst e3
        subst e4
        subst e5
        exact W.zret hx hb hr (wq_Z1_n (Or.inl rfl)) (fun t ht hW => ⟨⟨_, (), rfl, ⟨rfl, (Or.inl rfl)⟩, by rw [ht]; exact hP, hD⟩, hS.F ht⟩) hS.2.2 dX4_readGoodbye_53
    · replace hG := wq_f c7 hG
      refine lv_iconst (v := 0) hx hb dX4_readGoodbye_39 (by decide) ?_
      obtain ⟨e0, e1, e2, e3, e4, e5⟩ := wq_j6 hG
      subst e0
      subst e1
      subst e2
      subst e3
      subst e4
      subst e5
      exact W.zret hx hb hr (wq_Z1_n (Or.inl rfl)) (fun t ht hW => ⟨⟨_, (), rfl, ⟨rfl, (Or.inl rfl)⟩, by rw [ht]; exact hP, hD⟩, hS.F ht⟩) hS.2.2 dX4_readGoodbye_40
  · replace hG := wq_f c1 hG
    refine lv_aload_n hx hb dX4_readGoodbye_8 rfl (lv_at hl 0 rfl) ?_
    refine lv_aload_n hx hb dX4_readGoodbye_9 rfl (lv_at hl 0 rfl) ?_
    refine va_get (D := (dC, dI)) (ci := 4) (v := .int x_place) (C := RX4) (T := TX4) (N := 5) hx hb hts hinX4 hown hK hP 0 rfl rfl 2 (by decide) k2 (fun _ h9 => h9) rfl dX4_readGoodbye_10 ?_
    obtain ⟨v24, w25, g23, hG⟩ := wq_b2_s hG
    have hFc := va_free (wc := wcX qa cI cJ cZ x_letters x_size x_place x_fault x_stold) hD hS hA [0, 1] rfl
    refine wq_di (D := (dC, dI)) (v := v24) (B := wq_Z1) (wr := wcD qa cI cJ cZ d_tears d_gains d_likings d_settings d_goodbyes d_women) (w1 := wcX qa cI cJ cZ x_letters x_size x_place w25 x_stold) (w2 := wcXD qa cI cJ cZ x_letters x_size x_place w25 x_stold d_tears d_gains d_likings d_settings d_goodbyes d_women) (va_runV (As := [.int x_place]) (rest := []) ⟨hx, hb, hml, hown, hts⟩ (C_X4_failsAt l dC dI cI cJ cZ qa s.heap.size x_letters x_size x_place x_fault x_stold x_place v24 w25 g23) (cwV 1 hts gX4_readGoodbye_X4_failsAt rfl rfl rfl hdV_X4_failsAt ⟨Nat.le_of_ble_eq_true rfl, Nat.le_of_ble_eq_true rfl⟩) (wq_pwV hK (hP.sub (ws' := wcX qa cI cJ cZ x_letters x_size x_place x_fault x_stold) [0, 1] rfl) (hD.sub (ws' := wcX qa cI cJ cZ x_letters x_size x_place x_fault x_stold) [0, 1] (by decide) rfl) hE hS hFc (ci := 4) (q0 := 0) rfl rfl) rfl rfl hl.1 rfl (lv_room (Nat.le_of_ble_eq_true rfl)) dX4_readGoodbye_13 ⟨Nat.zero_le _, Nat.zero_le _⟩) hP hD hS hFc [0, 1] [2, 3, 4, 5, 6] [5, 6, 0, 1, 2, 3, 4] rfl rfl (by decide) (by decide) (by decide) rfl (fun H locs b26 hP hD hS => ?_)
    clear hFc
    obtain ⟨e0, e1, e2, e3, e4, e5⟩ := wq_j6 hG
    subst e0
    subst e1
    subst e2
    subst e3
    subst e4
    subst e5
    exact W.zret hx hb hr (wq_Z1_n b26) (fun t ht hW => ⟨⟨_, (), rfl, ⟨rfl, b26⟩, by rw [ht]; exact hP, hD⟩, hS.F ht⟩) hS.2.2 dX4_readGoodbye_16

theorem hdV_X5_addWoman : yX5_addWoman.cls = RX5 ∧ yX5_addWoman.cls ≠ "java/lang/invoke/MethodHandle" ∧ yX5_addWoman.cls ≠ "java/lang/invoke/VarHandle" ∧ (parseMethodDescriptor yX5_addWoman.desc).map (fun d => d.parameters.length) = some 1 := by decide +kernel
set_option maxHeartbeats 4000000 in
set_option maxRecDepth 100000 in
theorem C_X5_addWoman (l : Launch) (dC : Nat → ClassId) (dI : Nat → Nat → Nat) (cI cJ cZ : ClassId) (qa : Nat → Nat) (sz : Nat) (d_tears : Nat → Int32) (d_gains : Nat → Int32) (d_likings : Nat → Int32) (d_settings : Nat → Int32) (d_goodbyes : Int32) (d_women : Int32) (a1 : Int32) (r_d_likings : Nat → Int32) (r_d_women : Int32) (hG : gX5_addWoman d_likings d_women a1 = some (r_d_likings, r_d_women)) : Met l yX5_addWoman wsX5_addWoman ({ frames := 0, cells := 0, slots := 0, locals := 0 } : Room) (va_Pc [.ref (qa 21), .int a1] (wq_pw (dC, dI) [(cI, .int), (cJ, .long), (cZ, .boolean)] (wcD qa cI cJ cZ d_tears d_gains d_likings d_settings d_goodbyes d_women) sz)) (wq_Wv (dC, dI) (wcD qa cI cJ cZ d_tears d_gains r_d_likings d_settings d_goodbyes r_d_women) (va_A (wcD qa cI cJ cZ d_tears d_gains d_likings d_settings d_goodbyes d_women) sz)) 0 0 (va_A (wcD qa cI cJ cZ d_tears d_gains d_likings d_settings d_goodbyes d_women) sz) := by
  refine Met.ofW (cc := cX5_addWoman) (maxL := 2) (ret := none) (by decide) rfl ?_
  intro p e s m args below meth c s₁ B hml hv
  obtain ⟨rfl, hsz, hP, hK, hD0, hE⟩ := hv
  have hx := B.exec
  have hb := B.bytes
  have hr := B.returns
  have hts := atoms_spec (ws := wsX5_addWoman) B.pre
  have hown : s.vm.findClass RX5 = some m.cls := findClass_of_methodNamed B.named
  have hlocks := B.notSynchronized
  subst hsz
  have hD := hD0.self (sz := s.heap.size)
  generalize hAe : va_A (wcD qa cI cJ cZ d_tears d_gains d_likings d_settings d_goodbyes d_women) s.heap.size = A at hD hE ⊢
  have hA : ∀ q : Nat, s.heap.size ≤ q → A q := fun q h => by rw [← hAe]; exact Or.inr h
  have hS : va_S A s.heap s.heap [] := va_S.rf
  have hinX5 : ∀ w ∈ u_ws RX5 TX5 6, w ∈ wsX5_addWoman := by decide +kernel
  have k1 := hts (.fieldLink RX5 36 "DoorMornings$Told" "women" "I") (by decide +kernel)
  have k2 := hts (.fieldLink RX5 18 "DoorMornings$Told" "likings" "[I") (by decide +kernel)
  have hl := lv_entry ([.ref (qa 21), .int a1]) (n := 2) (Nat.le_of_ble_eq_true rfl)
  rw [lg_entry_eq]
  generalize (lg_sl ([.ref (qa 21), .int a1]) ++ List.replicate (2 - (lg_sl ([.ref (qa 21), .int a1])).length) Slot.unset).toArray = ls at hl ⊢
  have hl : lv_has ls 2 [(0, .ref (qa 21)), (1, .int a1)] := hl
  unfold gX5_addWoman at hG
  refine lv_aload_n hx hb dX5_addWoman_0 rfl (lv_at hl 0 rfl) ?_
  refine va_get (D := (dC, dI)) (ci := 5) (v := .int d_women) (C := RX5) (T := TX5) (N := 6) hx hb hts hinX5 hown hK hP 0 rfl rfl 5 (by decide) k1 (fun _ h9 => h9) rfl dX5_addWoman_1 ?_
  refine lv_if_lt (tgt := 15) hx hb dX5_addWoman_4 (by decide) (fun c1 => ?_) (fun c1 => ?_)
  · replace hG := wq_t c1 hG
    obtain ⟨e0, e1⟩ := wq_j2 hG
    subst e0
    subst e1
    exact W.vret hx hb hr (fun t ht hW => ⟨⟨(), rfl, trivial, by rw [ht]; exact hP, hD⟩, hS.F ht⟩) hS.2.2 dX5_addWoman_15
  · replace hG := wq_f c1 hG
    refine lv_aload_n hx hb dX5_addWoman_7 rfl (lv_at hl 0 rfl) ?_
    refine va_get (D := (dC, dI)) (ci := 5) (v := .int d_women) (C := RX5) (T := TX5) (N := 6) hx hb hts hinX5 hown hK hP 0 rfl rfl 5 (by decide) k1 (fun _ h9 => h9) rfl dX5_addWoman_8 ?_
    refine lv_iconst (v := 4) hx hb dX5_addWoman_11 (by decide) ?_
    refine lv_icmp_lt (tgt := 16) hx hb dX5_addWoman_12 (by decide) (fun c2 => ?_) (fun c2 => ?_)
    · replace hG := wq_t c2 hG
      refine lv_aload_n hx hb dX5_addWoman_16 rfl (lv_at hl 0 rfl) ?_
      refine va_get (D := (dC, dI)) (ci := 5) (v := .ref (qa 24)) (C := RX5) (T := TX5) (N := 6) hx hb hts hinX5 hown hK hP 0 rfl rfl 2 (by decide) k2 (fun _ h9 => h9) rfl dX5_addWoman_17 ?_
      refine lv_aload_n hx hb dX5_addWoman_20 rfl (lv_at hl 0 rfl) ?_
      refine va_get (D := (dC, dI)) (ci := 5) (v := .int d_women) (C := RX5) (T := TX5) (N := 6) hx hb hts hinX5 hown hK hP 0 rfl rfl 5 (by decide) k1 (fun _ h9 => h9) rfl dX5_addWoman_21 ?_
      refine lv_iload_n hx hb dX5_addWoman_24 rfl (lv_at hl 1 rfl) ?_
      obtain ⟨h3, hG⟩ := wq_chk_s hG
      refine wq_iast (D := (dC, dI)) hx hb hK hP hD hS 3 0 rfl rfl h3 (Int32.toNatClampNeg d_women) rfl (wcD qa cI cJ cZ d_tears d_gains (upd d_likings (Int32.toNatClampNeg d_women) a1) d_settings d_goodbyes d_women) rfl dX5_addWoman_25 (fun H locs hP hD hS => ?_)
      refine lv_aload_n hx hb dX5_addWoman_26 rfl (lv_at hl 0 rfl) ?_
      refine lv_dup hx hb dX5_addWoman_27 rfl ?_
      refine va_get (D := (dC, dI)) (ci := 5) (v := .int d_women) (C := RX5) (T := TX5) (N := 6) hx hb hts hinX5 hown hK hP 0 rfl rfl 5 (by decide) k1 (fun _ h9 => h9) rfl dX5_addWoman_28 ?_
      refine lv_iconst (v := 1) hx hb dX5_addWoman_31 (by decide) ?_
      refine lv_iadd hx hb dX5_addWoman_32 ?_
      refine va_put (D := (dC, dI)) (ci := 5) (v := .int (d_women + 1)) (ty := tyX5 5) (C := RX5) (T := TX5) (N := 6) hx hb hts hinX5 tyX5 tyX5_ok nmX5 hown hK hP hD hS 0 rfl rfl 5 (by decide) k1 (fun _ h9 => h9) rfl (tyX5_ok 5 (by decide)) rfl rfl (Nat.le_of_ble_eq_true rfl) dX5_addWoman_33 (fun H locs hP hD hS => ?_)
      replace hP : va_P (dC, dI) vwCl (wcD qa cI cJ cZ d_tears d_gains (upd d_likings (Int32.toNatClampNeg d_women) a1) d_settings d_goodbyes (d_women + 1)) H := hP
      replace hD : va_D A (wcD qa cI cJ cZ d_tears d_gains (upd d_likings (Int32.toNatClampNeg d_women) a1) d_settings d_goodbyes (d_women + 1)) := hD
      obtain ⟨e0, e1⟩ := wq_j2 hG
      subst e0
      subst e1
      exact W.vret hx hb hr (fun t ht hW => ⟨⟨(), rfl, trivial, by rw [ht]; exact hP, hD⟩, hS.F ht⟩) hS.2.2 dX5_addWoman_36
    · replace hG := wq_f c2 hG
      obtain ⟨e0, e1⟩ := wq_j2 hG
      subst e0
      subst e1
      exact W.vret hx hb hr (fun t ht hW => ⟨⟨(), rfl, trivial, by rw [ht]; exact hP, hD⟩, hS.F ht⟩) hS.2.2 dX5_addWoman_15

theorem hdV_X4_readWoman : yX4_readWoman.cls = RX4 ∧ yX4_readWoman.cls ≠ "java/lang/invoke/MethodHandle" ∧ yX4_readWoman.cls ≠ "java/lang/invoke/VarHandle" ∧ (parseMethodDescriptor yX4_readWoman.desc).map (fun d => d.parameters.length) = some 1 := by decide +kernel
set_option maxHeartbeats 4000000 in
set_option maxRecDepth 100000 in
theorem C_X4_readWoman (l : Launch) (dC : Nat → ClassId) (dI : Nat → Nat → Nat) (cI cJ cZ : ClassId) (qa : Nat → Nat) (sz : Nat) (x_letters : Nat → Int32) (x_size : Int32) (x_place : Int32) (x_fault : Int32) (x_stold : Int32) (d_tears : Nat → Int32) (d_gains : Nat → Int32) (d_likings : Nat → Int32) (d_settings : Nat → Int32) (d_goodbyes : Int32) (d_women : Int32) (r0 : Int32) (r_x_place : Int32) (r_x_fault : Int32) (r_d_likings : Nat → Int32) (r_d_women : Int32) (hG : gX4_readWoman x_letters x_size x_place x_fault d_likings d_women = some (r0, r_x_place, r_x_fault, r_d_likings, r_d_women)) : Met l yX4_readWoman wsX4_readWoman ({ frames := 3, cells := 0, slots := 0, locals := 67 } : Room) (va_Pc [.ref (qa 1), .ref (qa 21)] (wq_pw (dC, dI) [(cI, .int), (cJ, .long), (cZ, .boolean)] (wcXD qa cI cJ cZ x_letters x_size x_place x_fault x_stold d_tears d_gains d_likings d_settings d_goodbyes d_women) sz)) (wq_Wi (dC, dI) r0 wq_Z1 (wcXD qa cI cJ cZ x_letters x_size r_x_place r_x_fault x_stold d_tears d_gains r_d_likings d_settings d_goodbyes r_d_women) (va_A (wcXD qa cI cJ cZ x_letters x_size x_place x_fault x_stold d_tears d_gains d_likings d_settings d_goodbyes d_women) sz)) 0 0 (va_A (wcXD qa cI cJ cZ x_letters x_size x_place x_fault x_stold d_tears d_gains d_likings d_settings d_goodbyes d_women) sz) := by
  refine Met.ofW (cc := cX4_readWoman) (maxL := 3) (ret := (some .boolean)) (by decide) rfl ?_
  intro p e s m args below meth c s₁ B hml hv
  obtain ⟨rfl, hsz, hP, hK, hD0, hE⟩ := hv
  have hx := B.exec
  have hb := B.bytes
  have hr := B.returns
  have hts := atoms_spec (ws := wsX4_readWoman) B.pre
  have hown : s.vm.findClass RX4 = some m.cls := findClass_of_methodNamed B.named
  have hlocks := B.notSynchronized
  subst hsz
  have hD := hD0.self (sz := s.heap.size)
  generalize hAe : va_A (wcXD qa cI cJ cZ x_letters x_size x_place x_fault x_stold d_tears d_gains d_likings d_settings d_goodbyes d_women) s.heap.size = A at hD hE ⊢
  have hA : ∀ q : Nat, s.heap.size ≤ q → A q := fun q h => by rw [← hAe]; exact Or.inr h
  have hS : va_S A s.heap s.heap [] := va_S.rf
  have hinX5 : ∀ w ∈ u_ws RX5 TX5 6, w ∈ wsX4_readWoman := by decide +kernel
  have hinX4 : ∀ w ∈ u_ws RX4 TX4 5, w ∈ wsX4_readWoman := by decide +kernel
  have k1 := hts (.fieldLink RX4 73 "DoorMornings$Told" "women" "I") (by decide +kernel)
  have k2 := hts (.fieldLink RX4 19 "DoorMornings$Text" "place" "I") (by decide +kernel)
  have hl := lv_entry ([.ref (qa 1), .ref (qa 21)]) (n := 3) (Nat.le_of_ble_eq_true rfl)
  rw [lg_entry_eq]
  generalize (lg_sl ([.ref (qa 1), .ref (qa 21)]) ++ List.replicate (3 - (lg_sl ([.ref (qa 1), .ref (qa 21)])).length) Slot.unset).toArray = ls at hl ⊢
  have hl : lv_has ls 3 [(0, .ref (qa 1)), (1, .ref (qa 21))] := hl
  unfold gX4_readWoman at hG
  refine lv_aload_n hx hb dX4_readWoman_0 rfl (lv_at hl 1 rfl) ?_
  refine va_get (D := (dC, dI)) (ci := 5) (v := .int d_women) (C := RX5) (T := TX5) (N := 6) hx hb hts hinX5 hown hK hP 2 rfl rfl 5 (by decide) k1 (fun _ h9 => h9) rfl dX4_readWoman_1 ?_
  refine lv_iconst (v := 4) hx hb dX4_readWoman_4 (by decide) ?_
  refine lv_icmp_lt (tgt := 17) hx hb dX4_readWoman_5 (by decide) (fun c1 => ?_) (fun c1 => ?_)
  · replace hG := wq_t c1 hG
    refine lv_aload_n hx hb dX4_readWoman_17 rfl (lv_at hl 0 rfl) ?_
    refine lv_dup hx hb dX4_readWoman_18 rfl ?_
    refine va_get (D := (dC, dI)) (ci := 4) (v := .int x_place) (C := RX4) (T := TX4) (N := 5) hx hb hts hinX4 hown hK hP 0 rfl rfl 2 (by decide) k2 (fun _ h9 => h9) rfl dX4_readWoman_19 ?_
    refine lv_iconst (v := 1) hx hb dX4_readWoman_22 (by decide) ?_
    refine lv_iadd hx hb dX4_readWoman_23 ?_
    refine va_put (D := (dC, dI)) (ci := 4) (v := .int (x_place + 1)) (ty := tyX4 2) (C := RX4) (T := TX4) (N := 5) hx hb hts hinX4 tyX4 tyX4_ok nmX4 hown hK hP hD hS 0 rfl rfl 2 (by decide) k2 (fun _ h9 => h9) rfl (tyX4_ok 2 (by decide)) rfl rfl (Nat.le_of_ble_eq_true rfl) dX4_readWoman_24 (fun H locs hP hD hS => ?_)
    replace hP : va_P (dC, dI) vwCl (wcXD qa cI cJ cZ x_letters x_size (x_place + 1) x_fault x_stold d_tears d_gains d_likings d_settings d_goodbyes d_women) H := hP
    replace hD : va_D A (wcXD qa cI cJ cZ x_letters x_size (x_place + 1) x_fault x_stold d_tears d_gains d_likings d_settings d_goodbyes d_women) := hD
    refine lv_aload_n hx hb dX4_readWoman_27 rfl (lv_at hl 0 rfl) ?_
    refine lv_iconst (v := 0) hx hb dX4_readWoman_28 (by decide) ?_
    refine lv_bipush (v := 9) hx hb dX4_readWoman_29 (by decide) ?_
    obtain ⟨v3, w4, w5, g2, hG⟩ := wq_b3_s hG
    have hFc := va_free (wc := wcX qa cI cJ cZ x_letters x_size (x_place + 1) x_fault x_stold) hD hS hA [0, 1] rfl
    refine wq_di (D := (dC, dI)) (v := v3) (B := wq_tr) (wr := wcD qa cI cJ cZ d_tears d_gains d_likings d_settings d_goodbyes d_women) (w1 := wcX qa cI cJ cZ x_letters x_size w4 w5 x_stold) (w2 := wcXD qa cI cJ cZ x_letters x_size w4 w5 x_stold d_tears d_gains d_likings d_settings d_goodbyes d_women) (va_runV (As := [.int 0, .int 9]) (rest := []) ⟨hx, hb, hml, hown, hts⟩ (C_X4_readNumber l dC dI cI cJ cZ qa H.size x_letters x_size (x_place + 1) x_fault x_stold 0 9 v3 w4 w5 g2) (cwV 2 hts gX4_readWoman_X4_readNumber rfl rfl rfl hdV_X4_readNumber ⟨Nat.le_of_ble_eq_true rfl, Nat.le_of_ble_eq_true rfl⟩) (wq_pwV hK (hP.sub (ws' := wcX qa cI cJ cZ x_letters x_size (x_place + 1) x_fault x_stold) [0, 1] rfl) (hD.sub (ws' := wcX qa cI cJ cZ x_letters x_size (x_place + 1) x_fault x_stold) [0, 1] (by decide) rfl) hE hS hFc (ci := 4) (q0 := 0) rfl rfl) rfl rfl hl.1 rfl (lv_room (Nat.le_of_ble_eq_true rfl)) dX4_readWoman_31 ⟨Nat.zero_le _, Nat.zero_le _⟩) hP hD hS hFc [0, 1] [2, 3, 4, 5, 6] [5, 6, 0, 1, 2, 3, 4] rfl rfl (by decide) (by decide) (by decide) rfl (fun H locs b6 hP hD hS => ?_)
    clear hFc
    refine lv_istore_n (lv' := [(2, .int v3), (0, .ref (qa 1)), (1, .ref (qa 21))]) hx hb dX4_readWoman_34 rfl hl (by decide) rfl (fun ls hl => ?_)
    refine lv_iload_n hx hb dX4_readWoman_35 rfl (lv_at hl 0 rfl) ?_
    refine lv_if_ge (tgt := 41) hx hb dX4_readWoman_36 (by decide) (fun c7 => ?_) (fun c7 => ?_)
    · replace hG := wq_t c7 hG
      refine lv_aload_n hx hb dX4_readWoman_41 rfl (lv_at hl 2 rfl) ?_
      refine lv_iload_n hx hb dX4_readWoman_42 rfl (lv_at hl 0 rfl) ?_
      obtain ⟨w9, w10, g8, hG⟩ := wq_b2_s hG
      have hFc := va_free (wc := wcD qa cI cJ cZ d_tears d_gains d_likings d_settings d_goodbyes d_women) hD hS hA [2, 3, 4, 5, 6] rfl
      refine wq_dv (D := (dC, dI)) (wr := wcX qa cI cJ cZ x_letters x_size w4 w5 x_stold) (w1 := wcD qa cI cJ cZ d_tears d_gains w9 d_settings d_goodbyes w10) (w2 := wcXD qa cI cJ cZ x_letters x_size w4 w5 x_stold d_tears d_gains w9 d_settings d_goodbyes w10) (va_runV (As := [.int v3]) (rest := []) ⟨hx, hb, hml, hown, hts⟩ (C_X5_addWoman l dC dI cI cJ cZ qa H.size d_tears d_gains d_likings d_settings d_goodbyes d_women v3 w9 w10 g8) (cwV 1 hts gX4_readWoman_X5_addWoman rfl rfl rfl hdV_X5_addWoman ⟨Nat.le_of_ble_eq_true rfl, Nat.le_of_ble_eq_true rfl⟩) (wq_pwV hK (hP.sub (ws' := wcD qa cI cJ cZ d_tears d_gains d_likings d_settings d_goodbyes d_women) [2, 3, 4, 5, 6] rfl) (hD.sub (ws' := wcD qa cI cJ cZ d_tears d_gains d_likings d_settings d_goodbyes d_women) [2, 3, 4, 5, 6] (by decide) rfl) hE hS hFc (ci := 5) (q0 := 0) rfl rfl) rfl rfl hl.1 rfl (lv_room (Nat.le_of_ble_eq_true rfl)) dX4_readWoman_43 ⟨Nat.zero_le _, Nat.zero_le _⟩) hP hD hS hFc [2, 3, 4, 5, 6] [0, 1] [0, 1, 2, 3, 4, 5, 6] rfl rfl (by decide) (by decide) (by decide) rfl (fun H locs hP hD hS => ?_)
      clear hFc
      refine lv_aload_n hx hb dX4_readWoman_46 rfl (lv_at hl 1 rfl) ?_
      obtain ⟨v12, w13, w14, g11, hG⟩ := wq_b3_s hG
      have hFc := va_free (wc := wcX qa cI cJ cZ x_letters x_size w4 w5 x_stold) hD hS hA [0, 1] rfl
      refine wq_di (D := (dC, dI)) (v := v12) (B := wq_Z1) (wr := wcD qa cI cJ cZ d_tears d_gains w9 d_settings d_goodbyes w10) (w1 := wcX qa cI cJ cZ x_letters x_size w13 w14 x_stold) (w2 := wcXD qa cI cJ cZ x_letters x_size w13 w14 x_stold d_tears d_gains w9 d_settings d_goodbyes w10) (va_runV (As := []) (rest := []) ⟨hx, hb, hml, hown, hts⟩ (C_X4_readEnd l dC dI cI cJ cZ qa H.size x_letters x_size w4 w5 x_stold  v12 w13 w14 g11) (cwV 0 hts gX4_readWoman_X4_readEnd rfl rfl rfl hdV_X4_readEnd ⟨Nat.le_of_ble_eq_true rfl, Nat.le_of_ble_eq_true rfl⟩) (wq_pwV hK (hP.sub (ws' := wcX qa cI cJ cZ x_letters x_size w4 w5 x_stold) [0, 1] rfl) (hD.sub (ws' := wcX qa cI cJ cZ x_letters x_size w4 w5 x_stold) [0, 1] (by decide) rfl) hE hS hFc (ci := 4) (q0 := 0) rfl rfl) rfl rfl hl.1 rfl (lv_room (Nat.le_of_ble_eq_true rfl)) dX4_readWoman_47 ⟨Nat.zero_le _, Nat.zero_le _⟩) hP hD hS hFc [0, 1] [2, 3, 4, 5, 6] [5, 6, 0, 1, 2, 3, 4] rfl rfl (by decide) (by decide) (by decide) rfl (fun H locs b15 hP hD hS => ?_)
      clear hFc
      obtain ⟨e0, e1, e2, e3, e4⟩ := wq_j5 hG
      subst e0
      subst e1
      subst e2
      subst e3
      subst e4
      exact W.zret hx hb hr (wq_Z1_n b15) (fun t ht hW => ⟨⟨_, (), rfl, ⟨rfl, b15⟩, by rw [ht]; exact hP, hD⟩, hS.F ht⟩) hS.2.2 dX4_readWoman_50
    · replace hG := wq_f c7 hG
      refine lv_iconst (v := 0) hx hb dX4_readWoman_39 (by decide) ?_
      obtain ⟨e0, e1, e2, e3, e4⟩ := wq_j5 hG
      subst e0
      subst e1
      subst e2
      subst e3
      subst e4
      exact W.zret hx hb hr (wq_Z1_n (Or.inl rfl)) (fun t ht hW => ⟨⟨_, (), rfl, ⟨rfl, (Or.inl rfl)⟩, by rw [ht]; exact hP, hD⟩, hS.F ht⟩) hS.2.2 dX4_readWoman_40
  · replace hG := wq_f c1 hG
    refine lv_aload_n hx hb dX4_readWoman_8 rfl (lv_at hl 0 rfl) ?_
    refine lv_aload_n hx hb dX4_readWoman_9 rfl (lv_at hl 0 rfl) ?_
    refine va_get (D := (dC, dI)) (ci := 4) (v := .int x_place) (C := RX4) (T := TX4) (N := 5) hx hb hts hinX4 hown hK hP 0 rfl rfl 2 (by decide) k2 (fun _ h9 => h9) rfl dX4_readWoman_10 ?_
    obtain ⟨v17, w18, g16, hG⟩ := wq_b2_s hG
    have hFc := va_free (wc := wcX qa cI cJ cZ x_letters x_size x_place x_fault x_stold) hD hS hA [0, 1] rfl
    refine wq_di (D := (dC, dI)) (v := v17) (B := wq_Z1) (wr := wcD qa cI cJ cZ d_tears d_gains d_likings d_settings d_goodbyes d_women) (w1 := wcX qa cI cJ cZ x_letters x_size x_place w18 x_stold) (w2 := wcXD qa cI cJ cZ x_letters x_size x_place w18 x_stold d_tears d_gains d_likings d_settings d_goodbyes d_women) (va_runV (As := [.int x_place]) (rest := []) ⟨hx, hb, hml, hown, hts⟩ (C_X4_failsAt l dC dI cI cJ cZ qa s.heap.size x_letters x_size x_place x_fault x_stold x_place v17 w18 g16) (cwV 1 hts gX4_readWoman_X4_failsAt rfl rfl rfl hdV_X4_failsAt ⟨Nat.le_of_ble_eq_true rfl, Nat.le_of_ble_eq_true rfl⟩) (wq_pwV hK (hP.sub (ws' := wcX qa cI cJ cZ x_letters x_size x_place x_fault x_stold) [0, 1] rfl) (hD.sub (ws' := wcX qa cI cJ cZ x_letters x_size x_place x_fault x_stold) [0, 1] (by decide) rfl) hE hS hFc (ci := 4) (q0 := 0) rfl rfl) rfl rfl hl.1 rfl (lv_room (Nat.le_of_ble_eq_true rfl)) dX4_readWoman_13 ⟨Nat.zero_le _, Nat.zero_le _⟩) hP hD hS hFc [0, 1] [2, 3, 4, 5, 6] [5, 6, 0, 1, 2, 3, 4] rfl rfl (by decide) (by decide) (by decide) rfl (fun H locs b19 hP hD hS => ?_)
    clear hFc
    obtain ⟨e0, e1, e2, e3, e4⟩ := wq_j5 hG
    subst e0
    subst e1
    subst e2
    subst e3
    subst e4
    exact W.zret hx hb hr (wq_Z1_n b19) (fun t ht hW => ⟨⟨_, (), rfl, ⟨rfl, b19⟩, by rw [ht]; exact hP, hD⟩, hS.F ht⟩) hS.2.2 dX4_readWoman_16

theorem hdV_X5_setSetting : yX5_setSetting.cls = RX5 ∧ yX5_setSetting.cls ≠ "java/lang/invoke/MethodHandle" ∧ yX5_setSetting.cls ≠ "java/lang/invoke/VarHandle" ∧ (parseMethodDescriptor yX5_setSetting.desc).map (fun d => d.parameters.length) = some 2 := by decide +kernel
set_option maxHeartbeats 4000000 in
set_option maxRecDepth 100000 in
theorem C_X5_setSetting (l : Launch) (dC : Nat → ClassId) (dI : Nat → Nat → Nat) (cI cJ cZ : ClassId) (qa : Nat → Nat) (sz : Nat) (d_tears : Nat → Int32) (d_gains : Nat → Int32) (d_likings : Nat → Int32) (d_settings : Nat → Int32) (d_goodbyes : Int32) (d_women : Int32) (a1 : Int32) (a2 : Int32) (r_d_settings : Nat → Int32) (hG : gX5_setSetting d_settings a1 a2 = some r_d_settings) : Met l yX5_setSetting wsX5_setSetting ({ frames := 0, cells := 0, slots := 0, locals := 0 } : Room) (va_Pc [.ref (qa 21), .int a1, .int a2] (wq_pw (dC, dI) [(cI, .int), (cJ, .long), (cZ, .boolean)] (wcD qa cI cJ cZ d_tears d_gains d_likings d_settings d_goodbyes d_women) sz)) (wq_Wv (dC, dI) (wcD qa cI cJ cZ d_tears d_gains d_likings r_d_settings d_goodbyes d_women) (va_A (wcD qa cI cJ cZ d_tears d_gains d_likings d_settings d_goodbyes d_women) sz)) 0 0 (va_A (wcD qa cI cJ cZ d_tears d_gains d_likings d_settings d_goodbyes d_women) sz) := by
  refine Met.ofW (cc := cX5_setSetting) (maxL := 3) (ret := none) (by decide) rfl ?_
  intro p e s m args below meth c s₁ B hml hv
  obtain ⟨rfl, hsz, hP, hK, hD0, hE⟩ := hv
  have hx := B.exec
  have hb := B.bytes
  have hr := B.returns
  have hts := atoms_spec (ws := wsX5_setSetting) B.pre
  have hown : s.vm.findClass RX5 = some m.cls := findClass_of_methodNamed B.named
  have hlocks := B.notSynchronized
  subst hsz
  have hD := hD0.self (sz := s.heap.size)
  generalize hAe : va_A (wcD qa cI cJ cZ d_tears d_gains d_likings d_settings d_goodbyes d_women) s.heap.size = A at hD hE ⊢
  have hA : ∀ q : Nat, s.heap.size ≤ q → A q := fun q h => by rw [← hAe]; exact Or.inr h
  have hS : va_S A s.heap s.heap [] := va_S.rf
  have hinX5 : ∀ w ∈ u_ws RX5 TX5 6, w ∈ wsX5_setSetting := by decide +kernel
  have k1 := hts (.fieldLink RX5 29 "DoorMornings$Told" "settings" "[I") (by decide +kernel)
  have hl := lv_entry ([.ref (qa 21), .int a1, .int a2]) (n := 3) (Nat.le_of_ble_eq_true rfl)
  rw [lg_entry_eq]
  generalize (lg_sl ([.ref (qa 21), .int a1, .int a2]) ++ List.replicate (3 - (lg_sl ([.ref (qa 21), .int a1, .int a2])).length) Slot.unset).toArray = ls at hl ⊢
  have hl : lv_has ls 3 [(0, .ref (qa 21)), (1, .int a1), (2, .int a2)] := hl
  unfold gX5_setSetting at hG
  refine lv_iload_n hx hb dX5_setSetting_0 rfl (lv_at hl 1 rfl) ?_
  refine lv_if_lt (tgt := 16) hx hb dX5_setSetting_1 (by decide) (fun c1 => ?_) (fun c1 => ?_)
  · replace hG := wq_t c1 hG
    have e0 := Option.some.inj hG
    subst e0
    exact W.vret hx hb hr (fun t ht hW => ⟨⟨(), rfl, trivial, by rw [ht]; exact hP, hD⟩, hS.F ht⟩) hS.2.2 dX5_setSetting_16
  · replace hG := wq_f c1 hG
    refine lv_iload_n hx hb dX5_setSetting_4 rfl (lv_at hl 1 rfl) ?_
    refine lv_iconst (v := 4) hx hb dX5_setSetting_5 (by decide) ?_
    refine lv_icmp_ge (tgt := 16) hx hb dX5_setSetting_6 (by decide) (fun c2 => ?_) (fun c2 => ?_)
    · replace hG := wq_t c2 hG
      have e0 := Option.some.inj hG
      subst e0
      exact W.vret hx hb hr (fun t ht hW => ⟨⟨(), rfl, trivial, by rw [ht]; exact hP, hD⟩, hS.F ht⟩) hS.2.2 dX5_setSetting_16
    · replace hG := wq_f c2 hG
      refine lv_aload_n hx hb dX5_setSetting_9 rfl (lv_at hl 0 rfl) ?_
      refine va_get (D := (dC, dI)) (ci := 5) (v := .ref (qa 25)) (C := RX5) (T := TX5) (N := 6) hx hb hts hinX5 hown hK hP 0 rfl rfl 3 (by decide) k1 (fun _ h9 => h9) rfl dX5_setSetting_10 ?_
      refine lv_iload_n hx hb dX5_setSetting_13 rfl (lv_at hl 1 rfl) ?_
      refine lv_iload_n hx hb dX5_setSetting_14 rfl (lv_at hl 2 rfl) ?_
      obtain ⟨h3, hG⟩ := wq_chk_s hG
      refine wq_iast (D := (dC, dI)) hx hb hK hP hD hS 4 0 rfl rfl h3 (Int32.toNatClampNeg a1) rfl (wcD qa cI cJ cZ d_tears d_gains d_likings (upd d_settings (Int32.toNatClampNeg a1) a2) d_goodbyes d_women) rfl dX5_setSetting_15 (fun H locs hP hD hS => ?_)
      have e0 := Option.some.inj hG
      subst e0
      exact W.vret hx hb hr (fun t ht hW => ⟨⟨(), rfl, trivial, by rw [ht]; exact hP, hD⟩, hS.F ht⟩) hS.2.2 dX5_setSetting_16

theorem hdV_X4_readSetting : yX4_readSetting.cls = RX4 ∧ yX4_readSetting.cls ≠ "java/lang/invoke/MethodHandle" ∧ yX4_readSetting.cls ≠ "java/lang/invoke/VarHandle" ∧ (parseMethodDescriptor yX4_readSetting.desc).map (fun d => d.parameters.length) = some 2 := by decide +kernel
set_option maxHeartbeats 4000000 in
set_option maxRecDepth 100000 in
theorem C_X4_readSetting (l : Launch) (dC : Nat → ClassId) (dI : Nat → Nat → Nat) (cI cJ cZ : ClassId) (qa : Nat → Nat) (sz : Nat) (x_letters : Nat → Int32) (x_size : Int32) (x_place : Int32) (x_fault : Int32) (x_stold : Int32) (d_tears : Nat → Int32) (d_gains : Nat → Int32) (d_likings : Nat → Int32) (d_settings : Nat → Int32) (d_goodbyes : Int32) (d_women : Int32) (a2 : Int32) (r0 : Int32) (r_x_place : Int32) (r_x_fault : Int32) (r_x_stold : Int32) (r_d_settings : Nat → Int32) (hG : gX4_readSetting x_letters x_size x_place x_fault x_stold d_settings a2 = some (r0, r_x_place, r_x_fault, r_x_stold, r_d_settings)) : Met l yX4_readSetting wsX4_readSetting ({ frames := 3, cells := 0, slots := 0, locals := 67 } : Room) (va_Pc [.ref (qa 1), .ref (qa 21), .int a2] (wq_pw (dC, dI) [(cI, .int), (cJ, .long), (cZ, .boolean)] (wcXD qa cI cJ cZ x_letters x_size x_place x_fault x_stold d_tears d_gains d_likings d_settings d_goodbyes d_women) sz)) (wq_Wi (dC, dI) r0 wq_Z1 (wcXD qa cI cJ cZ x_letters x_size r_x_place r_x_fault r_x_stold d_tears d_gains d_likings r_d_settings d_goodbyes d_women) (va_A (wcXD qa cI cJ cZ x_letters x_size x_place x_fault x_stold d_tears d_gains d_likings d_settings d_goodbyes d_women) sz)) 0 0 (va_A (wcXD qa cI cJ cZ x_letters x_size x_place x_fault x_stold d_tears d_gains d_likings d_settings d_goodbyes d_women) sz) := by
  refine Met.ofW (cc := cX4_readSetting) (maxL := 4) (ret := (some .boolean)) (by decide) rfl ?_
  intro p e s m args below meth c s₁ B hml hv
  obtain ⟨rfl, hsz, hP, hK, hD0, hE⟩ := hv
  have hx := B.exec
  have hb := B.bytes
  have hr := B.returns
  have hts := atoms_spec (ws := wsX4_readSetting) B.pre
  have hown : s.vm.findClass RX4 = some m.cls := findClass_of_methodNamed B.named
  have hlocks := B.notSynchronized
  subst hsz
  have hD := hD0.self (sz := s.heap.size)
  generalize hAe : va_A (wcXD qa cI cJ cZ x_letters x_size x_place x_fault x_stold d_tears d_gains d_likings d_settings d_goodbyes d_women) s.heap.size = A at hD hE ⊢
  have hA : ∀ q : Nat, s.heap.size ≤ q → A q := fun q h => by rw [← hAe]; exact Or.inr h
  have hS : va_S A s.heap s.heap [] := va_S.rf
  obtain ⟨t_LEAST_SETTING, hZ_LEAST_SETTING, hT_LEAST_SETTING⟩ := hE.2.2.2.1
  obtain ⟨t_MOST_SETTING, hZ_MOST_SETTING, hT_MOST_SETTING⟩ := hE.2.2.2.2
  have hinX4 : ∀ w ∈ u_ws RX4 TX4 5, w ∈ wsX4_readSetting := by decide +kernel
  have k1 := hts (.fieldLink RX4 19 "DoorMornings$Text" "place" "I") (by decide +kernel)
  have k2 := hts (.fieldLink RX4 25 "DoorMornings$Text" "settingsTold" "I") (by decide +kernel)
  have hl := lv_entry ([.ref (qa 1), .ref (qa 21), .int a2]) (n := 4) (Nat.le_of_ble_eq_true rfl)
  rw [lg_entry_eq]
  generalize (lg_sl ([.ref (qa 1), .ref (qa 21), .int a2]) ++ List.replicate (4 - (lg_sl ([.ref (qa 1), .ref (qa 21), .int a2])).length) Slot.unset).toArray = ls at hl ⊢
  have hl : lv_has ls 4 [(0, .ref (qa 1)), (1, .ref (qa 21)), (2, .int a2)] := hl
  unfold gX4_readSetting at hG
  refine lv_iload_n hx hb dX4_readSetting_0 rfl (lv_at hl 2 rfl) ?_
  refine lv_if_lt (tgt := 21) hx hb dX4_readSetting_1 (by decide) (fun c1 => ?_) (fun c1 => ?_)
  · replace hG := wq_t c1 hG
    refine lv_aload_n hx hb dX4_readSetting_21 rfl (lv_at hl 0 rfl) ?_
    refine lv_aload_n hx hb dX4_readSetting_22 rfl (lv_at hl 0 rfl) ?_
    refine va_get (D := (dC, dI)) (ci := 4) (v := .int x_place) (C := RX4) (T := TX4) (N := 5) hx hb hts hinX4 hown hK hP 0 rfl rfl 2 (by decide) k1 (fun _ h9 => h9) rfl dX4_readSetting_23 ?_
    obtain ⟨v3, w4, g2, hG⟩ := wq_b2_s hG
    have hFc := va_free (wc := wcX qa cI cJ cZ x_letters x_size x_place x_fault x_stold) hD hS hA [0, 1] rfl
    refine wq_di (D := (dC, dI)) (v := v3) (B := wq_Z1) (wr := wcD qa cI cJ cZ d_tears d_gains d_likings d_settings d_goodbyes d_women) (w1 := wcX qa cI cJ cZ x_letters x_size x_place w4 x_stold) (w2 := wcXD qa cI cJ cZ x_letters x_size x_place w4 x_stold d_tears d_gains d_likings d_settings d_goodbyes d_women) (va_runV (As := [.int x_place]) (rest := []) ⟨hx, hb, hml, hown, hts⟩ (C_X4_failsAt l dC dI cI cJ cZ qa s.heap.size x_letters x_size x_place x_fault x_stold x_place v3 w4 g2) (cwV 1 hts gX4_readSetting_X4_failsAt rfl rfl rfl hdV_X4_failsAt ⟨Nat.le_of_ble_eq_true rfl, Nat.le_of_ble_eq_true rfl⟩) (wq_pwV hK (hP.sub (ws' := wcX qa cI cJ cZ x_letters x_size x_place x_fault x_stold) [0, 1] rfl) (hD.sub (ws' := wcX qa cI cJ cZ x_letters x_size x_place x_fault x_stold) [0, 1] (by decide) rfl) hE hS hFc (ci := 4) (q0 := 0) rfl rfl) rfl rfl hl.1 rfl (lv_room (Nat.le_of_ble_eq_true rfl)) dX4_readSetting_26 ⟨Nat.zero_le _, Nat.zero_le _⟩) hP hD hS hFc [0, 1] [2, 3, 4, 5, 6] [5, 6, 0, 1, 2, 3, 4] rfl rfl (by decide) (by decide) (by decide) rfl (fun H locs b5 hP hD hS => ?_)
    clear hFc
    obtain ⟨e0, e1, e2, e3, e4⟩ := wq_j5 hG
    subst e0
    subst e1
    subst e2
    subst e3
    subst e4
    exact W.zret hx hb hr (wq_Z1_n b5) (fun t ht hW => ⟨⟨_, (), rfl, ⟨rfl, b5⟩, by rw [ht]; exact hP, hD⟩, hS.F ht⟩) hS.2.2 dX4_readSetting_29
  · replace hG := wq_f c1 hG
    refine lv_iload_n hx hb dX4_readSetting_4 rfl (lv_at hl 2 rfl) ?_
    refine lv_iconst (v := 4) hx hb dX4_readSetting_5 (by decide) ?_
    refine lv_icmp_ge (tgt := 21) hx hb dX4_readSetting_6 (by decide) (fun c6 => ?_) (fun c6 => ?_)
    · replace hG := wq_t c6 hG
      refine lv_aload_n hx hb dX4_readSetting_21 rfl (lv_at hl 0 rfl) ?_
      refine lv_aload_n hx hb dX4_readSetting_22 rfl (lv_at hl 0 rfl) ?_
      refine va_get (D := (dC, dI)) (ci := 4) (v := .int x_place) (C := RX4) (T := TX4) (N := 5) hx hb hts hinX4 hown hK hP 0 rfl rfl 2 (by decide) k1 (fun _ h9 => h9) rfl dX4_readSetting_23 ?_
      obtain ⟨v8, w9, g7, hG⟩ := wq_b2_s hG
      have hFc := va_free (wc := wcX qa cI cJ cZ x_letters x_size x_place x_fault x_stold) hD hS hA [0, 1] rfl
      refine wq_di (D := (dC, dI)) (v := v8) (B := wq_Z1) (wr := wcD qa cI cJ cZ d_tears d_gains d_likings d_settings d_goodbyes d_women) (w1 := wcX qa cI cJ cZ x_letters x_size x_place w9 x_stold) (w2 := wcXD qa cI cJ cZ x_letters x_size x_place w9 x_stold d_tears d_gains d_likings d_settings d_goodbyes d_women) (va_runV (As := [.int x_place]) (rest := []) ⟨hx, hb, hml, hown, hts⟩ (C_X4_failsAt l dC dI cI cJ cZ qa s.heap.size x_letters x_size x_place x_fault x_stold x_place v8 w9 g7) (cwV 1 hts gX4_readSetting_X4_failsAt rfl rfl rfl hdV_X4_failsAt ⟨Nat.le_of_ble_eq_true rfl, Nat.le_of_ble_eq_true rfl⟩) (wq_pwV hK (hP.sub (ws' := wcX qa cI cJ cZ x_letters x_size x_place x_fault x_stold) [0, 1] rfl) (hD.sub (ws' := wcX qa cI cJ cZ x_letters x_size x_place x_fault x_stold) [0, 1] (by decide) rfl) hE hS hFc (ci := 4) (q0 := 0) rfl rfl) rfl rfl hl.1 rfl (lv_room (Nat.le_of_ble_eq_true rfl)) dX4_readSetting_26 ⟨Nat.zero_le _, Nat.zero_le _⟩) hP hD hS hFc [0, 1] [2, 3, 4, 5, 6] [5, 6, 0, 1, 2, 3, 4] rfl rfl (by decide) (by decide) (by decide) rfl (fun H locs b10 hP hD hS => ?_)
      clear hFc
      obtain ⟨e0, e1, e2, e3, e4⟩ := wq_j5 hG
      subst e0
      subst e1
      subst e2
      subst e3
      subst e4
      exact W.zret hx hb hr (wq_Z1_n b10) (fun t ht hW => ⟨⟨_, (), rfl, ⟨rfl, b10⟩, by rw [ht]; exact hP, hD⟩, hS.F ht⟩) hS.2.2 dX4_readSetting_29
    · replace hG := wq_f c6 hG
      refine lv_aload_n hx hb dX4_readSetting_9 rfl (lv_at hl 0 rfl) ?_
      refine va_get (D := (dC, dI)) (ci := 4) (v := .int x_stold) (C := RX4) (T := TX4) (N := 5) hx hb hts hinX4 hown hK hP 0 rfl rfl 4 (by decide) k2 (fun _ h9 => h9) rfl dX4_readSetting_10 ?_
      refine lv_iload_n hx hb dX4_readSetting_13 rfl (lv_at hl 2 rfl) ?_
      refine lv_ishr hx hb dX4_readSetting_14 ?_
      refine lv_iconst (v := 1) hx hb dX4_readSetting_15 (by decide) ?_
      refine lv_iand hx hb dX4_readSetting_16 ?_
      refine lv_iconst (v := 1) hx hb dX4_readSetting_17 (by decide) ?_
      refine lv_icmp_ne (tgt := 30) hx hb dX4_readSetting_18 (by decide) (fun c11 => ?_) (fun c11 => ?_)
      · replace hG := wq_f c11 hG
        refine lv_aload_n hx hb dX4_readSetting_30 rfl (lv_at hl 0 rfl) ?_
        refine lv_dup hx hb dX4_readSetting_31 rfl ?_
        refine va_get (D := (dC, dI)) (ci := 4) (v := .int x_place) (C := RX4) (T := TX4) (N := 5) hx hb hts hinX4 hown hK hP 0 rfl rfl 2 (by decide) k1 (fun _ h9 => h9) rfl dX4_readSetting_32 ?_
        refine lv_iconst (v := 1) hx hb dX4_readSetting_35 (by decide) ?_
        refine lv_iadd hx hb dX4_readSetting_36 ?_
        refine va_put (D := (dC, dI)) (ci := 4) (v := .int (x_place + 1)) (ty := tyX4 2) (C := RX4) (T := TX4) (N := 5) hx hb hts hinX4 tyX4 tyX4_ok nmX4 hown hK hP hD hS 0 rfl rfl 2 (by decide) k1 (fun _ h9 => h9) rfl (tyX4_ok 2 (by decide)) rfl rfl (Nat.le_of_ble_eq_true rfl) dX4_readSetting_37 (fun H locs hP hD hS => ?_)
        replace hP : va_P (dC, dI) vwCl (wcXD qa cI cJ cZ x_letters x_size (x_place + 1) x_fault x_stold d_tears d_gains d_likings d_settings d_goodbyes d_women) H := hP
        replace hD : va_D A (wcXD qa cI cJ cZ x_letters x_size (x_place + 1) x_fault x_stold d_tears d_gains d_likings d_settings d_goodbyes d_women) := hD
        refine lv_aload_n hx hb dX4_readSetting_40 rfl (lv_at hl 0 rfl) ?_
        refine va_getsN hx hb hZ_LEAST_SETTING hS hown (va_Nw.use rfl hE.2.1.2.1) (fun _ h9 => h9) dX4_readSetting_41 ?_
        refine lv_iload_n hx hb dX4_readSetting_44 rfl (lv_at hl 2 rfl) ?_
        obtain ⟨h12, hG⟩ := wq_chk_s hG
        refine va_ti hx hb hT_LEAST_SETTING hS h12 (v := .int (wq_least (Int32.toNatClampNeg a2))) rfl dX4_readSetting_45 ?_
        refine va_getsN hx hb hZ_MOST_SETTING hS hown (va_Nw.use rfl hE.2.1.2.2.1) (fun _ h9 => h9) dX4_readSetting_46 ?_
        refine lv_iload_n hx hb dX4_readSetting_49 rfl (lv_at hl 2 rfl) ?_
        refine va_ti hx hb hT_MOST_SETTING hS h12 (v := .int (wq_most (Int32.toNatClampNeg a2))) rfl dX4_readSetting_50 ?_
        obtain ⟨v14, w15, w16, g13, hG⟩ := wq_b3_s hG
        have hFc := va_free (wc := wcX qa cI cJ cZ x_letters x_size (x_place + 1) x_fault x_stold) hD hS hA [0, 1] rfl
        refine wq_di (D := (dC, dI)) (v := v14) (B := wq_tr) (wr := wcD qa cI cJ cZ d_tears d_gains d_likings d_settings d_goodbyes d_women) (w1 := wcX qa cI cJ cZ x_letters x_size w15 w16 x_stold) (w2 := wcXD qa cI cJ cZ x_letters x_size w15 w16 x_stold d_tears d_gains d_likings d_settings d_goodbyes d_women) (va_runV (As := [.int (wq_least (Int32.toNatClampNeg a2)), .int (wq_most (Int32.toNatClampNeg a2))]) (rest := []) ⟨hx, hb, hml, hown, hts⟩ (C_X4_readNumber l dC dI cI cJ cZ qa H.size x_letters x_size (x_place + 1) x_fault x_stold (wq_least (Int32.toNatClampNeg a2)) (wq_most (Int32.toNatClampNeg a2)) v14 w15 w16 g13) (cwV 2 hts gX4_readSetting_X4_readNumber rfl rfl rfl hdV_X4_readNumber ⟨Nat.le_of_ble_eq_true rfl, Nat.le_of_ble_eq_true rfl⟩) (wq_pwV hK (hP.sub (ws' := wcX qa cI cJ cZ x_letters x_size (x_place + 1) x_fault x_stold) [0, 1] rfl) (hD.sub (ws' := wcX qa cI cJ cZ x_letters x_size (x_place + 1) x_fault x_stold) [0, 1] (by decide) rfl) hE hS hFc (ci := 4) (q0 := 0) rfl rfl) rfl rfl hl.1 rfl (lv_room (Nat.le_of_ble_eq_true rfl)) dX4_readSetting_51 ⟨Nat.zero_le _, Nat.zero_le _⟩) hP hD hS hFc [0, 1] [2, 3, 4, 5, 6] [5, 6, 0, 1, 2, 3, 4] rfl rfl (by decide) (by decide) (by decide) rfl (fun H locs b17 hP hD hS => ?_)
        clear hFc
        refine lv_istore_n (lv' := [(3, .int v14), (0, .ref (qa 1)), (1, .ref (qa 21)), (2, .int a2)]) hx hb dX4_readSetting_54 rfl hl (by decide) rfl (fun ls hl => ?_)
        refine lv_iload_n hx hb dX4_readSetting_55 rfl (lv_at hl 0 rfl) ?_
        refine lv_if_ge (tgt := 61) hx hb dX4_readSetting_56 (by decide) (fun c18 => ?_) (fun c18 => ?_)
        · replace hG := wq_t c18 hG
          refine lv_aload_n hx hb dX4_readSetting_61 rfl (lv_at hl 1 rfl) ?_
          refine lv_dup hx hb dX4_readSetting_62 rfl ?_
          refine va_get (D := (dC, dI)) (ci := 4) (v := .int x_stold) (C := RX4) (T := TX4) (N := 5) hx hb hts hinX4 hown hK hP 0 rfl rfl 4 (by decide) k2 (fun _ h9 => h9) rfl dX4_readSetting_63 ?_
          refine lv_iconst (v := 1) hx hb dX4_readSetting_66 (by decide) ?_
          refine lv_iload_n hx hb dX4_readSetting_67 rfl (lv_at hl 3 rfl) ?_
          refine lv_ishl hx hb dX4_readSetting_68 ?_
          refine lv_ior hx hb dX4_readSetting_69 ?_
          refine va_put (D := (dC, dI)) (ci := 4) (v := .int (x_stold ||| (1 <<< (a2 &&& 31)))) (ty := tyX4 4) (C := RX4) (T := TX4) (N := 5) hx hb hts hinX4 tyX4 tyX4_ok nmX4 hown hK hP hD hS 0 rfl rfl 4 (by decide) k2 (fun _ h9 => h9) rfl (tyX4_ok 4 (by decide)) rfl rfl (Nat.le_of_ble_eq_true rfl) dX4_readSetting_70 (fun H locs hP hD hS => ?_)
          replace hP : va_P (dC, dI) vwCl (wcXD qa cI cJ cZ x_letters x_size w15 w16 (x_stold ||| (1 <<< (a2 &&& 31))) d_tears d_gains d_likings d_settings d_goodbyes d_women) H := hP
          replace hD : va_D A (wcXD qa cI cJ cZ x_letters x_size w15 w16 (x_stold ||| (1 <<< (a2 &&& 31))) d_tears d_gains d_likings d_settings d_goodbyes d_women) := hD
          refine lv_aload_n hx hb dX4_readSetting_73 rfl (lv_at hl 2 rfl) ?_
          refine lv_iload_n hx hb dX4_readSetting_74 rfl (lv_at hl 3 rfl) ?_
          refine lv_iload_n hx hb dX4_readSetting_75 rfl (lv_at hl 0 rfl) ?_
          obtain ⟨w20, g19, hG⟩ := wq_b1_s hG
          have hFc := va_free (wc := wcD qa cI cJ cZ d_tears d_gains d_likings d_settings d_goodbyes d_women) hD hS hA [2, 3, 4, 5, 6] rfl
          refine wq_dv (D := (dC, dI)) (wr := wcX qa cI cJ cZ x_letters x_size w15 w16 (x_stold ||| (1 <<< (a2 &&& 31)))) (w1 := wcD qa cI cJ cZ d_tears d_gains d_likings w20 d_goodbyes d_women) (w2 := wcXD qa cI cJ cZ x_letters x_size w15 w16 (x_stold ||| (1 <<< (a2 &&& 31))) d_tears d_gains d_likings w20 d_goodbyes d_women) (va_runV (As := [.int a2, .int v14]) (rest := []) ⟨hx, hb, hml, hown, hts⟩ (C_X5_setSetting l dC dI cI cJ cZ qa H.size d_tears d_gains d_likings d_settings d_goodbyes d_women a2 v14 w20 g19) (cwV 2 hts gX4_readSetting_X5_setSetting rfl rfl rfl hdV_X5_setSetting ⟨Nat.le_of_ble_eq_true rfl, Nat.le_of_ble_eq_true rfl⟩) (wq_pwV hK (hP.sub (ws' := wcD qa cI cJ cZ d_tears d_gains d_likings d_settings d_goodbyes d_women) [2, 3, 4, 5, 6] rfl) (hD.sub (ws' := wcD qa cI cJ cZ d_tears d_gains d_likings d_settings d_goodbyes d_women) [2, 3, 4, 5, 6] (by decide) rfl) hE hS hFc (ci := 5) (q0 := 0) rfl rfl) rfl rfl hl.1 rfl (lv_room (Nat.le_of_ble_eq_true rfl)) dX4_readSetting_76 ⟨Nat.zero_le _, Nat.zero_le _⟩) hP hD hS hFc [2, 3, 4, 5, 6] [0, 1] [0, 1, 2, 3, 4, 5, 6] rfl rfl (by decide) (by decide) (by decide) rfl (fun H locs hP hD hS => ?_)
          clear hFc
          refine lv_aload_n hx hb dX4_readSetting_79 rfl (lv_at hl 1 rfl) ?_
          obtain ⟨v22, w23, w24, g21, hG⟩ := wq_b3_s hG
          have hFc := va_free (wc := wcX qa cI cJ cZ x_letters x_size w15 w16 (x_stold ||| (1 <<< (a2 &&& 31)))) hD hS hA [0, 1] rfl
          refine wq_di (D := (dC, dI)) (v := v22) (B := wq_Z1) (wr := wcD qa cI cJ cZ d_tears d_gains d_likings w20 d_goodbyes d_women) (w1 := wcX qa cI cJ cZ x_letters x_size w23 w24 (x_stold ||| (1 <<< (a2 &&& 31)))) (w2 := wcXD qa cI cJ cZ x_letters x_size w23 w24 (x_stold ||| (1 <<< (a2 &&& 31))) d_tears d_gains d_likings w20 d_goodbyes d_women) (va_runV (As := []) (rest := []) ⟨hx, hb, hml, hown, hts⟩ (C_X4_readEnd l dC dI cI cJ cZ qa H.size x_letters x_size w15 w16 (x_stold ||| (1 <<< (a2 &&& 31)))  v22 w23 w24 g21) (cwV 0 hts gX4_readSetting_X4_readEnd rfl rfl rfl hdV_X4_readEnd ⟨Nat.le_of_ble_eq_true rfl, Nat.le_of_ble_eq_true rfl⟩) (wq_pwV hK (hP.sub (ws' := wcX qa cI cJ cZ x_letters x_size w15 w16 (x_stold ||| (1 <<< (a2 &&& 31)))) [0, 1] rfl) (hD.sub (ws' := wcX qa cI cJ cZ x_letters x_size w15 w16 (x_stold ||| (1 <<< (a2 &&& 31)))) [0, 1] (by decide) rfl) hE hS hFc (ci := 4) (q0 := 0) rfl rfl) rfl rfl hl.1 rfl (lv_room (Nat.le_of_ble_eq_true rfl)) dX4_readSetting_80 ⟨Nat.zero_le _, Nat.zero_le _⟩) hP hD hS hFc [0, 1] [2, 3, 4, 5, 6] [5, 6, 0, 1, 2, 3, 4] rfl rfl (by decide) (by decide) (by decide) rfl (fun H locs b25 hP hD hS => ?_)
          clear hFc
          obtain ⟨e0, e1, e2, e3, e4⟩ := wq_j5 hG
          subst e0
          subst e1
          subst e2
          subst e3
          subst e4
          exact W.zret hx hb hr (wq_Z1_n b25) (fun t ht hW => ⟨⟨_, (), rfl, ⟨rfl, b25⟩, by rw [ht]; exact hP, hD⟩, hS.F ht⟩) hS.2.2 dX4_readSetting_83
        · replace hG := wq_f c18 hG
          refine lv_iconst (v := 0) hx hb dX4_readSetting_59 (by decide) ?_
          obtain ⟨e0, e1, e2, e3, e4⟩ := wq_j5 hG
          subst e0
          subst e1
          subst e2
          subst e3
          subst e4
          exact W.zret hx hb hr (wq_Z1_n (Or.inl rfl)) (fun t ht hW => ⟨⟨_, (), rfl, ⟨rfl, (Or.inl rfl)⟩, by rw [ht]; exact hP, hD⟩, hS.F ht⟩) hS.2.2 dX4_readSetting_60
      · replace hG := wq_t c11 hG
        refine lv_aload_n hx hb dX4_readSetting_21 rfl (lv_at hl 0 rfl) ?_
        refine lv_aload_n hx hb dX4_readSetting_22 rfl (lv_at hl 0 rfl) ?_
        refine va_get (D := (dC, dI)) (ci := 4) (v := .int x_place) (C := RX4) (T := TX4) (N := 5) hx hb hts hinX4 hown hK hP 0 rfl rfl 2 (by decide) k1 (fun _ h9 => h9) rfl dX4_readSetting_23 ?_
        obtain ⟨v27, w28, g26, hG⟩ := wq_b2_s hG
        have hFc := va_free (wc := wcX qa cI cJ cZ x_letters x_size x_place x_fault x_stold) hD hS hA [0, 1] rfl
        refine wq_di (D := (dC, dI)) (v := v27) (B := wq_Z1) (wr := wcD qa cI cJ cZ d_tears d_gains d_likings d_settings d_goodbyes d_women) (w1 := wcX qa cI cJ cZ x_letters x_size x_place w28 x_stold) (w2 := wcXD qa cI cJ cZ x_letters x_size x_place w28 x_stold d_tears d_gains d_likings d_settings d_goodbyes d_women) (va_runV (As := [.int x_place]) (rest := []) ⟨hx, hb, hml, hown, hts⟩ (C_X4_failsAt l dC dI cI cJ cZ qa s.heap.size x_letters x_size x_place x_fault x_stold x_place v27 w28 g26) (cwV 1 hts gX4_readSetting_X4_failsAt rfl rfl rfl hdV_X4_failsAt ⟨Nat.le_of_ble_eq_true rfl, Nat.le_of_ble_eq_true rfl⟩) (wq_pwV hK (hP.sub (ws' := wcX qa cI cJ cZ x_letters x_size x_place x_fault x_stold) [0, 1] rfl) (hD.sub (ws' := wcX qa cI cJ cZ x_letters x_size x_place x_fault x_stold) [0, 1] (by decide) rfl) hE hS hFc (ci := 4) (q0 := 0) rfl rfl) rfl rfl hl.1 rfl (lv_room (Nat.le_of_ble_eq_true rfl)) dX4_readSetting_26 ⟨Nat.zero_le _, Nat.zero_le _⟩) hP hD hS hFc [0, 1] [2, 3, 4, 5, 6] [5, 6, 0, 1, 2, 3, 4] rfl rfl (by decide) (by decide) (by decide) rfl (fun H locs b29 hP hD hS => ?_)
        clear hFc
        obtain ⟨e0, e1, e2, e3, e4⟩ := wq_j5 hG
        subst e0
        subst e1
        subst e2
        subst e3
        subst e4
        exact W.zret hx hb hr (wq_Z1_n b29) (fun t ht hW => ⟨⟨_, (), rfl, ⟨rfl, b29⟩, by rw [ht]; exact hP, hD⟩, hS.F ht⟩) hS.2.2 dX4_readSetting_29

theorem hdV_X4_readItem : yX4_readItem.cls = RX4 ∧ yX4_readItem.cls ≠ "java/lang/invoke/MethodHandle" ∧ yX4_readItem.cls ≠ "java/lang/invoke/VarHandle" ∧ (parseMethodDescriptor yX4_readItem.desc).map (fun d => d.parameters.length) = some 1 := by decide +kernel
set_option maxHeartbeats 4000000 in
set_option maxRecDepth 100000 in
theorem C_X4_readItem (l : Launch) (dC : Nat → ClassId) (dI : Nat → Nat → Nat) (cI cJ cZ : ClassId) (qa : Nat → Nat) (sz : Nat) (x_letters : Nat → Int32) (x_size : Int32) (x_place : Int32) (x_fault : Int32) (x_stold : Int32) (d_tears : Nat → Int32) (d_gains : Nat → Int32) (d_likings : Nat → Int32) (d_settings : Nat → Int32) (d_goodbyes : Int32) (d_women : Int32) (r0 : Int32) (r_x_place : Int32) (r_x_fault : Int32) (r_x_stold : Int32) (r_d_tears : Nat → Int32) (r_d_gains : Nat → Int32) (r_d_likings : Nat → Int32) (r_d_settings : Nat → Int32) (r_d_goodbyes : Int32) (r_d_women : Int32) (hG : gX4_readItem x_letters x_size x_place x_fault x_stold d_tears d_gains d_likings d_settings d_goodbyes d_women = some (r0, r_x_place, r_x_fault, r_x_stold, r_d_tears, r_d_gains, r_d_likings, r_d_settings, r_d_goodbyes, r_d_women)) : Met l yX4_readItem wsX4_readItem ({ frames := 4, cells := 0, slots := 0, locals := 90 } : Room) (va_Pc [.ref (qa 1), .ref (qa 21)] (wq_pw (dC, dI) [(cI, .int), (cJ, .long), (cZ, .boolean)] (wcXD qa cI cJ cZ x_letters x_size x_place x_fault x_stold d_tears d_gains d_likings d_settings d_goodbyes d_women) sz)) (wq_Wi (dC, dI) r0 wq_Z1 (wcXD qa cI cJ cZ x_letters x_size r_x_place r_x_fault r_x_stold r_d_tears r_d_gains r_d_likings r_d_settings r_d_goodbyes r_d_women) (va_A (wcXD qa cI cJ cZ x_letters x_size x_place x_fault x_stold d_tears d_gains d_likings d_settings d_goodbyes d_women) sz)) 0 0 (va_A (wcXD qa cI cJ cZ x_letters x_size x_place x_fault x_stold d_tears d_gains d_likings d_settings d_goodbyes d_women) sz) := by
  refine Met.ofW (cc := cX4_readItem) (maxL := 2) (ret := (some .boolean)) (by decide) rfl ?_
  intro p e s m args below meth c s₁ B hml hv
  obtain ⟨rfl, hsz, hP, hK, hD0, hE⟩ := hv
  have hx := B.exec
  have hb := B.bytes
  have hr := B.returns
  have hts := atoms_spec (ws := wsX4_readItem) B.pre
  have hown : s.vm.findClass RX4 = some m.cls := findClass_of_methodNamed B.named
  have hlocks := B.notSynchronized
  subst hsz
  have hD := hD0.self (sz := s.heap.size)
  generalize hAe : va_A (wcXD qa cI cJ cZ x_letters x_size x_place x_fault x_stold d_tears d_gains d_likings d_settings d_goodbyes d_women) s.heap.size = A at hD hE ⊢
  have hA : ∀ q : Nat, s.heap.size ≤ q → A q := fun q h => by rw [← hAe]; exact Or.inr h
  have hS : va_S A s.heap s.heap [] := va_S.rf
  have hinX4 : ∀ w ∈ u_ws RX4 TX4 5, w ∈ wsX4_readItem := by decide +kernel
  have k1 := hts (.fieldLink RX4 19 "DoorMornings$Text" "place" "I") (by decide +kernel)
  have hl := lv_entry ([.ref (qa 1), .ref (qa 21)]) (n := 2) (Nat.le_of_ble_eq_true rfl)
  rw [lg_entry_eq]
  generalize (lg_sl ([.ref (qa 1), .ref (qa 21)]) ++ List.replicate (2 - (lg_sl ([.ref (qa 1), .ref (qa 21)])).length) Slot.unset).toArray = ls at hl ⊢
  have hl : lv_has ls 2 [(0, .ref (qa 1)), (1, .ref (qa 21))] := hl
  unfold gX4_readItem at hG
  refine lv_aload_n hx hb dX4_readItem_0 rfl (lv_at hl 0 rfl) ?_
  refine lv_aload_n hx hb dX4_readItem_1 rfl (lv_at hl 0 rfl) ?_
  refine va_get (D := (dC, dI)) (ci := 4) (v := .int x_place) (C := RX4) (T := TX4) (N := 5) hx hb hts hinX4 hown hK hP 0 rfl rfl 2 (by decide) k1 (fun _ h9 => h9) rfl dX4_readItem_2 ?_
  obtain ⟨v2, g1, hG⟩ := wq_b1_s hG
  refine wq_ci (v := v2) (B := wq_tr) (va_runV (As := [.int x_place]) (rest := []) ⟨hx, hb, hml, hown, hts⟩ (C_X4_letterAt l dC dI cI cJ cZ qa s.heap.size x_letters x_size x_place x_fault x_stold x_place v2 g1) (cwV 1 hts gX4_readItem_X4_letterAt rfl rfl rfl hdV_X4_letterAt ⟨Nat.le_of_ble_eq_true rfl, Nat.le_of_ble_eq_true rfl⟩) (wq_ppV hK (hP.sub (ws' := wcX qa cI cJ cZ x_letters x_size x_place x_fault x_stold) [0, 1] rfl) hE hS hA (ci := 4) (q0 := 0) rfl rfl) rfl rfl hl.1 rfl (lv_room (Nat.le_of_ble_eq_true rfl)) dX4_readItem_5 ⟨Nat.zero_le _, Nat.zero_le _⟩) hS hA (fun H locs b3 hk hS => ?_)
  replace hP := wq_kp hP hk
  clear hk
  by_cases c4 : v2 = 99
  · replace hG := wq_t c4 hG
    refine lv_lookup (off := 79) (tgt := 87) hx hb dX4_readItem_8 (by decide) (by rw [c4]; decide) (by decide) ?_
    refine lv_aload_n hx hb dX4_readItem_87 rfl (lv_at hl 0 rfl) ?_
    refine lv_aload_n hx hb dX4_readItem_88 rfl (lv_at hl 1 rfl) ?_
    refine lv_iconst (v := 1) hx hb dX4_readItem_89 (by decide) ?_
    obtain ⟨v6, w7, w8, w9, w10, g5, hG⟩ := wq_b5_s hG
    have hFc := va_free (wc := wcXD qa cI cJ cZ x_letters x_size x_place x_fault x_stold d_tears d_gains d_likings d_settings d_goodbyes d_women) hD hS hA [0, 1, 2, 3, 4, 5, 6] rfl
    refine wq_di (D := (dC, dI)) (v := v6) (B := wq_Z1) (wr := []) (w1 := wcXD qa cI cJ cZ x_letters x_size w7 w8 w9 d_tears d_gains d_likings w10 d_goodbyes d_women) (w2 := wcXD qa cI cJ cZ x_letters x_size w7 w8 w9 d_tears d_gains d_likings w10 d_goodbyes d_women) (va_runV (As := [.ref (qa 21), .int 1]) (rest := []) ⟨hx, hb, hml, hown, hts⟩ (C_X4_readSetting l dC dI cI cJ cZ qa H.size x_letters x_size x_place x_fault x_stold d_tears d_gains d_likings d_settings d_goodbyes d_women 1 v6 w7 w8 w9 w10 g5) (cwV 2 hts gX4_readItem_X4_readSetting rfl rfl rfl hdV_X4_readSetting ⟨Nat.le_of_ble_eq_true rfl, Nat.le_of_ble_eq_true rfl⟩) (wq_pwV hK hP hD hE hS hFc (ci := 4) (q0 := 0) rfl rfl) rfl rfl hl.1 rfl (lv_room (Nat.le_of_ble_eq_true rfl)) dX4_readItem_90 ⟨Nat.zero_le _, Nat.zero_le _⟩) hP hD hS hFc [0, 1, 2, 3, 4, 5, 6] [] [0, 1, 2, 3, 4, 5, 6] rfl rfl (by decide) (by decide) (by decide) rfl (fun H locs b11 hP hD hS => ?_)
    clear hFc
    obtain ⟨e0, e1, e2, e3, e4, e5, e6, e7, e8, e9⟩ := wq_j10 hG
    subst e0
    subst e1
    subst e2
    subst e3
    subst e4
    subst e5
    subst e6
    subst e7
    subst e8
    subst e9
    exact W.zret hx hb hr (wq_Z1_n b11) (fun t ht hW => ⟨⟨_, (), rfl, ⟨rfl, b11⟩, by rw [ht]; exact hP, hD⟩, hS.F ht⟩) hS.2.2 dX4_readItem_93
  · replace hG := wq_f c4 hG
    by_cases c12 : v2 = 103
    · replace hG := wq_t c12 hG
      refine lv_lookup (off := 60) (tgt := 68) hx hb dX4_readItem_8 (by decide) (by rw [c12]; decide) (by decide) ?_
      refine lv_aload_n hx hb dX4_readItem_68 rfl (lv_at hl 0 rfl) ?_
      refine lv_aload_n hx hb dX4_readItem_69 rfl (lv_at hl 1 rfl) ?_
      obtain ⟨v14, w15, w16, w17, w18, w19, g13, hG⟩ := wq_b6_s hG
      have hFc := va_free (wc := wcXD qa cI cJ cZ x_letters x_size x_place x_fault x_stold d_tears d_gains d_likings d_settings d_goodbyes d_women) hD hS hA [0, 1, 2, 3, 4, 5, 6] rfl
      refine wq_di (D := (dC, dI)) (v := v14) (B := wq_Z1) (wr := []) (w1 := wcXD qa cI cJ cZ x_letters x_size w15 w16 x_stold w17 w18 d_likings d_settings w19 d_women) (w2 := wcXD qa cI cJ cZ x_letters x_size w15 w16 x_stold w17 w18 d_likings d_settings w19 d_women) (va_runV (As := [.ref (qa 21)]) (rest := []) ⟨hx, hb, hml, hown, hts⟩ (C_X4_readGoodbye l dC dI cI cJ cZ qa H.size x_letters x_size x_place x_fault x_stold d_tears d_gains d_likings d_settings d_goodbyes d_women  v14 w15 w16 w17 w18 w19 g13) (cwV 1 hts gX4_readItem_X4_readGoodbye rfl rfl rfl hdV_X4_readGoodbye ⟨Nat.le_of_ble_eq_true rfl, Nat.le_of_ble_eq_true rfl⟩) (wq_pwV hK hP hD hE hS hFc (ci := 4) (q0 := 0) rfl rfl) rfl rfl hl.1 rfl (lv_room (Nat.le_of_ble_eq_true rfl)) dX4_readItem_70 ⟨Nat.zero_le _, Nat.zero_le _⟩) hP hD hS hFc [0, 1, 2, 3, 4, 5, 6] [] [0, 1, 2, 3, 4, 5, 6] rfl rfl (by decide) (by decide) (by decide) rfl (fun H locs b20 hP hD hS => ?_)
      clear hFc
      obtain ⟨e0, e1, e2, e3, e4, e5, e6, e7, e8, e9⟩ := wq_j10 hG
      subst e0
      subst e1
      subst e2
      subst e3
      subst e4
      subst e5
      subst e6
      subst e7
      subst e8
      subst e9
      exact W.zret hx hb hr (wq_Z1_n b20) (fun t ht hW => ⟨⟨_, (), rfl, ⟨rfl, b20⟩, by rw [ht]; exact hP, hD⟩, hS.F ht⟩) hS.2.2 dX4_readItem_73
    · replace hG := wq_f c12 hG
      by_cases c21 : v2 = 115
      · replace hG := wq_t c21 hG
        refine lv_lookup (off := 72) (tgt := 80) hx hb dX4_readItem_8 (by decide) (by rw [c21]; decide) (by decide) ?_
        refine lv_aload_n hx hb dX4_readItem_80 rfl (lv_at hl 0 rfl) ?_
        refine lv_aload_n hx hb dX4_readItem_81 rfl (lv_at hl 1 rfl) ?_
        refine lv_iconst (v := 0) hx hb dX4_readItem_82 (by decide) ?_
        obtain ⟨v23, w24, w25, w26, w27, g22, hG⟩ := wq_b5_s hG
        have hFc := va_free (wc := wcXD qa cI cJ cZ x_letters x_size x_place x_fault x_stold d_tears d_gains d_likings d_settings d_goodbyes d_women) hD hS hA [0, 1, 2, 3, 4, 5, 6] rfl
        refine wq_di (D := (dC, dI)) (v := v23) (B := wq_Z1) (wr := []) (w1 := wcXD qa cI cJ cZ x_letters x_size w24 w25 w26 d_tears d_gains d_likings w27 d_goodbyes d_women) (w2 := wcXD qa cI cJ cZ x_letters x_size w24 w25 w26 d_tears d_gains d_likings w27 d_goodbyes d_women) (va_runV (As := [.ref (qa 21), .int 0]) (rest := []) ⟨hx, hb, hml, hown, hts⟩ (C_X4_readSetting l dC dI cI cJ cZ qa H.size x_letters x_size x_place x_fault x_stold d_tears d_gains d_likings d_settings d_goodbyes d_women 0 v23 w24 w25 w26 w27 g22) (cwV 2 hts gX4_readItem_X4_readSetting rfl rfl rfl hdV_X4_readSetting ⟨Nat.le_of_ble_eq_true rfl, Nat.le_of_ble_eq_true rfl⟩) (wq_pwV hK hP hD hE hS hFc (ci := 4) (q0 := 0) rfl rfl) rfl rfl hl.1 rfl (lv_room (Nat.le_of_ble_eq_true rfl)) dX4_readItem_83 ⟨Nat.zero_le _, Nat.zero_le _⟩) hP hD hS hFc [0, 1, 2, 3, 4, 5, 6] [] [0, 1, 2, 3, 4, 5, 6] rfl rfl (by decide) (by decide) (by decide) rfl (fun H locs b28 hP hD hS => ?_)
        clear hFc
        obtain ⟨e0, e1, e2, e3, e4, e5, e6, e7, e8, e9⟩ := wq_j10 hG
        subst e0
        subst e1
        subst e2
        subst e3
        subst e4
        subst e5
        subst e6
        subst e7
        subst e8
        subst e9
        exact W.zret hx hb hr (wq_Z1_n b28) (fun t ht hW => ⟨⟨_, (), rfl, ⟨rfl, b28⟩, by rw [ht]; exact hP, hD⟩, hS.F ht⟩) hS.2.2 dX4_readItem_86
      · replace hG := wq_f c21 hG
        by_cases c29 : v2 = 119
        · replace hG := wq_t c29 hG
          refine lv_lookup (off := 66) (tgt := 74) hx hb dX4_readItem_8 (by decide) (by rw [c29]; decide) (by decide) ?_
          refine lv_aload_n hx hb dX4_readItem_74 rfl (lv_at hl 0 rfl) ?_
          refine lv_aload_n hx hb dX4_readItem_75 rfl (lv_at hl 1 rfl) ?_
          obtain ⟨v31, w32, w33, w34, w35, g30, hG⟩ := wq_b5_s hG
          have hFc := va_free (wc := wcXD qa cI cJ cZ x_letters x_size x_place x_fault x_stold d_tears d_gains d_likings d_settings d_goodbyes d_women) hD hS hA [0, 1, 2, 3, 4, 5, 6] rfl
          refine wq_di (D := (dC, dI)) (v := v31) (B := wq_Z1) (wr := []) (w1 := wcXD qa cI cJ cZ x_letters x_size w32 w33 x_stold d_tears d_gains w34 d_settings d_goodbyes w35) (w2 := wcXD qa cI cJ cZ x_letters x_size w32 w33 x_stold d_tears d_gains w34 d_settings d_goodbyes w35) (va_runV (As := [.ref (qa 21)]) (rest := []) ⟨hx, hb, hml, hown, hts⟩ (C_X4_readWoman l dC dI cI cJ cZ qa H.size x_letters x_size x_place x_fault x_stold d_tears d_gains d_likings d_settings d_goodbyes d_women  v31 w32 w33 w34 w35 g30) (cwV 1 hts gX4_readItem_X4_readWoman rfl rfl rfl hdV_X4_readWoman ⟨Nat.le_of_ble_eq_true rfl, Nat.le_of_ble_eq_true rfl⟩) (wq_pwV hK hP hD hE hS hFc (ci := 4) (q0 := 0) rfl rfl) rfl rfl hl.1 rfl (lv_room (Nat.le_of_ble_eq_true rfl)) dX4_readItem_76 ⟨Nat.zero_le _, Nat.zero_le _⟩) hP hD hS hFc [0, 1, 2, 3, 4, 5, 6] [] [0, 1, 2, 3, 4, 5, 6] rfl rfl (by decide) (by decide) (by decide) rfl (fun H locs b36 hP hD hS => ?_)
          clear hFc
          obtain ⟨e0, e1, e2, e3, e4, e5, e6, e7, e8, e9⟩ := wq_j10 hG
          subst e0
          subst e1
          subst e2
          subst e3
          subst e4
          subst e5
          subst e6
          subst e7
          subst e8
          subst e9
          exact W.zret hx hb hr (wq_Z1_n b36) (fun t ht hW => ⟨⟨_, (), rfl, ⟨rfl, b36⟩, by rw [ht]; exact hP, hD⟩, hS.F ht⟩) hS.2.2 dX4_readItem_79
        · replace hG := wq_f c29 hG
          by_cases c37 : v2 = 120
          · replace hG := wq_t c37 hG
            refine lv_lookup (off := 86) (tgt := 94) hx hb dX4_readItem_8 (by decide) (by rw [c37]; decide) (by decide) ?_
            refine lv_aload_n hx hb dX4_readItem_94 rfl (lv_at hl 0 rfl) ?_
            refine lv_aload_n hx hb dX4_readItem_95 rfl (lv_at hl 1 rfl) ?_
            refine lv_iconst (v := 2) hx hb dX4_readItem_96 (by decide) ?_
            obtain ⟨v39, w40, w41, w42, w43, g38, hG⟩ := wq_b5_s hG
            have hFc := va_free (wc := wcXD qa cI cJ cZ x_letters x_size x_place x_fault x_stold d_tears d_gains d_likings d_settings d_goodbyes d_women) hD hS hA [0, 1, 2, 3, 4, 5, 6] rfl
            refine wq_di (D := (dC, dI)) (v := v39) (B := wq_Z1) (wr := []) (w1 := wcXD qa cI cJ cZ x_letters x_size w40 w41 w42 d_tears d_gains d_likings w43 d_goodbyes d_women) (w2 := wcXD qa cI cJ cZ x_letters x_size w40 w41 w42 d_tears d_gains d_likings w43 d_goodbyes d_women) (va_runV (As := [.ref (qa 21), .int 2]) (rest := []) ⟨hx, hb, hml, hown, hts⟩ (C_X4_readSetting l dC dI cI cJ cZ qa H.size x_letters x_size x_place x_fault x_stold d_tears d_gains d_likings d_settings d_goodbyes d_women 2 v39 w40 w41 w42 w43 g38) (cwV 2 hts gX4_readItem_X4_readSetting rfl rfl rfl hdV_X4_readSetting ⟨Nat.le_of_ble_eq_true rfl, Nat.le_of_ble_eq_true rfl⟩) (wq_pwV hK hP hD hE hS hFc (ci := 4) (q0 := 0) rfl rfl) rfl rfl hl.1 rfl (lv_room (Nat.le_of_ble_eq_true rfl)) dX4_readItem_97 ⟨Nat.zero_le _, Nat.zero_le _⟩) hP hD hS hFc [0, 1, 2, 3, 4, 5, 6] [] [0, 1, 2, 3, 4, 5, 6] rfl rfl (by decide) (by decide) (by decide) rfl (fun H locs b44 hP hD hS => ?_)
            clear hFc
            obtain ⟨e0, e1, e2, e3, e4, e5, e6, e7, e8, e9⟩ := wq_j10 hG
            subst e0
            subst e1
            subst e2
            subst e3
            subst e4
            subst e5
            subst e6
            subst e7
            subst e8
            subst e9
            exact W.zret hx hb hr (wq_Z1_n b44) (fun t ht hW => ⟨⟨_, (), rfl, ⟨rfl, b44⟩, by rw [ht]; exact hP, hD⟩, hS.F ht⟩) hS.2.2 dX4_readItem_100
          · replace hG := wq_f c37 hG
            by_cases c45 : v2 = 122
            · replace hG := wq_t c45 hG
              refine lv_lookup (off := 93) (tgt := 101) hx hb dX4_readItem_8 (by decide) (by rw [c45]; decide) (by decide) ?_
              refine lv_aload_n hx hb dX4_readItem_101 rfl (lv_at hl 0 rfl) ?_
              refine lv_aload_n hx hb dX4_readItem_102 rfl (lv_at hl 1 rfl) ?_
              refine lv_iconst (v := 3) hx hb dX4_readItem_103 (by decide) ?_
              obtain ⟨v47, w48, w49, w50, w51, g46, hG⟩ := wq_b5_s hG
              have hFc := va_free (wc := wcXD qa cI cJ cZ x_letters x_size x_place x_fault x_stold d_tears d_gains d_likings d_settings d_goodbyes d_women) hD hS hA [0, 1, 2, 3, 4, 5, 6] rfl
              refine wq_di (D := (dC, dI)) (v := v47) (B := wq_Z1) (wr := []) (w1 := wcXD qa cI cJ cZ x_letters x_size w48 w49 w50 d_tears d_gains d_likings w51 d_goodbyes d_women) (w2 := wcXD qa cI cJ cZ x_letters x_size w48 w49 w50 d_tears d_gains d_likings w51 d_goodbyes d_women) (va_runV (As := [.ref (qa 21), .int 3]) (rest := []) ⟨hx, hb, hml, hown, hts⟩ (C_X4_readSetting l dC dI cI cJ cZ qa H.size x_letters x_size x_place x_fault x_stold d_tears d_gains d_likings d_settings d_goodbyes d_women 3 v47 w48 w49 w50 w51 g46) (cwV 2 hts gX4_readItem_X4_readSetting rfl rfl rfl hdV_X4_readSetting ⟨Nat.le_of_ble_eq_true rfl, Nat.le_of_ble_eq_true rfl⟩) (wq_pwV hK hP hD hE hS hFc (ci := 4) (q0 := 0) rfl rfl) rfl rfl hl.1 rfl (lv_room (Nat.le_of_ble_eq_true rfl)) dX4_readItem_104 ⟨Nat.zero_le _, Nat.zero_le _⟩) hP hD hS hFc [0, 1, 2, 3, 4, 5, 6] [] [0, 1, 2, 3, 4, 5, 6] rfl rfl (by decide) (by decide) (by decide) rfl (fun H locs b52 hP hD hS => ?_)
              clear hFc
              obtain ⟨e0, e1, e2, e3, e4, e5, e6, e7, e8, e9⟩ := wq_j10 hG
              subst e0
              subst e1
              subst e2
              subst e3
              subst e4
              subst e5
              subst e6
              subst e7
              subst e8
              subst e9
              exact W.zret hx hb hr (wq_Z1_n b52) (fun t ht hW => ⟨⟨_, (), rfl, ⟨rfl, b52⟩, by rw [ht]; exact hP, hD⟩, hS.F ht⟩) hS.2.2 dX4_readItem_107
            · replace hG := wq_f c45 hG
              refine lv_lookup (off := 100) (tgt := 108) hx hb dX4_readItem_8 (by decide) ((lv_osw c4 (by decide)).trans ((lv_osw c12 (by decide)).trans ((lv_osw c21 (by decide)).trans ((lv_osw c29 (by decide)).trans ((lv_osw c37 (by decide)).trans ((lv_osw c45 (by decide)).trans rfl)))))) (by decide) ?_
              refine lv_aload_n hx hb dX4_readItem_108 rfl (lv_at hl 0 rfl) ?_
              refine lv_aload_n hx hb dX4_readItem_109 rfl (lv_at hl 0 rfl) ?_
              refine va_get (D := (dC, dI)) (ci := 4) (v := .int x_place) (C := RX4) (T := TX4) (N := 5) hx hb hts hinX4 hown hK hP 0 rfl rfl 2 (by decide) k1 (fun _ h9 => h9) rfl dX4_readItem_110 ?_
              obtain ⟨v54, w55, g53, hG⟩ := wq_b2_s hG
              have hFc := va_free (wc := wcX qa cI cJ cZ x_letters x_size x_place x_fault x_stold) hD hS hA [0, 1] rfl
              refine wq_di (D := (dC, dI)) (v := v54) (B := wq_Z1) (wr := wcD qa cI cJ cZ d_tears d_gains d_likings d_settings d_goodbyes d_women) (w1 := wcX qa cI cJ cZ x_letters x_size x_place w55 x_stold) (w2 := wcXD qa cI cJ cZ x_letters x_size x_place w55 x_stold d_tears d_gains d_likings d_settings d_goodbyes d_women) (va_runV (As := [.int x_place]) (rest := []) ⟨hx, hb, hml, hown, hts⟩ (C_X4_failsAt l dC dI cI cJ cZ qa H.size x_letters x_size x_place x_fault x_stold x_place v54 w55 g53) (cwV 1 hts gX4_readItem_X4_failsAt rfl rfl rfl hdV_X4_failsAt ⟨Nat.le_of_ble_eq_true rfl, Nat.le_of_ble_eq_true rfl⟩) (wq_pwV hK (hP.sub (ws' := wcX qa cI cJ cZ x_letters x_size x_place x_fault x_stold) [0, 1] rfl) (hD.sub (ws' := wcX qa cI cJ cZ x_letters x_size x_place x_fault x_stold) [0, 1] (by decide) rfl) hE hS hFc (ci := 4) (q0 := 0) rfl rfl) rfl rfl hl.1 rfl (lv_room (Nat.le_of_ble_eq_true rfl)) dX4_readItem_113 ⟨Nat.zero_le _, Nat.zero_le _⟩) hP hD hS hFc [0, 1] [2, 3, 4, 5, 6] [5, 6, 0, 1, 2, 3, 4] rfl rfl (by decide) (by decide) (by decide) rfl (fun H locs b56 hP hD hS => ?_)
              clear hFc
              obtain ⟨e0, e1, e2, e3, e4, e5, e6, e7, e8, e9⟩ := wq_j10 hG
              subst e0
              subst e1
              subst e2
              subst e3
              subst e4
              subst e5
              subst e6
              subst e7
              subst e8
              subst e9
              exact W.zret hx hb hr (wq_Z1_n b56) (fun t ht hW => ⟨⟨_, (), rfl, ⟨rfl, b56⟩, by rw [ht]; exact hP, hD⟩, hS.F ht⟩) hS.2.2 dX4_readItem_116

theorem hdV_X4_tell : yX4_tell.cls = RX4 ∧ yX4_tell.cls ≠ "java/lang/invoke/MethodHandle" ∧ yX4_tell.cls ≠ "java/lang/invoke/VarHandle" ∧ (parseMethodDescriptor yX4_tell.desc).map (fun d => d.parameters.length) = some 1 := by decide +kernel
set_option maxHeartbeats 4000000 in
set_option maxRecDepth 100000 in
theorem C_X4_tell (l : Launch) (dC : Nat → ClassId) (dI : Nat → Nat → Nat) (cI cJ cZ : ClassId) (qa : Nat → Nat) (sz : Nat) (x_letters : Nat → Int32) (x_size : Int32) (x_place : Int32) (x_fault : Int32) (x_stold : Int32) (d_tears : Nat → Int32) (d_gains : Nat → Int32) (d_likings : Nat → Int32) (d_settings : Nat → Int32) (d_goodbyes : Int32) (d_women : Int32) (r0 : Int32) (r_x_place : Int32) (r_x_fault : Int32) (r_x_stold : Int32) (r_d_tears : Nat → Int32) (r_d_gains : Nat → Int32) (r_d_likings : Nat → Int32) (r_d_settings : Nat → Int32) (r_d_goodbyes : Int32) (r_d_women : Int32) (hG : gX4_tell x_letters x_size x_place x_fault x_stold d_tears d_gains d_likings d_settings d_goodbyes d_women = some (r0, r_x_place, r_x_fault, r_x_stold, r_d_tears, r_d_gains, r_d_likings, r_d_settings, r_d_goodbyes, r_d_women)) : Met l yX4_tell wsX4_tell ({ frames := 5, cells := 0, slots := 0, locals := 111 } : Room) (va_Pc [.ref (qa 1), .ref (qa 21)] (wq_pw (dC, dI) [(cI, .int), (cJ, .long), (cZ, .boolean)] (wcXD qa cI cJ cZ x_letters x_size x_place x_fault x_stold d_tears d_gains d_likings d_settings d_goodbyes d_women) sz)) (wq_Wi (dC, dI) r0 wq_tr (wcXD qa cI cJ cZ x_letters x_size r_x_place r_x_fault r_x_stold r_d_tears r_d_gains r_d_likings r_d_settings r_d_goodbyes r_d_women) (va_A (wcXD qa cI cJ cZ x_letters x_size x_place x_fault x_stold d_tears d_gains d_likings d_settings d_goodbyes d_women) sz)) 0 0 (va_A (wcXD qa cI cJ cZ x_letters x_size x_place x_fault x_stold d_tears d_gains d_likings d_settings d_goodbyes d_women) sz) := by
  refine Met.ofW (cc := cX4_tell) (maxL := 4) (ret := (some .int)) (by decide) rfl ?_
  intro p e s m args below meth c s₁ B hml hv
  obtain ⟨rfl, hsz, hP, hK, hD0, hE⟩ := hv
  have hx := B.exec
  have hb := B.bytes
  have hr := B.returns
  have hts := atoms_spec (ws := wsX4_tell) B.pre
  have hown : s.vm.findClass RX4 = some m.cls := findClass_of_methodNamed B.named
  have hlocks := B.notSynchronized
  subst hsz
  have hD := hD0.self (sz := s.heap.size)
  generalize hAe : va_A (wcXD qa cI cJ cZ x_letters x_size x_place x_fault x_stold d_tears d_gains d_likings d_settings d_goodbyes d_women) s.heap.size = A at hD hE ⊢
  have hA : ∀ q : Nat, s.heap.size ≤ q → A q := fun q h => by rw [← hAe]; exact Or.inr h
  have hS : va_S A s.heap s.heap [] := va_S.rf
  have hinX4 : ∀ w ∈ u_ws RX4 TX4 5, w ∈ wsX4_tell := by decide +kernel
  have k1 := hts (.fieldLink RX4 19 "DoorMornings$Text" "place" "I") (by decide +kernel)
  have k2 := hts (.fieldLink RX4 15 "DoorMornings$Text" "size" "I") (by decide +kernel)
  have k3 := hts (.fieldLink RX4 22 "DoorMornings$Text" "fault" "I") (by decide +kernel)
  have k4 := hts (.fieldLink RX4 25 "DoorMornings$Text" "settingsTold" "I") (by decide +kernel)
  have hl := lv_entry ([.ref (qa 1), .ref (qa 21)]) (n := 4) (Nat.le_of_ble_eq_true rfl)
  rw [lg_entry_eq]
  generalize (lg_sl ([.ref (qa 1), .ref (qa 21)]) ++ List.replicate (4 - (lg_sl ([.ref (qa 1), .ref (qa 21)])).length) Slot.unset).toArray = ls at hl ⊢
  have hl : lv_has ls 4 [(0, .ref (qa 1)), (1, .ref (qa 21))] := hl
  have hL18 : ∀  (n : Nat) (x2 : Int32) (x3 : Int32) (z_x_place : Int32) (z_x_fault : Int32) (z_x_stold : Int32) (z_d_tears : Nat → Int32) (z_d_gains : Nat → Int32) (z_d_likings : Nat → Int32) (z_d_settings : Nat → Int32) (z_d_goodbyes : Int32) (z_d_women : Int32) (H : Heap) (locs : List Loc) (ls : Array Slot), gX4_tell_L18 x_letters x_size n x2 x3 z_x_place z_x_fault z_x_stold z_d_tears z_d_gains z_d_likings z_d_settings z_d_goodbyes z_d_women = some (r0, r_x_place, r_x_fault, r_x_stold, r_d_tears, r_d_gains, r_d_likings, r_d_settings, r_d_goodbyes, r_d_women) → va_P (dC, dI) vwCl (wcXD qa cI cJ cZ x_letters x_size z_x_place z_x_fault z_x_stold z_d_tears z_d_gains z_d_likings z_d_settings z_d_goodbyes z_d_women) H → va_D A (wcXD qa cI cJ cZ x_letters x_size z_x_place z_x_fault z_x_stold z_d_tears z_d_gains z_d_likings z_d_settings z_d_goodbyes z_d_women) → va_S A s.heap H locs → lv_has ls 4 [(0, .ref (qa 1)), (1, .ref (qa 21)), (2, .int x2), (3, .int x3)] → W p l e (headSpec wsX4_tell ({ frames := 5, cells := 0, slots := 0, locals := 111 } : Room)).room s m ([.ref (qa 1), .ref (qa 21)] : List Value).toArray below meth c H locs 0 0 (MQ below (wq_Wi (dC, dI) r0 wq_tr (wcXD qa cI cJ cZ x_letters x_size r_x_place r_x_fault r_x_stold r_d_tears r_d_gains r_d_likings r_d_settings r_d_goodbyes r_d_women) A) ([.ref (qa 1), .ref (qa 21)] : List Value).toArray s 0 0 A) (F0 m 18 ls []) := by
    intro  n
    induction n with
    | zero =>
      intro x2 x3 z_x_place z_x_fault z_x_stold z_d_tears z_d_gains z_d_likings z_d_settings z_d_goodbyes z_d_women H locs ls hG
      exact absurd (show (none : Option (Int32 × Int32 × Int32 × Int32 × (Nat → Int32) × (Nat → Int32) × (Nat → Int32) × (Nat → Int32) × Int32 × Int32)) = some (r0, r_x_place, r_x_fault, r_x_stold, r_d_tears, r_d_gains, r_d_likings, r_d_settings, r_d_goodbyes, r_d_women) from hG) (by intro h9; cases h9)
    | succ n ih18 =>
      intro x2 x3 z_x_place z_x_fault z_x_stold z_d_tears z_d_gains z_d_likings z_d_settings z_d_goodbyes z_d_women H locs ls hG hP hD hS hl
      rw [gX4_tell_L18] at hG
      refine lv_iload_n hx hb dX4_tell_18 rfl (lv_at hl 3 rfl) ?_
      refine lv_bipush (v := 120) hx hb dX4_tell_19 (by decide) ?_
      refine lv_icmp_gt (tgt := 67) hx hb dX4_tell_21 (by decide) (fun c1 => ?_) (fun c1 => ?_)
      · replace hG := wq_t c1 hG
        refine lv_iload_n hx hb dX4_tell_67 rfl (lv_at hl 2 rfl) ?_
        obtain ⟨e0, e1, e2, e3, e4, e5, e6, e7, e8, e9⟩ := wq_j10 hG
        subst e0
        subst e1
        subst e2
        subst e3
        subst e4
        subst e5
        subst e6
        subst e7
        subst e8
        subst e9
        exact W.iret hx hb hr (fun t ht hW => ⟨⟨_, (), rfl, ⟨rfl, trivial⟩, by rw [ht]; exact hP, hD⟩, hS.F ht⟩) hS.2.2 dX4_tell_68
      · replace hG := wq_f c1 hG
        refine lv_aload_n hx hb dX4_tell_24 rfl (lv_at hl 0 rfl) ?_
        obtain ⟨w3, g2, hG⟩ := wq_b1_s hG
        have hFc := va_free (wc := wcX qa cI cJ cZ x_letters x_size z_x_place z_x_fault z_x_stold) hD hS hA [0, 1] rfl
        refine wq_dv (D := (dC, dI)) (wr := wcD qa cI cJ cZ z_d_tears z_d_gains z_d_likings z_d_settings z_d_goodbyes z_d_women) (w1 := wcX qa cI cJ cZ x_letters x_size w3 z_x_fault z_x_stold) (w2 := wcXD qa cI cJ cZ x_letters x_size w3 z_x_fault z_x_stold z_d_tears z_d_gains z_d_likings z_d_settings z_d_goodbyes z_d_women) (va_runV (As := []) (rest := []) ⟨hx, hb, hml, hown, hts⟩ (C_X4_skipBlanks l dC dI cI cJ cZ qa H.size x_letters x_size z_x_place z_x_fault z_x_stold  w3 g2) (cwV 0 hts gX4_tell_X4_skipBlanks rfl rfl rfl hdV_X4_skipBlanks ⟨Nat.le_of_ble_eq_true rfl, Nat.le_of_ble_eq_true rfl⟩) (wq_pwV hK (hP.sub (ws' := wcX qa cI cJ cZ x_letters x_size z_x_place z_x_fault z_x_stold) [0, 1] rfl) (hD.sub (ws' := wcX qa cI cJ cZ x_letters x_size z_x_place z_x_fault z_x_stold) [0, 1] (by decide) rfl) hE hS hFc (ci := 4) (q0 := 0) rfl rfl) rfl rfl hl.1 rfl (lv_room (Nat.le_of_ble_eq_true rfl)) dX4_tell_25 ⟨Nat.zero_le _, Nat.zero_le _⟩) hP hD hS hFc [0, 1] [2, 3, 4, 5, 6] [5, 6, 0, 1, 2, 3, 4] rfl rfl (by decide) (by decide) (by decide) rfl (fun H locs hP hD hS => ?_)
        clear hFc
        refine lv_aload_n hx hb dX4_tell_28 rfl (lv_at hl 0 rfl) ?_
        refine va_get (D := (dC, dI)) (ci := 4) (v := .int w3) (C := RX4) (T := TX4) (N := 5) hx hb hts hinX4 hown hK hP 0 rfl rfl 2 (by decide) k1 (fun _ h9 => h9) rfl dX4_tell_29 ?_
        refine lv_aload_n hx hb dX4_tell_32 rfl (lv_at hl 0 rfl) ?_
        refine va_get (D := (dC, dI)) (ci := 4) (v := .int x_size) (C := RX4) (T := TX4) (N := 5) hx hb hts hinX4 hown hK hP 0 rfl rfl 1 (by decide) k2 (fun _ h9 => h9) rfl dX4_tell_33 ?_
        refine lv_icmp_lt (tgt := 42) hx hb dX4_tell_36 (by decide) (fun c4 => ?_) (fun c4 => ?_)
        · replace hG := wq_t c4 hG
          refine lv_aload_n hx hb dX4_tell_42 rfl (lv_at hl 0 rfl) ?_
          refine lv_aload_n hx hb dX4_tell_43 rfl (lv_at hl 1 rfl) ?_
          obtain ⟨v6, w7, w8, w9, w10, w11, w12, w13, w14, w15, g5, hG⟩ := wq_b10_s hG
          have hFc := va_free (wc := wcXD qa cI cJ cZ x_letters x_size w3 z_x_fault z_x_stold z_d_tears z_d_gains z_d_likings z_d_settings z_d_goodbyes z_d_women) hD hS hA [0, 1, 2, 3, 4, 5, 6] rfl
          refine wq_di (D := (dC, dI)) (v := v6) (B := wq_Z1) (wr := []) (w1 := wcXD qa cI cJ cZ x_letters x_size w7 w8 w9 w10 w11 w12 w13 w14 w15) (w2 := wcXD qa cI cJ cZ x_letters x_size w7 w8 w9 w10 w11 w12 w13 w14 w15) (va_runV (As := [.ref (qa 21)]) (rest := []) ⟨hx, hb, hml, hown, hts⟩ (C_X4_readItem l dC dI cI cJ cZ qa H.size x_letters x_size w3 z_x_fault z_x_stold z_d_tears z_d_gains z_d_likings z_d_settings z_d_goodbyes z_d_women  v6 w7 w8 w9 w10 w11 w12 w13 w14 w15 g5) (cwV 1 hts gX4_tell_X4_readItem rfl rfl rfl hdV_X4_readItem ⟨Nat.le_of_ble_eq_true rfl, Nat.le_of_ble_eq_true rfl⟩) (wq_pwV hK hP hD hE hS hFc (ci := 4) (q0 := 0) rfl rfl) rfl rfl hl.1 rfl (lv_room (Nat.le_of_ble_eq_true rfl)) dX4_tell_44 ⟨Nat.zero_le _, Nat.zero_le _⟩) hP hD hS hFc [0, 1, 2, 3, 4, 5, 6] [] [0, 1, 2, 3, 4, 5, 6] rfl rfl (by decide) (by decide) (by decide) rfl (fun H locs b16 hP hD hS => ?_)
          clear hFc
          refine lv_if_ne (tgt := 58) hx hb dX4_tell_47 (by decide) (fun c17 => ?_) (fun c17 => ?_)
          · replace hG := wq_f c17 hG
            refine lv_iinc (v := (x2 + 1)) (lv' := [(2, .int (x2 + 1)), (0, .ref (qa 1)), (1, .ref (qa 21)), (3, .int x3)]) hx hb dX4_tell_58 hl (k := 2) rfl rfl (by decide) rfl (fun ls hl => ?_)
            refine lv_iinc (v := (x3 + 1)) (lv' := [(3, .int (x3 + 1)), (2, .int (x2 + 1)), (0, .ref (qa 1)), (1, .ref (qa 21))]) hx hb dX4_tell_61 hl (k := 3) rfl rfl (by decide) rfl (fun ls hl => ?_)
            refine lv_goto (tgt := 18) hx hb dX4_tell_64 (by decide) ?_
            exact ih18 (x2 + 1) (x3 + 1) w7 w8 w9 w10 w11 w12 w13 w14 w15 _ _ _ hG hP hD hS (lv_sub hl [2, 3, 1, 0] rfl)
          · replace hG := wq_t c17 hG
            refine lv_bipush (v := (-10)) hx hb dX4_tell_50 (by decide) ?_
            refine lv_aload_n hx hb dX4_tell_52 rfl (lv_at hl 0 rfl) ?_
            refine va_get (D := (dC, dI)) (ci := 4) (v := .int w8) (C := RX4) (T := TX4) (N := 5) hx hb hts hinX4 hown hK hP 0 rfl rfl 3 (by decide) k3 (fun _ h9 => h9) rfl dX4_tell_53 ?_
            refine lv_isub hx hb dX4_tell_56 ?_
            obtain ⟨e0, e1, e2, e3, e4, e5, e6, e7, e8, e9⟩ := wq_j10 hG
            subst e0
            subst e1
            subst e2
            subst e3
            subst e4
            subst e5
            subst e6
            subst e7
            subst e8
            subst e9
            exact W.iret hx hb hr (fun t ht hW => ⟨⟨_, (), rfl, ⟨rfl, trivial⟩, by rw [ht]; exact hP, hD⟩, hS.F ht⟩) hS.2.2 dX4_tell_57
        · replace hG := wq_f c4 hG
          refine lv_goto (tgt := 67) hx hb dX4_tell_39 (by decide) ?_
          refine lv_iload_n hx hb dX4_tell_67 rfl (lv_at hl 2 rfl) ?_
          obtain ⟨e0, e1, e2, e3, e4, e5, e6, e7, e8, e9⟩ := wq_j10 hG
          subst e0
          subst e1
          subst e2
          subst e3
          subst e4
          subst e5
          subst e6
          subst e7
          subst e8
          subst e9
          exact W.iret hx hb hr (fun t ht hW => ⟨⟨_, (), rfl, ⟨rfl, trivial⟩, by rw [ht]; exact hP, hD⟩, hS.F ht⟩) hS.2.2 dX4_tell_68
  unfold gX4_tell at hG
  refine lv_aload_n hx hb dX4_tell_0 rfl (lv_at hl 1 rfl) ?_
  obtain ⟨w19, w20, w21, g18, hG⟩ := wq_b3_s hG
  have hFc := va_free (wc := wcD qa cI cJ cZ d_tears d_gains d_likings d_settings d_goodbyes d_women) hD hS hA [2, 3, 4, 5, 6] rfl
  refine wq_dv (D := (dC, dI)) (wr := wcX qa cI cJ cZ x_letters x_size x_place x_fault x_stold) (w1 := wcD qa cI cJ cZ d_tears d_gains d_likings w19 w20 w21) (w2 := wcXD qa cI cJ cZ x_letters x_size x_place x_fault x_stold d_tears d_gains d_likings w19 w20 w21) (va_runV (As := []) (rest := []) ⟨hx, hb, hml, hown, hts⟩ (C_X5_startAnew l dC dI cI cJ cZ qa s.heap.size d_tears d_gains d_likings d_settings d_goodbyes d_women  w19 w20 w21 g18) (cwV 0 hts gX4_tell_X5_startAnew rfl rfl rfl hdV_X5_startAnew ⟨Nat.le_of_ble_eq_true rfl, Nat.le_of_ble_eq_true rfl⟩) (wq_pwV hK (hP.sub (ws' := wcD qa cI cJ cZ d_tears d_gains d_likings d_settings d_goodbyes d_women) [2, 3, 4, 5, 6] rfl) (hD.sub (ws' := wcD qa cI cJ cZ d_tears d_gains d_likings d_settings d_goodbyes d_women) [2, 3, 4, 5, 6] (by decide) rfl) hE hS hFc (ci := 5) (q0 := 0) rfl rfl) rfl rfl hl.1 rfl (lv_room (Nat.le_of_ble_eq_true rfl)) dX4_tell_1 ⟨Nat.zero_le _, Nat.zero_le _⟩) hP hD hS hFc [2, 3, 4, 5, 6] [0, 1] [0, 1, 2, 3, 4, 5, 6] rfl rfl (by decide) (by decide) (by decide) rfl (fun H locs hP hD hS => ?_)
  clear hFc
  refine lv_aload_n hx hb dX4_tell_4 rfl (lv_at hl 0 rfl) ?_
  refine lv_iconst (v := 0) hx hb dX4_tell_5 (by decide) ?_
  refine va_put (D := (dC, dI)) (ci := 4) (v := .int 0) (ty := tyX4 2) (C := RX4) (T := TX4) (N := 5) hx hb hts hinX4 tyX4 tyX4_ok nmX4 hown hK hP hD hS 0 rfl rfl 2 (by decide) k1 (fun _ h9 => h9) rfl (tyX4_ok 2 (by decide)) rfl rfl (Nat.le_of_ble_eq_true rfl) dX4_tell_6 (fun H locs hP hD hS => ?_)
  replace hP : va_P (dC, dI) vwCl (wcXD qa cI cJ cZ x_letters x_size 0 x_fault x_stold d_tears d_gains d_likings w19 w20 w21) H := hP
  replace hD : va_D A (wcXD qa cI cJ cZ x_letters x_size 0 x_fault x_stold d_tears d_gains d_likings w19 w20 w21) := hD
  refine lv_aload_n hx hb dX4_tell_9 rfl (lv_at hl 0 rfl) ?_
  refine lv_iconst (v := 0) hx hb dX4_tell_10 (by decide) ?_
  refine va_put (D := (dC, dI)) (ci := 4) (v := .int 0) (ty := tyX4 4) (C := RX4) (T := TX4) (N := 5) hx hb hts hinX4 tyX4 tyX4_ok nmX4 hown hK hP hD hS 0 rfl rfl 4 (by decide) k4 (fun _ h9 => h9) rfl (tyX4_ok 4 (by decide)) rfl rfl (Nat.le_of_ble_eq_true rfl) dX4_tell_11 (fun H locs hP hD hS => ?_)
  replace hP : va_P (dC, dI) vwCl (wcXD qa cI cJ cZ x_letters x_size 0 x_fault 0 d_tears d_gains d_likings w19 w20 w21) H := hP
  replace hD : va_D A (wcXD qa cI cJ cZ x_letters x_size 0 x_fault 0 d_tears d_gains d_likings w19 w20 w21) := hD
  refine lv_iconst (v := 0) hx hb dX4_tell_14 (by decide) ?_
  refine lv_istore_n (lv' := [(2, .int 0), (0, .ref (qa 1)), (1, .ref (qa 21))]) hx hb dX4_tell_15 rfl hl (by decide) rfl (fun ls hl => ?_)
  refine lv_iconst (v := 0) hx hb dX4_tell_16 (by decide) ?_
  refine lv_istore_n (lv' := [(3, .int 0), (2, .int 0), (0, .ref (qa 1)), (1, .ref (qa 21))]) hx hb dX4_tell_17 rfl hl (by decide) rfl (fun ls hl => ?_)
  exact hL18  1000 0 0 0 x_fault 0 d_tears d_gains d_likings w19 w20 w21 _ _ _ hG hP hD hS (lv_sub hl [2, 3, 1, 0] rfl)

