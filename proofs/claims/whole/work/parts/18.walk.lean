theorem hdV_X6_plan : yX6_plan.cls = RX6 ∧ yX6_plan.cls ≠ "java/lang/invoke/MethodHandle" ∧ yX6_plan.cls ≠ "java/lang/invoke/VarHandle" ∧ (parseMethodDescriptor yX6_plan.desc).map (fun d => d.parameters.length) = some 2 := by decide +kernel
set_option maxHeartbeats 4000000 in
set_option maxRecDepth 100000 in
theorem C_X6_plan (l : Launch) (dC : Nat → ClassId) (dI : Nat → Nat → Nat) (cI cJ cZ : ClassId) (qa : Nat → Nat) (sz : Nat) (r_images : Nat → Int64) (r_asked : Int64) (n_likings : Nat → Int32) (n_day : Int32) (n_trust : Int32) (n_ill : Int32) (n_done : Int32) (o_fewest : Nat → Int32) (o_rows : Nat → Int32) (o_first : Nat → Int32) (o_stands : Int32) (t_tears : Nat → Int32) (t_gains : Nat → Int32) (t_likings : Nat → Int32) (t_settings : Nat → Int32) (t_goodbyes : Int32) (t_women : Int32) (a1 : Int32) (a2 : Int32) (r0 : Int32) (r_o_fewest : Nat → Int32) (r_o_rows : Nat → Int32) (r_o_first : Nat → Int32) (r_o_stands : Int32) (hG : gX6_plan n_likings n_trust o_fewest o_rows o_first o_stands t_tears t_gains t_settings t_goodbyes t_women a1 a2 = some (r0, r_o_fewest, r_o_rows, r_o_first, r_o_stands)) : Met l yX6_plan wsX6_plan ({ frames := 6, cells := 0, slots := 0, locals := 137 } : Room) (va_Pc [.ref (qa 0), .int a1, .int a2] (wq_pw (dC, dI) [(cI, .int), (cJ, .long), (cZ, .boolean)] (wcRNOT qa cI cJ cZ r_images r_asked n_likings n_day n_trust n_ill n_done o_fewest o_rows o_first o_stands t_tears t_gains t_likings t_settings t_goodbyes t_women) sz)) (wq_Wi (dC, dI) r0 wq_tr (wcRNOT qa cI cJ cZ r_images r_asked n_likings n_day n_trust n_ill n_done r_o_fewest r_o_rows r_o_first r_o_stands t_tears t_gains t_likings t_settings t_goodbyes t_women) (va_A (wcRNOT qa cI cJ cZ r_images r_asked n_likings n_day n_trust n_ill n_done o_fewest o_rows o_first o_stands t_tears t_gains t_likings t_settings t_goodbyes t_women) sz)) 0 0 (va_A (wcRNOT qa cI cJ cZ r_images r_asked n_likings n_day n_trust n_ill n_done o_fewest o_rows o_first o_stands t_tears t_gains t_likings t_settings t_goodbyes t_women) sz) := by
  refine Met.ofW (cc := cX6_plan) (maxL := 4) (ret := (some .int)) (by decide) rfl ?_
  intro p e s m args below meth c s₁ B hml hv
  obtain ⟨rfl, hsz, hP, hK, hD0, hE⟩ := hv
  have hx := B.exec
  have hb := B.bytes
  have hr := B.returns
  have hts := atoms_spec (ws := wsX6_plan) B.pre
  have hown : s.vm.findClass RX6 = some m.cls := findClass_of_methodNamed B.named
  have hlocks := B.notSynchronized
  subst hsz
  have hD := hD0.self (sz := s.heap.size)
  generalize hAe : va_A (wcRNOT qa cI cJ cZ r_images r_asked n_likings n_day n_trust n_ill n_done o_fewest o_rows o_first o_stands t_tears t_gains t_likings t_settings t_goodbyes t_women) s.heap.size = A at hD hE ⊢
  have hA : ∀ q : Nat, s.heap.size ≤ q → A q := fun q h => by rw [← hAe]; exact Or.inr h
  have hS : va_S A s.heap s.heap [] := va_S.rf
  have hinX6 : ∀ w ∈ u_ws RX6 TX6 9, w ∈ wsX6_plan := by decide +kernel
  have hinX0 : ∀ w ∈ u_ws RX0 TX0 5, w ∈ wsX6_plan := by decide +kernel
  have k1 := hts (.fieldLink RX6 53 "DoorMornings" "told" "LDoorMornings$Told;") (by decide +kernel)
  have k2 := hts (.fieldLink RX6 40 "DoorMornings" "outlook" "LDoorMornings$Outlook;") (by decide +kernel)
  have k3 := hts (.fieldLink RX6 19 "DoorMornings" "today" "LDoorMornings$Now;") (by decide +kernel)
  have k4 := hts (.fieldLink RX6 113 "DoorMornings$Now" "trust" "I") (by decide +kernel)
  have hl := lv_entry ([.ref (qa 0), .int a1, .int a2]) (n := 4) (Nat.le_of_ble_eq_true rfl)
  rw [lg_entry_eq]
  generalize (lg_sl ([.ref (qa 0), .int a1, .int a2]) ++ List.replicate (4 - (lg_sl ([.ref (qa 0), .int a1, .int a2])).length) Slot.unset).toArray = ls at hl ⊢
  have hl : lv_has ls 4 [(0, .ref (qa 0)), (1, .int a1), (2, .int a2)] := hl
  unfold gX6_plan at hG
  refine lv_aload_n hx hb dX6_plan_0 rfl (lv_at hl 0 rfl) ?_
  refine va_get (D := (dC, dI)) (ci := 6) (v := .ref (qa 16)) (C := RX6) (T := TX6) (N := 9) hx hb hts hinX6 hown hK hP 0 rfl rfl 6 (by decide) k1 (fun _ h9 => h9) rfl dX6_plan_1 ?_
  refine lv_iload_n hx hb dX6_plan_4 rfl (lv_at hl 1 rfl) ?_
  obtain ⟨v2, g1, hG⟩ := wq_b1_s hG
  refine wq_ci (v := v2) (B := wq_Z1) (va_runV (As := [.int a1]) (rest := []) ⟨hx, hb, hml, hown, hts⟩ (C_X5_hasWoman l dC dI cI cJ cZ qa s.heap.size t_tears t_gains t_likings t_settings t_goodbyes t_women a1 v2 g1) (cwV 1 hts gX6_plan_X5_hasWoman rfl rfl rfl hdV_X5_hasWoman ⟨Nat.le_of_ble_eq_true rfl, Nat.le_of_ble_eq_true rfl⟩) (wq_ppV hK (hP.sub (ws' := wcT qa cI cJ cZ t_tears t_gains t_likings t_settings t_goodbyes t_women) [8, 9, 10, 11, 12] rfl) hE hS hA (ci := 5) (q0 := 0) rfl rfl) rfl rfl hl.1 rfl (lv_room (Nat.le_of_ble_eq_true rfl)) dX6_plan_5 ⟨Nat.zero_le _, Nat.zero_le _⟩) hS hA (fun H locs b3 hk hS => ?_)
  replace hP := wq_kp hP hk
  clear hk
  refine lv_if_eq (tgt := 16) hx hb dX6_plan_8 (by decide) (fun c4 => ?_) (fun c4 => ?_)
  · replace hG := wq_t c4 hG
    refine lv_iconst (v := (-1)) hx hb dX6_plan_16 (by decide) ?_
    obtain ⟨e0, e1, e2, e3, e4⟩ := wq_j5 hG
    subst e0
    subst e1
    subst e2
    subst e3
    subst e4
    exact W.iret hx hb hr (fun t ht hW => ⟨⟨_, (), rfl, ⟨rfl, trivial⟩, by rw [ht]; exact hP, hD⟩, hS.F ht⟩) hS.2.2 dX6_plan_17
  · replace hG := wq_f c4 hG
    refine lv_iload_n hx hb dX6_plan_11 rfl (lv_at hl 2 rfl) ?_
    refine lv_iconst (v := (-1)) hx hb dX6_plan_12 (by decide) ?_
    refine lv_icmp_ge (tgt := 18) hx hb dX6_plan_13 (by decide) (fun c5 => ?_) (fun c5 => ?_)
    · replace hG := wq_t c5 hG
      refine lv_aload_n hx hb dX6_plan_18 rfl (lv_at hl 0 rfl) ?_
      obtain ⟨w7, w8, w9, w10, g6, hG⟩ := wq_b4_s hG
      have hFc := va_free (wc := wcROT qa cI cJ cZ r_images r_asked o_fewest o_rows o_first o_stands t_tears t_gains t_likings t_settings t_goodbyes t_women) hD hS hA [0, 1, 4, 5, 6, 7, 8, 9, 10, 11, 12] rfl
      refine wq_dv (D := (dC, dI)) (wr := wcN qa cI cJ cZ n_likings n_day n_trust n_ill n_done) (w1 := wcROT qa cI cJ cZ r_images r_asked w7 w8 w9 w10 t_tears t_gains t_likings t_settings t_goodbyes t_women) (w2 := wcRNOT qa cI cJ cZ r_images r_asked n_likings n_day n_trust n_ill n_done w7 w8 w9 w10 t_tears t_gains t_likings t_settings t_goodbyes t_women) (va_runV (As := []) (rest := []) ⟨hx, hb, hml, hown, hts⟩ (C_X6_lookAhead l dC dI cI cJ cZ qa H.size r_images r_asked o_fewest o_rows o_first o_stands t_tears t_gains t_likings t_settings t_goodbyes t_women  w7 w8 w9 w10 g6) (cwV 0 hts gX6_plan_X6_lookAhead rfl rfl rfl hdV_X6_lookAhead ⟨Nat.le_of_ble_eq_true rfl, Nat.le_of_ble_eq_true rfl⟩) (wq_pwV hK (hP.sub (ws' := wcROT qa cI cJ cZ r_images r_asked o_fewest o_rows o_first o_stands t_tears t_gains t_likings t_settings t_goodbyes t_women) [0, 1, 4, 5, 6, 7, 8, 9, 10, 11, 12] rfl) (hD.sub (ws' := wcROT qa cI cJ cZ r_images r_asked o_fewest o_rows o_first o_stands t_tears t_gains t_likings t_settings t_goodbyes t_women) [0, 1, 4, 5, 6, 7, 8, 9, 10, 11, 12] (by decide) rfl) hE hS hFc (ci := 6) (q0 := 0) rfl rfl) rfl rfl hl.1 rfl (lv_room (Nat.le_of_ble_eq_true rfl)) dX6_plan_19 ⟨Nat.zero_le _, Nat.zero_le _⟩) hP hD hS hFc [0, 1, 4, 5, 6, 7, 8, 9, 10, 11, 12] [2, 3] [2, 3, 0, 1, 4, 5, 6, 7, 8, 9, 10, 11, 12] rfl rfl (by decide) (by decide) (by decide) rfl (fun H locs hP hD hS => ?_)
      clear hFc
      refine lv_aload_n hx hb dX6_plan_22 rfl (lv_at hl 0 rfl) ?_
      refine va_get (D := (dC, dI)) (ci := 6) (v := .ref (qa 11)) (C := RX6) (T := TX6) (N := 9) hx hb hts hinX6 hown hK hP 0 rfl rfl 4 (by decide) k2 (fun _ h9 => h9) rfl dX6_plan_23 ?_
      refine lv_aload_n hx hb dX6_plan_26 rfl (lv_at hl 0 rfl) ?_
      refine va_get (D := (dC, dI)) (ci := 6) (v := .ref (qa 3)) (C := RX6) (T := TX6) (N := 9) hx hb hts hinX6 hown hK hP 0 rfl rfl 1 (by decide) k3 (fun _ h9 => h9) rfl dX6_plan_27 ?_
      refine va_get (D := (dC, dI)) (ci := 0) (v := .int n_trust) (C := RX0) (T := TX0) (N := 5) hx hb hts hinX0 hown hK hP 2 rfl rfl 2 (by decide) k4 (fun _ h9 => h9) rfl dX6_plan_30 ?_
      refine lv_aload_n hx hb dX6_plan_33 rfl (lv_at hl 0 rfl) ?_
      refine va_get (D := (dC, dI)) (ci := 6) (v := .ref (qa 3)) (C := RX6) (T := TX6) (N := 9) hx hb hts hinX6 hown hK hP 0 rfl rfl 1 (by decide) k3 (fun _ h9 => h9) rfl dX6_plan_34 ?_
      refine lv_iload_n hx hb dX6_plan_37 rfl (lv_at hl 1 rfl) ?_
      obtain ⟨v12, g11, hG⟩ := wq_b1_s hG
      refine wq_ci (v := v12) (B := wq_tr) (va_runV (As := [.int a1]) (rest := [.int n_trust, .ref (qa 11)]) ⟨hx, hb, hml, hown, hts⟩ (C_X0_likingOf l dC dI cI cJ cZ qa H.size n_likings n_day n_trust n_ill n_done a1 v12 g11) (cwV 1 hts gX6_plan_X0_likingOf rfl rfl rfl hdV_X0_likingOf ⟨Nat.le_of_ble_eq_true rfl, Nat.le_of_ble_eq_true rfl⟩) (wq_ppV hK (hP.sub (ws' := wcN qa cI cJ cZ n_likings n_day n_trust n_ill n_done) [2, 3] rfl) hE hS hA (ci := 0) (q0 := 0) rfl rfl) rfl rfl hl.1 rfl (lv_room (Nat.le_of_ble_eq_true rfl)) dX6_plan_38 ⟨Nat.zero_le _, Nat.zero_le _⟩) hS hA (fun H locs b13 hk hS => ?_)
      replace hP := wq_kp hP hk
      clear hk
      obtain ⟨v15, g14, hG⟩ := wq_b1_s hG
      refine wq_ci (v := v15) (B := wq_tr) (va_runV (As := [.int n_trust, .int v12]) (rest := []) ⟨hx, hb, hml, hown, hts⟩ (C_X1_fewestFrom l dC dI cI cJ cZ qa H.size w7 w8 w9 w10 n_trust v12 v15 g14) (cwV 2 hts gX6_plan_X1_fewestFrom rfl rfl rfl hdV_X1_fewestFrom ⟨Nat.le_of_ble_eq_true rfl, Nat.le_of_ble_eq_true rfl⟩) (wq_ppV hK (hP.sub (ws' := wcO qa cI cJ cZ w7 w8 w9 w10) [4, 5, 6, 7] rfl) hE hS hA (ci := 1) (q0 := 0) rfl rfl) rfl rfl hl.1 rfl (lv_room (Nat.le_of_ble_eq_true rfl)) dX6_plan_41 ⟨Nat.zero_le _, Nat.zero_le _⟩) hS hA (fun H locs b16 hk hS => ?_)
      replace hP := wq_kp hP hk
      clear hk
      refine lv_istore_n (lv' := [(3, .int v15), (0, .ref (qa 0)), (1, .int a1), (2, .int a2)]) hx hb dX6_plan_44 rfl hl (by decide) rfl (fun ls hl => ?_)
      refine lv_iload_n hx hb dX6_plan_45 rfl (lv_at hl 0 rfl) ?_
      refine lv_iconst (v := 1) hx hb dX6_plan_46 (by decide) ?_
      refine lv_icmp_ge (tgt := 53) hx hb dX6_plan_47 (by decide) (fun c17 => ?_) (fun c17 => ?_)
      · replace hG := wq_t c17 hG
        refine lv_iload_n hx hb dX6_plan_53 rfl (lv_at hl 3 rfl) ?_
        refine lv_iconst (v := (-1)) hx hb dX6_plan_54 (by decide) ?_
        refine lv_icmp_ne (tgt := 60) hx hb dX6_plan_55 (by decide) (fun c18 => ?_) (fun c18 => ?_)
        · replace hG := wq_f c18 hG
          refine lv_iload_n hx hb dX6_plan_60 rfl (lv_at hl 3 rfl) ?_
          refine lv_iload_n hx hb dX6_plan_61 rfl (lv_at hl 0 rfl) ?_
          refine lv_icmp_lt (tgt := 68) hx hb dX6_plan_62 (by decide) (fun c19 => ?_) (fun c19 => ?_)
          · replace hG := wq_t c19 hG
            refine lv_aload_n hx hb dX6_plan_68 rfl (lv_at hl 1 rfl) ?_
            refine va_get (D := (dC, dI)) (ci := 6) (v := .ref (qa 11)) (C := RX6) (T := TX6) (N := 9) hx hb hts hinX6 hown hK hP 0 rfl rfl 4 (by decide) k2 (fun _ h9 => h9) rfl dX6_plan_69 ?_
            refine lv_aload_n hx hb dX6_plan_72 rfl (lv_at hl 1 rfl) ?_
            refine va_get (D := (dC, dI)) (ci := 6) (v := .ref (qa 16)) (C := RX6) (T := TX6) (N := 9) hx hb hts hinX6 hown hK hP 0 rfl rfl 6 (by decide) k1 (fun _ h9 => h9) rfl dX6_plan_73 ?_
            refine lv_aload_n hx hb dX6_plan_76 rfl (lv_at hl 1 rfl) ?_
            refine va_get (D := (dC, dI)) (ci := 6) (v := .ref (qa 3)) (C := RX6) (T := TX6) (N := 9) hx hb hts hinX6 hown hK hP 0 rfl rfl 1 (by decide) k3 (fun _ h9 => h9) rfl dX6_plan_77 ?_
            refine va_get (D := (dC, dI)) (ci := 0) (v := .int n_trust) (C := RX0) (T := TX0) (N := 5) hx hb hts hinX0 hown hK hP 2 rfl rfl 2 (by decide) k4 (fun _ h9 => h9) rfl dX6_plan_80 ?_
            refine lv_aload_n hx hb dX6_plan_83 rfl (lv_at hl 1 rfl) ?_
            refine va_get (D := (dC, dI)) (ci := 6) (v := .ref (qa 3)) (C := RX6) (T := TX6) (N := 9) hx hb hts hinX6 hown hK hP 0 rfl rfl 1 (by decide) k3 (fun _ h9 => h9) rfl dX6_plan_84 ?_
            refine lv_iload_n hx hb dX6_plan_87 rfl (lv_at hl 2 rfl) ?_
            obtain ⟨v21, g20, hG⟩ := wq_b1_s hG
            refine wq_ci (v := v21) (B := wq_tr) (va_runV (As := [.int a1]) (rest := [.int n_trust, .ref (qa 16), .ref (qa 11)]) ⟨hx, hb, hml, hown, hts⟩ (C_X0_likingOf l dC dI cI cJ cZ qa H.size n_likings n_day n_trust n_ill n_done a1 v21 g20) (cwV 1 hts gX6_plan_X0_likingOf rfl rfl rfl hdV_X0_likingOf ⟨Nat.le_of_ble_eq_true rfl, Nat.le_of_ble_eq_true rfl⟩) (wq_ppV hK (hP.sub (ws' := wcN qa cI cJ cZ n_likings n_day n_trust n_ill n_done) [2, 3] rfl) hE hS hA (ci := 0) (q0 := 0) rfl rfl) rfl rfl hl.1 rfl (lv_room (Nat.le_of_ble_eq_true rfl)) dX6_plan_88 ⟨Nat.zero_le _, Nat.zero_le _⟩) hS hA (fun H locs b22 hk hS => ?_)
            replace hP := wq_kp hP hk
            clear hk
            refine lv_iload_n hx hb dX6_plan_91 rfl (lv_at hl 3 rfl) ?_
            obtain ⟨v24, g23, hG⟩ := wq_b1_s hG
            refine wq_ci (v := v24) (B := wq_tr) (va_runV (As := [.ref (qa 16), .int n_trust, .int v21, .int a2]) (rest := []) ⟨hx, hb, hml, hown, hts⟩ (C_X1_morningAt l dC dI cI cJ cZ qa H.size w7 w8 w9 w10 t_tears t_gains t_likings t_settings t_goodbyes t_women n_trust v21 a2 v24 g23) (cwV 4 hts gX6_plan_X1_morningAt rfl rfl rfl hdV_X1_morningAt ⟨Nat.le_of_ble_eq_true rfl, Nat.le_of_ble_eq_true rfl⟩) (wq_ppV hK (hP.sub (ws' := wcOT qa cI cJ cZ w7 w8 w9 w10 t_tears t_gains t_likings t_settings t_goodbyes t_women) [4, 5, 6, 7, 8, 9, 10, 11, 12] rfl) hE hS hA (ci := 1) (q0 := 0) rfl rfl) rfl rfl hl.1 rfl (lv_room (Nat.le_of_ble_eq_true rfl)) dX6_plan_92 ⟨Nat.zero_le _, Nat.zero_le _⟩) hS hA (fun H locs b25 hk hS => ?_)
            replace hP := wq_kp hP hk
            clear hk
            obtain ⟨e0, e1, e2, e3, e4⟩ := wq_j5 hG
            subst e0
            subst e1
            subst e2
            subst e3
            subst e4
            exact W.iret hx hb hr (fun t ht hW => ⟨⟨_, (), rfl, ⟨rfl, trivial⟩, by rw [ht]; exact hP, hD⟩, hS.F ht⟩) hS.2.2 dX6_plan_95
          · replace hG := wq_f c19 hG
            refine lv_bipush (v := (-5)) hx hb dX6_plan_65 (by decide) ?_
            obtain ⟨e0, e1, e2, e3, e4⟩ := wq_j5 hG
            subst e0
            subst e1
            subst e2
            subst e3
            subst e4
            exact W.iret hx hb hr (fun t ht hW => ⟨⟨_, (), rfl, ⟨rfl, trivial⟩, by rw [ht]; exact hP, hD⟩, hS.F ht⟩) hS.2.2 dX6_plan_67
        · replace hG := wq_t c18 hG
          refine lv_iload_n hx hb dX6_plan_58 rfl (lv_at hl 0 rfl) ?_
          obtain ⟨e0, e1, e2, e3, e4⟩ := wq_j5 hG
          subst e0
          subst e1
          subst e2
          subst e3
          subst e4
          exact W.iret hx hb hr (fun t ht hW => ⟨⟨_, (), rfl, ⟨rfl, trivial⟩, by rw [ht]; exact hP, hD⟩, hS.F ht⟩) hS.2.2 dX6_plan_59
      · replace hG := wq_f c17 hG
        refine lv_bipush (v := (-9)) hx hb dX6_plan_50 (by decide) ?_
        obtain ⟨e0, e1, e2, e3, e4⟩ := wq_j5 hG
        subst e0
        subst e1
        subst e2
        subst e3
        subst e4
        exact W.iret hx hb hr (fun t ht hW => ⟨⟨_, (), rfl, ⟨rfl, trivial⟩, by rw [ht]; exact hP, hD⟩, hS.F ht⟩) hS.2.2 dX6_plan_52
    · replace hG := wq_f c5 hG
      refine lv_iconst (v := (-1)) hx hb dX6_plan_16 (by decide) ?_
      obtain ⟨e0, e1, e2, e3, e4⟩ := wq_j5 hG
      subst e0
      subst e1
      subst e2
      subst e3
      subst e4
      exact W.iret hx hb hr (fun t ht hW => ⟨⟨_, (), rfl, ⟨rfl, trivial⟩, by rw [ht]; exact hP, hD⟩, hS.F ht⟩) hS.2.2 dX6_plan_17

theorem hdV_X1_rowsFrom : yX1_rowsFrom.cls = RX1 ∧ yX1_rowsFrom.cls ≠ "java/lang/invoke/MethodHandle" ∧ yX1_rowsFrom.cls ≠ "java/lang/invoke/VarHandle" ∧ (parseMethodDescriptor yX1_rowsFrom.desc).map (fun d => d.parameters.length) = some 2 := by decide +kernel
set_option maxHeartbeats 4000000 in
set_option maxRecDepth 100000 in
theorem C_X1_rowsFrom (l : Launch) (dC : Nat → ClassId) (dI : Nat → Nat → Nat) (cI cJ cZ : ClassId) (qa : Nat → Nat) (sz : Nat) (o_fewest : Nat → Int32) (o_rows : Nat → Int32) (o_first : Nat → Int32) (o_stands : Int32) (a1 : Int32) (a2 : Int32) (r0 : Int32) (hG : gX1_rowsFrom o_rows a1 a2 = some r0) : Met l yX1_rowsFrom wsX1_rowsFrom ({ frames := 2, cells := 0, slots := 0, locals := 41 } : Room) (va_Pc [.ref (qa 11), .int a1, .int a2] (wq_pp (dC, dI) [(cI, .int), (cJ, .long), (cZ, .boolean)] (wcO qa cI cJ cZ o_fewest o_rows o_first o_stands) sz)) (wq_Qi r0 wq_tr (va_A [] sz)) 0 0 (va_A [] sz) := by
  refine Met.ofW (cc := cX1_rowsFrom) (maxL := 3) (ret := (some .int)) (by decide) rfl ?_
  intro p e s m args below meth c s₁ B hml hv
  obtain ⟨rfl, hsz, hP, hK, hE⟩ := hv
  have hx := B.exec
  have hb := B.bytes
  have hr := B.returns
  have hts := atoms_spec (ws := wsX1_rowsFrom) B.pre
  have hown : s.vm.findClass RX1 = some m.cls := findClass_of_methodNamed B.named
  have hlocks := B.notSynchronized
  subst hsz
  generalize hAe : va_A [] s.heap.size = A at hE ⊢
  have hA : ∀ q : Nat, s.heap.size ≤ q → A q := fun q h => by rw [← hAe]; exact Or.inr h
  have hS : va_S A s.heap s.heap [] := va_S.rf
  have hl := lv_entry ([.ref (qa 11), .int a1, .int a2]) (n := 3) (Nat.le_of_ble_eq_true rfl)
  rw [lg_entry_eq]
  generalize (lg_sl ([.ref (qa 11), .int a1, .int a2]) ++ List.replicate (3 - (lg_sl ([.ref (qa 11), .int a1, .int a2])).length) Slot.unset).toArray = ls at hl ⊢
  have hl : lv_has ls 3 [(0, .ref (qa 11)), (1, .int a1), (2, .int a2)] := hl
  unfold gX1_rowsFrom at hG
  refine lv_aload_n hx hb dX1_rowsFrom_0 rfl (lv_at hl 0 rfl) ?_
  refine lv_iload_n hx hb dX1_rowsFrom_1 rfl (lv_at hl 1 rfl) ?_
  refine lv_iload_n hx hb dX1_rowsFrom_2 rfl (lv_at hl 2 rfl) ?_
  obtain ⟨v2, g1, hG⟩ := wq_b1_s hG
  refine wq_ci (v := v2) (B := wq_tr) (va_runS (As := [.int a1, .int a2]) (rest := [.ref (qa 11)]) ⟨hx, hb, hml, hown, hts⟩ (C_X1_placeOf l dC dI cI cJ cZ qa s.heap.size  a1 a2 v2 g1) (va_cwS 2 hts gX1_rowsFrom_X1_placeOf rfl rfl rfl hdS_X1_placeOf ⟨Nat.le_of_ble_eq_true rfl, Nat.le_of_ble_eq_true rfl⟩) (wq_ppS hK (hP.sub (ws' := []) [] rfl) hE hS hA) rfl rfl hl.1 rfl (lv_room (Nat.le_of_ble_eq_true rfl)) dX1_rowsFrom_3 ⟨Nat.zero_le _, Nat.zero_le _⟩) hS hA (fun H locs b3 hk hS => ?_)
  replace hP := wq_kp hP hk
  clear hk
  obtain ⟨v5, g4, hG⟩ := wq_b1_s hG
  refine wq_ci (v := v5) (B := wq_tr) (va_runV (As := [.int v2]) (rest := []) ⟨hx, hb, hml, hown, hts⟩ (C_X1_rowsAt l dC dI cI cJ cZ qa H.size o_fewest o_rows o_first o_stands v2 v5 g4) (cwV 1 hts gX1_rowsFrom_X1_rowsAt rfl rfl rfl hdV_X1_rowsAt ⟨Nat.le_of_ble_eq_true rfl, Nat.le_of_ble_eq_true rfl⟩) (wq_ppV hK hP hE hS hA (ci := 1) (q0 := 0) rfl rfl) rfl rfl hl.1 rfl (lv_room (Nat.le_of_ble_eq_true rfl)) dX1_rowsFrom_6 ⟨Nat.zero_le _, Nat.zero_le _⟩) hS hA (fun H locs b6 hk hS => ?_)
  replace hP := wq_kp hP hk
  clear hk
  exact W.iret (v := v5) hx hb hr (fun t ht hW => ⟨⟨v5, (), rfl, ⟨Option.some.inj hG, trivial⟩, trivial⟩, hS.F ht⟩) hS.2.2 dX1_rowsFrom_9

theorem hdV_X6_ways : yX6_ways.cls = RX6 ∧ yX6_ways.cls ≠ "java/lang/invoke/MethodHandle" ∧ yX6_ways.cls ≠ "java/lang/invoke/VarHandle" ∧ (parseMethodDescriptor yX6_ways.desc).map (fun d => d.parameters.length) = some 1 := by decide +kernel
set_option maxHeartbeats 4000000 in
set_option maxRecDepth 100000 in
theorem C_X6_ways (l : Launch) (dC : Nat → ClassId) (dI : Nat → Nat → Nat) (cI cJ cZ : ClassId) (qa : Nat → Nat) (sz : Nat) (r_images : Nat → Int64) (r_asked : Int64) (n_likings : Nat → Int32) (n_day : Int32) (n_trust : Int32) (n_ill : Int32) (n_done : Int32) (o_fewest : Nat → Int32) (o_rows : Nat → Int32) (o_first : Nat → Int32) (o_stands : Int32) (t_tears : Nat → Int32) (t_gains : Nat → Int32) (t_likings : Nat → Int32) (t_settings : Nat → Int32) (t_goodbyes : Int32) (t_women : Int32) (a1 : Int32) (r0 : Int32) (r_o_fewest : Nat → Int32) (r_o_rows : Nat → Int32) (r_o_first : Nat → Int32) (r_o_stands : Int32) (hG : gX6_ways n_likings n_trust o_fewest o_rows o_first o_stands t_tears t_gains t_settings t_goodbyes t_women a1 = some (r0, r_o_fewest, r_o_rows, r_o_first, r_o_stands)) : Met l yX6_ways wsX6_ways ({ frames := 6, cells := 0, slots := 0, locals := 137 } : Room) (va_Pc [.ref (qa 0), .int a1] (wq_pw (dC, dI) [(cI, .int), (cJ, .long), (cZ, .boolean)] (wcRNOT qa cI cJ cZ r_images r_asked n_likings n_day n_trust n_ill n_done o_fewest o_rows o_first o_stands t_tears t_gains t_likings t_settings t_goodbyes t_women) sz)) (wq_Wi (dC, dI) r0 wq_tr (wcRNOT qa cI cJ cZ r_images r_asked n_likings n_day n_trust n_ill n_done r_o_fewest r_o_rows r_o_first r_o_stands t_tears t_gains t_likings t_settings t_goodbyes t_women) (va_A (wcRNOT qa cI cJ cZ r_images r_asked n_likings n_day n_trust n_ill n_done o_fewest o_rows o_first o_stands t_tears t_gains t_likings t_settings t_goodbyes t_women) sz)) 0 0 (va_A (wcRNOT qa cI cJ cZ r_images r_asked n_likings n_day n_trust n_ill n_done o_fewest o_rows o_first o_stands t_tears t_gains t_likings t_settings t_goodbyes t_women) sz) := by
  refine Met.ofW (cc := cX6_ways) (maxL := 2) (ret := (some .int)) (by decide) rfl ?_
  intro p e s m args below meth c s₁ B hml hv
  obtain ⟨rfl, hsz, hP, hK, hD0, hE⟩ := hv
  have hx := B.exec
  have hb := B.bytes
  have hr := B.returns
  have hts := atoms_spec (ws := wsX6_ways) B.pre
  have hown : s.vm.findClass RX6 = some m.cls := findClass_of_methodNamed B.named
  have hlocks := B.notSynchronized
  subst hsz
  have hD := hD0.self (sz := s.heap.size)
  generalize hAe : va_A (wcRNOT qa cI cJ cZ r_images r_asked n_likings n_day n_trust n_ill n_done o_fewest o_rows o_first o_stands t_tears t_gains t_likings t_settings t_goodbyes t_women) s.heap.size = A at hD hE ⊢
  have hA : ∀ q : Nat, s.heap.size ≤ q → A q := fun q h => by rw [← hAe]; exact Or.inr h
  have hS : va_S A s.heap s.heap [] := va_S.rf
  have hinX6 : ∀ w ∈ u_ws RX6 TX6 9, w ∈ wsX6_ways := by decide +kernel
  have hinX0 : ∀ w ∈ u_ws RX0 TX0 5, w ∈ wsX6_ways := by decide +kernel
  have k1 := hts (.fieldLink RX6 53 "DoorMornings" "told" "LDoorMornings$Told;") (by decide +kernel)
  have k2 := hts (.fieldLink RX6 40 "DoorMornings" "outlook" "LDoorMornings$Outlook;") (by decide +kernel)
  have k3 := hts (.fieldLink RX6 19 "DoorMornings" "today" "LDoorMornings$Now;") (by decide +kernel)
  have k4 := hts (.fieldLink RX6 113 "DoorMornings$Now" "trust" "I") (by decide +kernel)
  have hl := lv_entry ([.ref (qa 0), .int a1]) (n := 2) (Nat.le_of_ble_eq_true rfl)
  rw [lg_entry_eq]
  generalize (lg_sl ([.ref (qa 0), .int a1]) ++ List.replicate (2 - (lg_sl ([.ref (qa 0), .int a1])).length) Slot.unset).toArray = ls at hl ⊢
  have hl : lv_has ls 2 [(0, .ref (qa 0)), (1, .int a1)] := hl
  unfold gX6_ways at hG
  refine lv_aload_n hx hb dX6_ways_0 rfl (lv_at hl 0 rfl) ?_
  refine va_get (D := (dC, dI)) (ci := 6) (v := .ref (qa 16)) (C := RX6) (T := TX6) (N := 9) hx hb hts hinX6 hown hK hP 0 rfl rfl 6 (by decide) k1 (fun _ h9 => h9) rfl dX6_ways_1 ?_
  refine lv_iload_n hx hb dX6_ways_4 rfl (lv_at hl 1 rfl) ?_
  obtain ⟨v2, g1, hG⟩ := wq_b1_s hG
  refine wq_ci (v := v2) (B := wq_Z1) (va_runV (As := [.int a1]) (rest := []) ⟨hx, hb, hml, hown, hts⟩ (C_X5_hasWoman l dC dI cI cJ cZ qa s.heap.size t_tears t_gains t_likings t_settings t_goodbyes t_women a1 v2 g1) (cwV 1 hts gX6_ways_X5_hasWoman rfl rfl rfl hdV_X5_hasWoman ⟨Nat.le_of_ble_eq_true rfl, Nat.le_of_ble_eq_true rfl⟩) (wq_ppV hK (hP.sub (ws' := wcT qa cI cJ cZ t_tears t_gains t_likings t_settings t_goodbyes t_women) [8, 9, 10, 11, 12] rfl) hE hS hA (ci := 5) (q0 := 0) rfl rfl) rfl rfl hl.1 rfl (lv_room (Nat.le_of_ble_eq_true rfl)) dX6_ways_5 ⟨Nat.zero_le _, Nat.zero_le _⟩) hS hA (fun H locs b3 hk hS => ?_)
  replace hP := wq_kp hP hk
  clear hk
  refine lv_if_ne (tgt := 13) hx hb dX6_ways_8 (by decide) (fun c4 => ?_) (fun c4 => ?_)
  · replace hG := wq_f c4 hG
    refine lv_aload_n hx hb dX6_ways_13 rfl (lv_at hl 0 rfl) ?_
    obtain ⟨w6, w7, w8, w9, g5, hG⟩ := wq_b4_s hG
    have hFc := va_free (wc := wcROT qa cI cJ cZ r_images r_asked o_fewest o_rows o_first o_stands t_tears t_gains t_likings t_settings t_goodbyes t_women) hD hS hA [0, 1, 4, 5, 6, 7, 8, 9, 10, 11, 12] rfl
    refine wq_dv (D := (dC, dI)) (wr := wcN qa cI cJ cZ n_likings n_day n_trust n_ill n_done) (w1 := wcROT qa cI cJ cZ r_images r_asked w6 w7 w8 w9 t_tears t_gains t_likings t_settings t_goodbyes t_women) (w2 := wcRNOT qa cI cJ cZ r_images r_asked n_likings n_day n_trust n_ill n_done w6 w7 w8 w9 t_tears t_gains t_likings t_settings t_goodbyes t_women) (va_runV (As := []) (rest := []) ⟨hx, hb, hml, hown, hts⟩ (C_X6_lookAhead l dC dI cI cJ cZ qa H.size r_images r_asked o_fewest o_rows o_first o_stands t_tears t_gains t_likings t_settings t_goodbyes t_women  w6 w7 w8 w9 g5) (cwV 0 hts gX6_ways_X6_lookAhead rfl rfl rfl hdV_X6_lookAhead ⟨Nat.le_of_ble_eq_true rfl, Nat.le_of_ble_eq_true rfl⟩) (wq_pwV hK (hP.sub (ws' := wcROT qa cI cJ cZ r_images r_asked o_fewest o_rows o_first o_stands t_tears t_gains t_likings t_settings t_goodbyes t_women) [0, 1, 4, 5, 6, 7, 8, 9, 10, 11, 12] rfl) (hD.sub (ws' := wcROT qa cI cJ cZ r_images r_asked o_fewest o_rows o_first o_stands t_tears t_gains t_likings t_settings t_goodbyes t_women) [0, 1, 4, 5, 6, 7, 8, 9, 10, 11, 12] (by decide) rfl) hE hS hFc (ci := 6) (q0 := 0) rfl rfl) rfl rfl hl.1 rfl (lv_room (Nat.le_of_ble_eq_true rfl)) dX6_ways_14 ⟨Nat.zero_le _, Nat.zero_le _⟩) hP hD hS hFc [0, 1, 4, 5, 6, 7, 8, 9, 10, 11, 12] [2, 3] [2, 3, 0, 1, 4, 5, 6, 7, 8, 9, 10, 11, 12] rfl rfl (by decide) (by decide) (by decide) rfl (fun H locs hP hD hS => ?_)
    clear hFc
    refine lv_aload_n hx hb dX6_ways_17 rfl (lv_at hl 0 rfl) ?_
    refine va_get (D := (dC, dI)) (ci := 6) (v := .ref (qa 11)) (C := RX6) (T := TX6) (N := 9) hx hb hts hinX6 hown hK hP 0 rfl rfl 4 (by decide) k2 (fun _ h9 => h9) rfl dX6_ways_18 ?_
    refine lv_aload_n hx hb dX6_ways_21 rfl (lv_at hl 0 rfl) ?_
    refine va_get (D := (dC, dI)) (ci := 6) (v := .ref (qa 3)) (C := RX6) (T := TX6) (N := 9) hx hb hts hinX6 hown hK hP 0 rfl rfl 1 (by decide) k3 (fun _ h9 => h9) rfl dX6_ways_22 ?_
    refine va_get (D := (dC, dI)) (ci := 0) (v := .int n_trust) (C := RX0) (T := TX0) (N := 5) hx hb hts hinX0 hown hK hP 2 rfl rfl 2 (by decide) k4 (fun _ h9 => h9) rfl dX6_ways_25 ?_
    refine lv_aload_n hx hb dX6_ways_28 rfl (lv_at hl 0 rfl) ?_
    refine va_get (D := (dC, dI)) (ci := 6) (v := .ref (qa 3)) (C := RX6) (T := TX6) (N := 9) hx hb hts hinX6 hown hK hP 0 rfl rfl 1 (by decide) k3 (fun _ h9 => h9) rfl dX6_ways_29 ?_
    refine lv_iload_n hx hb dX6_ways_32 rfl (lv_at hl 1 rfl) ?_
    obtain ⟨v11, g10, hG⟩ := wq_b1_s hG
    refine wq_ci (v := v11) (B := wq_tr) (va_runV (As := [.int a1]) (rest := [.int n_trust, .ref (qa 11)]) ⟨hx, hb, hml, hown, hts⟩ (C_X0_likingOf l dC dI cI cJ cZ qa H.size n_likings n_day n_trust n_ill n_done a1 v11 g10) (cwV 1 hts gX6_ways_X0_likingOf rfl rfl rfl hdV_X0_likingOf ⟨Nat.le_of_ble_eq_true rfl, Nat.le_of_ble_eq_true rfl⟩) (wq_ppV hK (hP.sub (ws' := wcN qa cI cJ cZ n_likings n_day n_trust n_ill n_done) [2, 3] rfl) hE hS hA (ci := 0) (q0 := 0) rfl rfl) rfl rfl hl.1 rfl (lv_room (Nat.le_of_ble_eq_true rfl)) dX6_ways_33 ⟨Nat.zero_le _, Nat.zero_le _⟩) hS hA (fun H locs b12 hk hS => ?_)
    replace hP := wq_kp hP hk
    clear hk
    obtain ⟨v14, g13, hG⟩ := wq_b1_s hG
    refine wq_ci (v := v14) (B := wq_tr) (va_runV (As := [.int n_trust, .int v11]) (rest := []) ⟨hx, hb, hml, hown, hts⟩ (C_X1_rowsFrom l dC dI cI cJ cZ qa H.size w6 w7 w8 w9 n_trust v11 v14 g13) (cwV 2 hts gX6_ways_X1_rowsFrom rfl rfl rfl hdV_X1_rowsFrom ⟨Nat.le_of_ble_eq_true rfl, Nat.le_of_ble_eq_true rfl⟩) (wq_ppV hK (hP.sub (ws' := wcO qa cI cJ cZ w6 w7 w8 w9) [4, 5, 6, 7] rfl) hE hS hA (ci := 1) (q0 := 0) rfl rfl) rfl rfl hl.1 rfl (lv_room (Nat.le_of_ble_eq_true rfl)) dX6_ways_36 ⟨Nat.zero_le _, Nat.zero_le _⟩) hS hA (fun H locs b15 hk hS => ?_)
    replace hP := wq_kp hP hk
    clear hk
    obtain ⟨e0, e1, e2, e3, e4⟩ := wq_j5 hG
    subst e0
    subst e1
    subst e2
    subst e3
    subst e4
    exact W.iret hx hb hr (fun t ht hW => ⟨⟨_, (), rfl, ⟨rfl, trivial⟩, by rw [ht]; exact hP, hD⟩, hS.F ht⟩) hS.2.2 dX6_ways_39
  · replace hG := wq_t c4 hG
    refine lv_iconst (v := (-1)) hx hb dX6_ways_11 (by decide) ?_
    obtain ⟨e0, e1, e2, e3, e4⟩ := wq_j5 hG
    subst e0
    subst e1
    subst e2
    subst e3
    subst e4
    exact W.iret hx hb hr (fun t ht hW => ⟨⟨_, (), rfl, ⟨rfl, trivial⟩, by rw [ht]; exact hP, hD⟩, hS.F ht⟩) hS.2.2 dX6_ways_12

theorem hdV_X6_setback : yX6_setback.cls = RX6 ∧ yX6_setback.cls ≠ "java/lang/invoke/MethodHandle" ∧ yX6_setback.cls ≠ "java/lang/invoke/VarHandle" ∧ (parseMethodDescriptor yX6_setback.desc).map (fun d => d.parameters.length) = some 3 := by decide +kernel
set_option maxHeartbeats 4000000 in
set_option maxRecDepth 100000 in
theorem C_X6_setback (l : Launch) (dC : Nat → ClassId) (dI : Nat → Nat → Nat) (cI cJ cZ : ClassId) (qa : Nat → Nat) (sz : Nat) (r_images : Nat → Int64) (r_asked : Int64) (n_likings : Nat → Int32) (n_day : Int32) (n_trust : Int32) (n_ill : Int32) (n_done : Int32) (o_fewest : Nat → Int32) (o_rows : Nat → Int32) (o_first : Nat → Int32) (o_stands : Int32) (t_tears : Nat → Int32) (t_gains : Nat → Int32) (t_likings : Nat → Int32) (t_settings : Nat → Int32) (t_goodbyes : Int32) (t_women : Int32) (a1 : Int32) (a2 : Int32) (a3 : Int32) (r0 : Int32) (r_o_fewest : Nat → Int32) (r_o_rows : Nat → Int32) (r_o_first : Nat → Int32) (r_o_stands : Int32) (hG : gX6_setback n_likings n_trust o_fewest o_rows o_first o_stands t_tears t_gains t_settings t_goodbyes t_women a1 a2 a3 = some (r0, r_o_fewest, r_o_rows, r_o_first, r_o_stands)) : Met l yX6_setback wsX6_setback ({ frames := 6, cells := 0, slots := 0, locals := 137 } : Room) (va_Pc [.ref (qa 0), .int a1, .int a2, .int a3] (wq_pw (dC, dI) [(cI, .int), (cJ, .long), (cZ, .boolean)] (wcRNOT qa cI cJ cZ r_images r_asked n_likings n_day n_trust n_ill n_done o_fewest o_rows o_first o_stands t_tears t_gains t_likings t_settings t_goodbyes t_women) sz)) (wq_Wi (dC, dI) r0 wq_tr (wcRNOT qa cI cJ cZ r_images r_asked n_likings n_day n_trust n_ill n_done r_o_fewest r_o_rows r_o_first r_o_stands t_tears t_gains t_likings t_settings t_goodbyes t_women) (va_A (wcRNOT qa cI cJ cZ r_images r_asked n_likings n_day n_trust n_ill n_done o_fewest o_rows o_first o_stands t_tears t_gains t_likings t_settings t_goodbyes t_women) sz)) 0 0 (va_A (wcRNOT qa cI cJ cZ r_images r_asked n_likings n_day n_trust n_ill n_done o_fewest o_rows o_first o_stands t_tears t_gains t_likings t_settings t_goodbyes t_women) sz) := by
  refine Met.ofW (cc := cX6_setback) (maxL := 8) (ret := (some .int)) (by decide) rfl ?_
  intro p e s m args below meth c s₁ B hml hv
  obtain ⟨rfl, hsz, hP, hK, hD0, hE⟩ := hv
  have hx := B.exec
  have hb := B.bytes
  have hr := B.returns
  have hts := atoms_spec (ws := wsX6_setback) B.pre
  have hown : s.vm.findClass RX6 = some m.cls := findClass_of_methodNamed B.named
  have hlocks := B.notSynchronized
  subst hsz
  have hD := hD0.self (sz := s.heap.size)
  generalize hAe : va_A (wcRNOT qa cI cJ cZ r_images r_asked n_likings n_day n_trust n_ill n_done o_fewest o_rows o_first o_stands t_tears t_gains t_likings t_settings t_goodbyes t_women) s.heap.size = A at hD hE ⊢
  have hA : ∀ q : Nat, s.heap.size ≤ q → A q := fun q h => by rw [← hAe]; exact Or.inr h
  have hS : va_S A s.heap s.heap [] := va_S.rf
  have hinX6 : ∀ w ∈ u_ws RX6 TX6 9, w ∈ wsX6_setback := by decide +kernel
  have hinX0 : ∀ w ∈ u_ws RX0 TX0 5, w ∈ wsX6_setback := by decide +kernel
  have k1 := hts (.fieldLink RX6 19 "DoorMornings" "today" "LDoorMornings$Now;") (by decide +kernel)
  have k2 := hts (.fieldLink RX6 40 "DoorMornings" "outlook" "LDoorMornings$Outlook;") (by decide +kernel)
  have k3 := hts (.fieldLink RX6 113 "DoorMornings$Now" "trust" "I") (by decide +kernel)
  have k4 := hts (.fieldLink RX6 53 "DoorMornings" "told" "LDoorMornings$Told;") (by decide +kernel)
  have k5 := hts (.constant RX6 192 (-1000000)) (by decide +kernel)
  have hl := lv_entry ([.ref (qa 0), .int a1, .int a2, .int a3]) (n := 8) (Nat.le_of_ble_eq_true rfl)
  rw [lg_entry_eq]
  generalize (lg_sl ([.ref (qa 0), .int a1, .int a2, .int a3]) ++ List.replicate (8 - (lg_sl ([.ref (qa 0), .int a1, .int a2, .int a3])).length) Slot.unset).toArray = ls at hl ⊢
  have hl : lv_has ls 8 [(0, .ref (qa 0)), (1, .int a1), (2, .int a2), (3, .int a3)] := hl
  unfold gX6_setback at hG
  refine lv_aload_n hx hb dX6_setback_0 rfl (lv_at hl 0 rfl) ?_
  refine lv_iload_n hx hb dX6_setback_1 rfl (lv_at hl 1 rfl) ?_
  refine lv_iload_n hx hb dX6_setback_2 rfl (lv_at hl 2 rfl) ?_
  refine lv_iload_n hx hb dX6_setback_3 rfl (lv_at hl 3 rfl) ?_
  obtain ⟨v2, g1, hG⟩ := wq_b1_s hG
  refine wq_ci (v := v2) (B := wq_Z1) (va_runV (As := [.int a1, .int a2, .int a3]) (rest := []) ⟨hx, hb, hml, hown, hts⟩ (C_X6_isMorning l dC dI cI cJ cZ qa s.heap.size r_images r_asked t_tears t_gains t_likings t_settings t_goodbyes t_women a1 a2 a3 v2 g1) (cwV 3 hts gX6_setback_X6_isMorning rfl rfl rfl hdV_X6_isMorning ⟨Nat.le_of_ble_eq_true rfl, Nat.le_of_ble_eq_true rfl⟩) (wq_ppV hK (hP.sub (ws' := wcRT qa cI cJ cZ r_images r_asked t_tears t_gains t_likings t_settings t_goodbyes t_women) [0, 1, 8, 9, 10, 11, 12] rfl) hE hS hA (ci := 6) (q0 := 0) rfl rfl) rfl rfl hl.1 rfl (lv_room (Nat.le_of_ble_eq_true rfl)) dX6_setback_4 ⟨Nat.zero_le _, Nat.zero_le _⟩) hS hA (fun H locs b3 hk hS => ?_)
  replace hP := wq_kp hP hk
  clear hk
  refine lv_if_ne (tgt := 13) hx hb dX6_setback_7 (by decide) (fun c4 => ?_) (fun c4 => ?_)
  · replace hG := wq_f c4 hG
    refine lv_aload_n hx hb dX6_setback_13 rfl (lv_at hl 0 rfl) ?_
    obtain ⟨w6, w7, w8, w9, g5, hG⟩ := wq_b4_s hG
    have hFc := va_free (wc := wcROT qa cI cJ cZ r_images r_asked o_fewest o_rows o_first o_stands t_tears t_gains t_likings t_settings t_goodbyes t_women) hD hS hA [0, 1, 4, 5, 6, 7, 8, 9, 10, 11, 12] rfl
    refine wq_dv (D := (dC, dI)) (wr := wcN qa cI cJ cZ n_likings n_day n_trust n_ill n_done) (w1 := wcROT qa cI cJ cZ r_images r_asked w6 w7 w8 w9 t_tears t_gains t_likings t_settings t_goodbyes t_women) (w2 := wcRNOT qa cI cJ cZ r_images r_asked n_likings n_day n_trust n_ill n_done w6 w7 w8 w9 t_tears t_gains t_likings t_settings t_goodbyes t_women) (va_runV (As := []) (rest := []) ⟨hx, hb, hml, hown, hts⟩ (C_X6_lookAhead l dC dI cI cJ cZ qa H.size r_images r_asked o_fewest o_rows o_first o_stands t_tears t_gains t_likings t_settings t_goodbyes t_women  w6 w7 w8 w9 g5) (cwV 0 hts gX6_setback_X6_lookAhead rfl rfl rfl hdV_X6_lookAhead ⟨Nat.le_of_ble_eq_true rfl, Nat.le_of_ble_eq_true rfl⟩) (wq_pwV hK (hP.sub (ws' := wcROT qa cI cJ cZ r_images r_asked o_fewest o_rows o_first o_stands t_tears t_gains t_likings t_settings t_goodbyes t_women) [0, 1, 4, 5, 6, 7, 8, 9, 10, 11, 12] rfl) (hD.sub (ws' := wcROT qa cI cJ cZ r_images r_asked o_fewest o_rows o_first o_stands t_tears t_gains t_likings t_settings t_goodbyes t_women) [0, 1, 4, 5, 6, 7, 8, 9, 10, 11, 12] (by decide) rfl) hE hS hFc (ci := 6) (q0 := 0) rfl rfl) rfl rfl hl.1 rfl (lv_room (Nat.le_of_ble_eq_true rfl)) dX6_setback_14 ⟨Nat.zero_le _, Nat.zero_le _⟩) hP hD hS hFc [0, 1, 4, 5, 6, 7, 8, 9, 10, 11, 12] [2, 3] [2, 3, 0, 1, 4, 5, 6, 7, 8, 9, 10, 11, 12] rfl rfl (by decide) (by decide) (by decide) rfl (fun H locs hP hD hS => ?_)
    clear hFc
    refine lv_aload_n hx hb dX6_setback_17 rfl (lv_at hl 0 rfl) ?_
    refine va_get (D := (dC, dI)) (ci := 6) (v := .ref (qa 3)) (C := RX6) (T := TX6) (N := 9) hx hb hts hinX6 hown hK hP 0 rfl rfl 1 (by decide) k1 (fun _ h9 => h9) rfl dX6_setback_18 ?_
    refine lv_iload_n hx hb dX6_setback_21 rfl (lv_at hl 3 rfl) ?_
    obtain ⟨v11, g10, hG⟩ := wq_b1_s hG
    refine wq_ci (v := v11) (B := wq_tr) (va_runV (As := [.int a3]) (rest := []) ⟨hx, hb, hml, hown, hts⟩ (C_X0_likingOf l dC dI cI cJ cZ qa H.size n_likings n_day n_trust n_ill n_done a3 v11 g10) (cwV 1 hts gX6_setback_X0_likingOf rfl rfl rfl hdV_X0_likingOf ⟨Nat.le_of_ble_eq_true rfl, Nat.le_of_ble_eq_true rfl⟩) (wq_ppV hK (hP.sub (ws' := wcN qa cI cJ cZ n_likings n_day n_trust n_ill n_done) [2, 3] rfl) hE hS hA (ci := 0) (q0 := 0) rfl rfl) rfl rfl hl.1 rfl (lv_room (Nat.le_of_ble_eq_true rfl)) dX6_setback_22 ⟨Nat.zero_le _, Nat.zero_le _⟩) hS hA (fun H locs b12 hk hS => ?_)
    replace hP := wq_kp hP hk
    clear hk
    refine lv_istore (lv' := [(4, .int v11), (0, .ref (qa 0)), (1, .int a1), (2, .int a2), (3, .int a3)]) hx hb dX6_setback_25 hl (by decide) rfl (fun ls hl => ?_)
    refine lv_aload_n hx hb dX6_setback_27 rfl (lv_at hl 1 rfl) ?_
    refine lv_iload_n hx hb dX6_setback_28 rfl (lv_at hl 2 rfl) ?_
    refine lv_iload_n hx hb dX6_setback_29 rfl (lv_at hl 3 rfl) ?_
    refine lv_iload_n hx hb dX6_setback_30 rfl (lv_at hl 4 rfl) ?_
    obtain ⟨v14, g13, hG⟩ := wq_b1_s hG
    refine wq_ci (v := v14) (B := wq_tr) (va_runV (As := [.int a1, .int a2, .int a3]) (rest := []) ⟨hx, hb, hml, hown, hts⟩ (C_X6_minutesNow l dC dI cI cJ cZ qa H.size r_images r_asked n_likings n_day n_trust n_ill n_done t_tears t_gains t_likings t_settings t_goodbyes t_women a1 a2 a3 v14 g13) (cwV 3 hts gX6_setback_X6_minutesNow rfl rfl rfl hdV_X6_minutesNow ⟨Nat.le_of_ble_eq_true rfl, Nat.le_of_ble_eq_true rfl⟩) (wq_ppV hK (hP.sub (ws' := wcRNT qa cI cJ cZ r_images r_asked n_likings n_day n_trust n_ill n_done t_tears t_gains t_likings t_settings t_goodbyes t_women) [0, 1, 2, 3, 8, 9, 10, 11, 12] rfl) hE hS hA (ci := 6) (q0 := 0) rfl rfl) rfl rfl hl.1 rfl (lv_room (Nat.le_of_ble_eq_true rfl)) dX6_setback_31 ⟨Nat.zero_le _, Nat.zero_le _⟩) hS hA (fun H locs b15 hk hS => ?_)
    replace hP := wq_kp hP hk
    clear hk
    refine lv_istore (lv' := [(5, .int v14), (4, .int v11), (0, .ref (qa 0)), (1, .int a1), (2, .int a2), (3, .int a3)]) hx hb dX6_setback_34 hl (by decide) rfl (fun ls hl => ?_)
    refine lv_aload_n hx hb dX6_setback_36 rfl (lv_at hl 2 rfl) ?_
    refine va_get (D := (dC, dI)) (ci := 6) (v := .ref (qa 11)) (C := RX6) (T := TX6) (N := 9) hx hb hts hinX6 hown hK hP 0 rfl rfl 4 (by decide) k2 (fun _ h9 => h9) rfl dX6_setback_37 ?_
    refine lv_aload_n hx hb dX6_setback_40 rfl (lv_at hl 2 rfl) ?_
    refine va_get (D := (dC, dI)) (ci := 6) (v := .ref (qa 3)) (C := RX6) (T := TX6) (N := 9) hx hb hts hinX6 hown hK hP 0 rfl rfl 1 (by decide) k1 (fun _ h9 => h9) rfl dX6_setback_41 ?_
    refine va_get (D := (dC, dI)) (ci := 0) (v := .int n_trust) (C := RX0) (T := TX0) (N := 5) hx hb hts hinX0 hown hK hP 2 rfl rfl 2 (by decide) k3 (fun _ h9 => h9) rfl dX6_setback_44 ?_
    refine lv_iload hx hb dX6_setback_47 (lv_at hl 1 rfl) ?_
    obtain ⟨v17, g16, hG⟩ := wq_b1_s hG
    refine wq_ci (v := v17) (B := wq_tr) (va_runV (As := [.int n_trust, .int v11]) (rest := []) ⟨hx, hb, hml, hown, hts⟩ (C_X1_fewestFrom l dC dI cI cJ cZ qa H.size w6 w7 w8 w9 n_trust v11 v17 g16) (cwV 2 hts gX6_setback_X1_fewestFrom rfl rfl rfl hdV_X1_fewestFrom ⟨Nat.le_of_ble_eq_true rfl, Nat.le_of_ble_eq_true rfl⟩) (wq_ppV hK (hP.sub (ws' := wcO qa cI cJ cZ w6 w7 w8 w9) [4, 5, 6, 7] rfl) hE hS hA (ci := 1) (q0 := 0) rfl rfl) rfl rfl hl.1 rfl (lv_room (Nat.le_of_ble_eq_true rfl)) dX6_setback_49 ⟨Nat.zero_le _, Nat.zero_le _⟩) hS hA (fun H locs b18 hk hS => ?_)
    replace hP := wq_kp hP hk
    clear hk
    refine lv_istore (lv' := [(6, .int v17), (5, .int v14), (4, .int v11), (0, .ref (qa 0)), (1, .int a1), (2, .int a2), (3, .int a3)]) hx hb dX6_setback_52 hl (by decide) rfl (fun ls hl => ?_)
    refine lv_aload_n hx hb dX6_setback_54 rfl (lv_at hl 3 rfl) ?_
    refine va_get (D := (dC, dI)) (ci := 6) (v := .ref (qa 11)) (C := RX6) (T := TX6) (N := 9) hx hb hts hinX6 hown hK hP 0 rfl rfl 4 (by decide) k2 (fun _ h9 => h9) rfl dX6_setback_55 ?_
    refine lv_aload_n hx hb dX6_setback_58 rfl (lv_at hl 3 rfl) ?_
    refine va_get (D := (dC, dI)) (ci := 6) (v := .ref (qa 16)) (C := RX6) (T := TX6) (N := 9) hx hb hts hinX6 hown hK hP 0 rfl rfl 6 (by decide) k4 (fun _ h9 => h9) rfl dX6_setback_59 ?_
    refine lv_iload_n hx hb dX6_setback_62 rfl (lv_at hl 4 rfl) ?_
    refine lv_aload_n hx hb dX6_setback_63 rfl (lv_at hl 3 rfl) ?_
    refine va_get (D := (dC, dI)) (ci := 6) (v := .ref (qa 3)) (C := RX6) (T := TX6) (N := 9) hx hb hts hinX6 hown hK hP 0 rfl rfl 1 (by decide) k1 (fun _ h9 => h9) rfl dX6_setback_64 ?_
    refine va_get (D := (dC, dI)) (ci := 0) (v := .int n_trust) (C := RX0) (T := TX0) (N := 5) hx hb hts hinX0 hown hK hP 2 rfl rfl 2 (by decide) k3 (fun _ h9 => h9) rfl dX6_setback_67 ?_
    refine lv_iload hx hb dX6_setback_70 (lv_at hl 1 rfl) ?_
    obtain ⟨v20, g19, hG⟩ := wq_b1_s hG
    refine wq_ci (v := v20) (B := wq_tr) (va_runV (As := [.int a1, .int n_trust, .int v14]) (rest := [.ref (qa 11)]) ⟨hx, hb, hml, hown, hts⟩ (C_X5_trustAfter l dC dI cI cJ cZ qa H.size t_tears t_gains t_likings t_settings t_goodbyes t_women a1 n_trust v14 v20 g19) (cwV 3 hts gX6_setback_X5_trustAfter rfl rfl rfl hdV_X5_trustAfter ⟨Nat.le_of_ble_eq_true rfl, Nat.le_of_ble_eq_true rfl⟩) (wq_ppV hK (hP.sub (ws' := wcT qa cI cJ cZ t_tears t_gains t_likings t_settings t_goodbyes t_women) [8, 9, 10, 11, 12] rfl) hE hS hA (ci := 5) (q0 := 0) rfl rfl) rfl rfl hl.1 rfl (lv_room (Nat.le_of_ble_eq_true rfl)) dX6_setback_72 ⟨Nat.zero_le _, Nat.zero_le _⟩) hS hA (fun H locs b21 hk hS => ?_)
    replace hP := wq_kp hP hk
    clear hk
    refine lv_aload_n hx hb dX6_setback_75 rfl (lv_at hl 3 rfl) ?_
    refine va_get (D := (dC, dI)) (ci := 6) (v := .ref (qa 16)) (C := RX6) (T := TX6) (N := 9) hx hb hts hinX6 hown hK hP 0 rfl rfl 6 (by decide) k4 (fun _ h9 => h9) rfl dX6_setback_76 ?_
    refine lv_iload hx hb dX6_setback_79 (lv_at hl 2 rfl) ?_
    refine lv_iload hx hb dX6_setback_81 (lv_at hl 1 rfl) ?_
    obtain ⟨v23, g22, hG⟩ := wq_b1_s hG
    refine wq_ci (v := v23) (B := wq_tr) (va_runV (As := [.int v11, .int v14]) (rest := [.int v20, .ref (qa 11)]) ⟨hx, hb, hml, hown, hts⟩ (C_X5_likingAfter l dC dI cI cJ cZ qa H.size t_tears t_gains t_likings t_settings t_goodbyes t_women v11 v14 v23 g22) (cwV 2 hts gX6_setback_X5_likingAfter rfl rfl rfl hdV_X5_likingAfter ⟨Nat.le_of_ble_eq_true rfl, Nat.le_of_ble_eq_true rfl⟩) (wq_ppV hK (hP.sub (ws' := wcT qa cI cJ cZ t_tears t_gains t_likings t_settings t_goodbyes t_women) [8, 9, 10, 11, 12] rfl) hE hS hA (ci := 5) (q0 := 0) rfl rfl) rfl rfl hl.1 rfl (lv_room (Nat.le_of_ble_eq_true rfl)) dX6_setback_83 ⟨Nat.zero_le _, Nat.zero_le _⟩) hS hA (fun H locs b24 hk hS => ?_)
    replace hP := wq_kp hP hk
    clear hk
    obtain ⟨v26, g25, hG⟩ := wq_b1_s hG
    refine wq_ci (v := v26) (B := wq_tr) (va_runV (As := [.int v20, .int v23]) (rest := []) ⟨hx, hb, hml, hown, hts⟩ (C_X1_fewestFrom l dC dI cI cJ cZ qa H.size w6 w7 w8 w9 v20 v23 v26 g25) (cwV 2 hts gX6_setback_X1_fewestFrom rfl rfl rfl hdV_X1_fewestFrom ⟨Nat.le_of_ble_eq_true rfl, Nat.le_of_ble_eq_true rfl⟩) (wq_ppV hK (hP.sub (ws' := wcO qa cI cJ cZ w6 w7 w8 w9) [4, 5, 6, 7] rfl) hE hS hA (ci := 1) (q0 := 0) rfl rfl) rfl rfl hl.1 rfl (lv_room (Nat.le_of_ble_eq_true rfl)) dX6_setback_86 ⟨Nat.zero_le _, Nat.zero_le _⟩) hS hA (fun H locs b27 hk hS => ?_)
    replace hP := wq_kp hP hk
    clear hk
    refine lv_istore (lv' := [(7, .int v26), (6, .int v17), (5, .int v14), (4, .int v11), (0, .ref (qa 0)), (1, .int a1), (2, .int a2), (3, .int a3)]) hx hb dX6_setback_89 hl (by decide) rfl (fun ls hl => ?_)
    refine lv_iload hx hb dX6_setback_91 (lv_at hl 1 rfl) ?_
    refine lv_iconst (v := 1) hx hb dX6_setback_93 (by decide) ?_
    refine lv_icmp_lt (tgt := 103) hx hb dX6_setback_94 (by decide) (fun c28 => ?_) (fun c28 => ?_)
    · replace hG := wq_t c28 hG
      refine lv_ldc (v := (-1000000)) hx hb hown k5 dX6_setback_103 ?_
      obtain ⟨e0, e1, e2, e3, e4⟩ := wq_j5 hG
      subst e0
      subst e1
      subst e2
      subst e3
      subst e4
      exact W.iret hx hb hr (fun t ht hW => ⟨⟨_, (), rfl, ⟨rfl, trivial⟩, by rw [ht]; exact hP, hD⟩, hS.F ht⟩) hS.2.2 dX6_setback_105
    · replace hG := wq_f c28 hG
      refine lv_iload hx hb dX6_setback_97 (lv_at hl 0 rfl) ?_
      refine lv_iconst (v := 1) hx hb dX6_setback_99 (by decide) ?_
      refine lv_icmp_ge (tgt := 106) hx hb dX6_setback_100 (by decide) (fun c29 => ?_) (fun c29 => ?_)
      · replace hG := wq_t c29 hG
        refine lv_iload hx hb dX6_setback_106 (lv_at hl 0 rfl) ?_
        refine lv_iload hx hb dX6_setback_108 (lv_at hl 1 rfl) ?_
        refine lv_isub hx hb dX6_setback_110 ?_
        obtain ⟨e0, e1, e2, e3, e4⟩ := wq_j5 hG
        subst e0
        subst e1
        subst e2
        subst e3
        subst e4
        exact W.iret hx hb hr (fun t ht hW => ⟨⟨_, (), rfl, ⟨rfl, trivial⟩, by rw [ht]; exact hP, hD⟩, hS.F ht⟩) hS.2.2 dX6_setback_111
      · replace hG := wq_f c29 hG
        refine lv_ldc (v := (-1000000)) hx hb hown k5 dX6_setback_103 ?_
        obtain ⟨e0, e1, e2, e3, e4⟩ := wq_j5 hG
        subst e0
        subst e1
        subst e2
        subst e3
        subst e4
        exact W.iret hx hb hr (fun t ht hW => ⟨⟨_, (), rfl, ⟨rfl, trivial⟩, by rw [ht]; exact hP, hD⟩, hS.F ht⟩) hS.2.2 dX6_setback_105
  · replace hG := wq_t c4 hG
    refine lv_ldc (v := (-1000000)) hx hb hown k5 dX6_setback_10 ?_
    obtain ⟨e0, e1, e2, e3, e4⟩ := wq_j5 hG
    subst e0
    subst e1
    subst e2
    subst e3
    subst e4
    exact W.iret hx hb hr (fun t ht hW => ⟨⟨_, (), rfl, ⟨rfl, trivial⟩, by rw [ht]; exact hP, hD⟩, hS.F ht⟩) hS.2.2 dX6_setback_12

theorem hdV_X5_calmTenths : yX5_calmTenths.cls = RX5 ∧ yX5_calmTenths.cls ≠ "java/lang/invoke/MethodHandle" ∧ yX5_calmTenths.cls ≠ "java/lang/invoke/VarHandle" ∧ (parseMethodDescriptor yX5_calmTenths.desc).map (fun d => d.parameters.length) = some 3 := by decide +kernel
set_option maxHeartbeats 4000000 in
set_option maxRecDepth 100000 in
theorem C_X5_calmTenths (l : Launch) (dC : Nat → ClassId) (dI : Nat → Nat → Nat) (cI cJ cZ : ClassId) (qa : Nat → Nat) (sz : Nat) (t_tears : Nat → Int32) (t_gains : Nat → Int32) (t_likings : Nat → Int32) (t_settings : Nat → Int32) (t_goodbyes : Int32) (t_women : Int32) (a1 : Int32) (a2 : Int32) (a3 : Int32) (r0 : Int32) (hG : gX5_calmTenths t_settings a1 a2 a3 = some r0) : Met l yX5_calmTenths wsX5_calmTenths ({ frames := 2, cells := 0, slots := 0, locals := 42 } : Room) (va_Pc [.ref (qa 16), .int a1, .int a2, .int a3] (wq_pp (dC, dI) [(cI, .int), (cJ, .long), (cZ, .boolean)] (wcT qa cI cJ cZ t_tears t_gains t_likings t_settings t_goodbyes t_women) sz)) (wq_Qi r0 wq_tr (va_A [] sz)) 0 0 (va_A [] sz) := by
  refine Met.ofW (cc := cX5_calmTenths) (maxL := 6) (ret := (some .int)) (by decide) rfl ?_
  intro p e s m args below meth c s₁ B hml hv
  obtain ⟨rfl, hsz, hP, hK, hE⟩ := hv
  have hx := B.exec
  have hb := B.bytes
  have hr := B.returns
  have hts := atoms_spec (ws := wsX5_calmTenths) B.pre
  have hown : s.vm.findClass RX5 = some m.cls := findClass_of_methodNamed B.named
  have hlocks := B.notSynchronized
  subst hsz
  generalize hAe : va_A [] s.heap.size = A at hE ⊢
  have hA : ∀ q : Nat, s.heap.size ≤ q → A q := fun q h => by rw [← hAe]; exact Or.inr h
  have hS : va_S A s.heap s.heap [] := va_S.rf
  have k1 := hts (.methodLink RX5 80 Lib.Math.min.name) (by decide +kernel)
  have k2 := hts (.static Lib.Math.min.name) (by decide +kernel)
  have k3 := hts (.initialized "java/lang/Math") (by decide +kernel)
  have k4 := hts (.code Lib.Math.min.name Lib.Math.min.code 2 (some .int)) (by decide +kernel)
  have hl := lv_entry ([.ref (qa 16), .int a1, .int a2, .int a3]) (n := 6) (Nat.le_of_ble_eq_true rfl)
  rw [lg_entry_eq]
  generalize (lg_sl ([.ref (qa 16), .int a1, .int a2, .int a3]) ++ List.replicate (6 - (lg_sl ([.ref (qa 16), .int a1, .int a2, .int a3])).length) Slot.unset).toArray = ls at hl ⊢
  have hl : lv_has ls 6 [(0, .ref (qa 16)), (1, .int a1), (2, .int a2), (3, .int a3)] := hl
  unfold gX5_calmTenths at hG
  refine lv_aload_n hx hb dX5_calmTenths_0 rfl (lv_at hl 0 rfl) ?_
  refine lv_iload_n hx hb dX5_calmTenths_1 rfl (lv_at hl 1 rfl) ?_
  obtain ⟨v2, g1, hG⟩ := wq_b1_s hG
  refine wq_ci (v := v2) (B := wq_Z1) (va_runV (As := [.int a1]) (rest := []) ⟨hx, hb, hml, hown, hts⟩ (C_X5_isCalm l dC dI cI cJ cZ qa s.heap.size t_tears t_gains t_likings t_settings t_goodbyes t_women a1 v2 g1) (cwV 1 hts gX5_calmTenths_X5_isCalm rfl rfl rfl hdV_X5_isCalm ⟨Nat.le_of_ble_eq_true rfl, Nat.le_of_ble_eq_true rfl⟩) (wq_ppV hK hP hE hS hA (ci := 5) (q0 := 0) rfl rfl) rfl rfl hl.1 rfl (lv_room (Nat.le_of_ble_eq_true rfl)) dX5_calmTenths_2 ⟨Nat.zero_le _, Nat.zero_le _⟩) hS hA (fun H locs b3 hk hS => ?_)
  replace hP := wq_kp hP hk
  clear hk
  refine lv_if_eq (tgt := 15) hx hb dX5_calmTenths_5 (by decide) (fun c4 => ?_) (fun c4 => ?_)
  · replace hG := wq_t c4 hG
    refine lv_iconst (v := 0) hx hb dX5_calmTenths_15 (by decide) ?_
    refine lv_istore (lv' := [(4, .int 0), (0, .ref (qa 16)), (1, .int a1), (2, .int a2), (3, .int a3)]) hx hb dX5_calmTenths_16 hl (by decide) rfl (fun ls hl => ?_)
    refine lv_aload_n hx hb dX5_calmTenths_18 rfl (lv_at hl 1 rfl) ?_
    refine lv_bipush (v := 60) hx hb dX5_calmTenths_19 (by decide) ?_
    refine lv_iload_n hx hb dX5_calmTenths_21 rfl (lv_at hl 2 rfl) ?_
    refine lv_iload_n hx hb dX5_calmTenths_22 rfl (lv_at hl 4 rfl) ?_
    refine lv_iadd hx hb dX5_calmTenths_23 ?_
    refine va_mmin (x := 60) (y := (a1 + a3)) hx hb (hml.trans hl.1.symm) hown k1 k2 k3 k4 (Nat.le_of_ble_eq_true rfl) (Nat.le_of_ble_eq_true rfl) (Nat.zero_le _) (Nat.zero_le _) dX5_calmTenths_24 ?_
    obtain ⟨v6, g5, hG⟩ := wq_b1_s hG
    refine wq_ci (v := v6) (B := wq_Z1) (va_runV (As := [.int (if (a1 + a3) < 60 then (a1 + a3) else 60)]) (rest := []) ⟨hx, hb, hml, hown, hts⟩ (C_X5_isCalm l dC dI cI cJ cZ qa H.size t_tears t_gains t_likings t_settings t_goodbyes t_women (if (a1 + a3) < 60 then (a1 + a3) else 60) v6 g5) (cwV 1 hts gX5_calmTenths_X5_isCalm rfl rfl rfl hdV_X5_isCalm ⟨Nat.le_of_ble_eq_true rfl, Nat.le_of_ble_eq_true rfl⟩) (wq_ppV hK hP hE hS hA (ci := 5) (q0 := 0) rfl rfl) rfl rfl hl.1 rfl (lv_room (Nat.le_of_ble_eq_true rfl)) dX5_calmTenths_27 ⟨Nat.zero_le _, Nat.zero_le _⟩) hS hA (fun H locs b7 hk hS => ?_)
    replace hP := wq_kp hP hk
    clear hk
    refine lv_if_eq (tgt := 37) hx hb dX5_calmTenths_30 (by decide) (fun c8 => ?_) (fun c8 => ?_)
    · replace hG := wq_t c8 hG
      refine lv_iconst (v := 0) hx hb dX5_calmTenths_37 (by decide) ?_
      refine lv_istore (lv' := [(5, .int 0), (4, .int 0), (0, .ref (qa 16)), (1, .int a1), (2, .int a2), (3, .int a3)]) hx hb dX5_calmTenths_38 hl (by decide) rfl (fun ls hl => ?_)
      refine lv_iload hx hb dX5_calmTenths_40 (lv_at hl 1 rfl) ?_
      refine lv_iload hx hb dX5_calmTenths_42 (lv_at hl 0 rfl) ?_
      refine lv_iadd hx hb dX5_calmTenths_44 ?_
      exact W.iret (v := (0 + 0)) hx hb hr (fun t ht hW => ⟨⟨(0 + 0), (), rfl, ⟨Option.some.inj hG, trivial⟩, trivial⟩, hS.F ht⟩) hS.2.2 dX5_calmTenths_45
    · replace hG := wq_f c8 hG
      refine lv_iload_n hx hb dX5_calmTenths_33 rfl (lv_at hl 3 rfl) ?_
      refine lv_goto (tgt := 38) hx hb dX5_calmTenths_34 (by decide) ?_
      refine lv_istore (lv' := [(5, .int a2), (4, .int 0), (0, .ref (qa 16)), (1, .int a1), (2, .int a2), (3, .int a3)]) hx hb dX5_calmTenths_38 hl (by decide) rfl (fun ls hl => ?_)
      refine lv_iload hx hb dX5_calmTenths_40 (lv_at hl 1 rfl) ?_
      refine lv_iload hx hb dX5_calmTenths_42 (lv_at hl 0 rfl) ?_
      refine lv_iadd hx hb dX5_calmTenths_44 ?_
      exact W.iret (v := (0 + a2)) hx hb hr (fun t ht hW => ⟨⟨(0 + a2), (), rfl, ⟨Option.some.inj hG, trivial⟩, trivial⟩, hS.F ht⟩) hS.2.2 dX5_calmTenths_45
  · replace hG := wq_f c4 hG
    refine lv_bipush (v := 10) hx hb dX5_calmTenths_8 (by decide) ?_
    refine lv_iload_n hx hb dX5_calmTenths_10 rfl (lv_at hl 2 rfl) ?_
    refine lv_isub hx hb dX5_calmTenths_11 ?_
    refine lv_goto (tgt := 16) hx hb dX5_calmTenths_12 (by decide) ?_
    refine lv_istore (lv' := [(4, .int (10 - a2)), (0, .ref (qa 16)), (1, .int a1), (2, .int a2), (3, .int a3)]) hx hb dX5_calmTenths_16 hl (by decide) rfl (fun ls hl => ?_)
    refine lv_aload_n hx hb dX5_calmTenths_18 rfl (lv_at hl 1 rfl) ?_
    refine lv_bipush (v := 60) hx hb dX5_calmTenths_19 (by decide) ?_
    refine lv_iload_n hx hb dX5_calmTenths_21 rfl (lv_at hl 2 rfl) ?_
    refine lv_iload_n hx hb dX5_calmTenths_22 rfl (lv_at hl 4 rfl) ?_
    refine lv_iadd hx hb dX5_calmTenths_23 ?_
    refine va_mmin (x := 60) (y := (a1 + a3)) hx hb (hml.trans hl.1.symm) hown k1 k2 k3 k4 (Nat.le_of_ble_eq_true rfl) (Nat.le_of_ble_eq_true rfl) (Nat.zero_le _) (Nat.zero_le _) dX5_calmTenths_24 ?_
    obtain ⟨v10, g9, hG⟩ := wq_b1_s hG
    refine wq_ci (v := v10) (B := wq_Z1) (va_runV (As := [.int (if (a1 + a3) < 60 then (a1 + a3) else 60)]) (rest := []) ⟨hx, hb, hml, hown, hts⟩ (C_X5_isCalm l dC dI cI cJ cZ qa H.size t_tears t_gains t_likings t_settings t_goodbyes t_women (if (a1 + a3) < 60 then (a1 + a3) else 60) v10 g9) (cwV 1 hts gX5_calmTenths_X5_isCalm rfl rfl rfl hdV_X5_isCalm ⟨Nat.le_of_ble_eq_true rfl, Nat.le_of_ble_eq_true rfl⟩) (wq_ppV hK hP hE hS hA (ci := 5) (q0 := 0) rfl rfl) rfl rfl hl.1 rfl (lv_room (Nat.le_of_ble_eq_true rfl)) dX5_calmTenths_27 ⟨Nat.zero_le _, Nat.zero_le _⟩) hS hA (fun H locs b11 hk hS => ?_)
    replace hP := wq_kp hP hk
    clear hk
    refine lv_if_eq (tgt := 37) hx hb dX5_calmTenths_30 (by decide) (fun c12 => ?_) (fun c12 => ?_)
    · replace hG := wq_t c12 hG
      refine lv_iconst (v := 0) hx hb dX5_calmTenths_37 (by decide) ?_
      refine lv_istore (lv' := [(5, .int 0), (4, .int (10 - a2)), (0, .ref (qa 16)), (1, .int a1), (2, .int a2), (3, .int a3)]) hx hb dX5_calmTenths_38 hl (by decide) rfl (fun ls hl => ?_)
      refine lv_iload hx hb dX5_calmTenths_40 (lv_at hl 1 rfl) ?_
      refine lv_iload hx hb dX5_calmTenths_42 (lv_at hl 0 rfl) ?_
      refine lv_iadd hx hb dX5_calmTenths_44 ?_
      exact W.iret (v := ((10 - a2) + 0)) hx hb hr (fun t ht hW => ⟨⟨((10 - a2) + 0), (), rfl, ⟨Option.some.inj hG, trivial⟩, trivial⟩, hS.F ht⟩) hS.2.2 dX5_calmTenths_45
    · replace hG := wq_f c12 hG
      refine lv_iload_n hx hb dX5_calmTenths_33 rfl (lv_at hl 3 rfl) ?_
      refine lv_goto (tgt := 38) hx hb dX5_calmTenths_34 (by decide) ?_
      refine lv_istore (lv' := [(5, .int a2), (4, .int (10 - a2)), (0, .ref (qa 16)), (1, .int a1), (2, .int a2), (3, .int a3)]) hx hb dX5_calmTenths_38 hl (by decide) rfl (fun ls hl => ?_)
      refine lv_iload hx hb dX5_calmTenths_40 (lv_at hl 1 rfl) ?_
      refine lv_iload hx hb dX5_calmTenths_42 (lv_at hl 0 rfl) ?_
      refine lv_iadd hx hb dX5_calmTenths_44 ?_
      exact W.iret (v := ((10 - a2) + a2)) hx hb hr (fun t ht hW => ⟨⟨((10 - a2) + a2), (), rfl, ⟨Option.some.inj hG, trivial⟩, trivial⟩, hS.F ht⟩) hS.2.2 dX5_calmTenths_45

theorem hdS_X6_greatestDivisor : yX6_greatestDivisor.cls ≠ "java/lang/invoke/MethodHandle" ∧ yX6_greatestDivisor.cls ≠ "java/lang/invoke/VarHandle" ∧ (parseMethodDescriptor yX6_greatestDivisor.desc).map (fun d => d.parameters.length) = some 2 := by decide +kernel
set_option maxHeartbeats 4000000 in
set_option maxRecDepth 100000 in
theorem C_X6_greatestDivisor (l : Launch) (dC : Nat → ClassId) (dI : Nat → Nat → Nat) (cI cJ cZ : ClassId) (qa : Nat → Nat) (sz : Nat) (a0 : Int32) (a1 : Int32) (r0 : Int32) (hG : gX6_greatestDivisor a0 a1 = some r0) : Met l yX6_greatestDivisor wsX6_greatestDivisor ({ frames := 0, cells := 0, slots := 0, locals := 0 } : Room) (va_Pc [.int a0, .int a1] (wq_pp (dC, dI) [(cI, .int), (cJ, .long), (cZ, .boolean)] ([]) sz)) (wq_Qi r0 wq_tr (va_A [] sz)) 0 0 (va_A [] sz) := by
  refine Met.ofW (cc := cX6_greatestDivisor) (maxL := 6) (ret := (some .int)) (by decide) rfl ?_
  intro p e s m args below meth c s₁ B hml hv
  obtain ⟨rfl, hsz, hP, hK, hE⟩ := hv
  have hx := B.exec
  have hb := B.bytes
  have hr := B.returns
  have hts := atoms_spec (ws := wsX6_greatestDivisor) B.pre
  have hown : s.vm.findClass RX6 = some m.cls := findClass_of_methodNamed B.named
  have hlocks := B.notSynchronized
  subst hsz
  generalize hAe : va_A [] s.heap.size = A at hE ⊢
  have hA : ∀ q : Nat, s.heap.size ≤ q → A q := fun q h => by rw [← hAe]; exact Or.inr h
  have hS : va_S A s.heap s.heap [] := va_S.rf
  have hl := lv_entry ([.int a0, .int a1]) (n := 6) (Nat.le_of_ble_eq_true rfl)
  rw [lg_entry_eq]
  generalize (lg_sl ([.int a0, .int a1]) ++ List.replicate (6 - (lg_sl ([.int a0, .int a1])).length) Slot.unset).toArray = ls at hl ⊢
  have hl : lv_has ls 6 [(0, .int a0), (1, .int a1)] := hl
  have hL7 : ∀  (n : Nat) (x2 : Int32) (x3 : Int32) (x4 : Int32) (H : Heap) (locs : List Loc) (ls : Array Slot), gX6_greatestDivisor_L7 n x2 x3 x4 = some r0 → va_P (dC, dI) vwCl ([]) H → va_S A s.heap H locs → lv_has ls 6 [(2, .int x2), (3, .int x3), (4, .int x4)] → W p l e (headSpec wsX6_greatestDivisor ({ frames := 0, cells := 0, slots := 0, locals := 0 } : Room)).room s m ([.int a0, .int a1] : List Value).toArray below meth c H locs 0 0 (MQ below (wq_Qi r0 wq_tr A) ([.int a0, .int a1] : List Value).toArray s 0 0 A) (F0 m 7 ls []) := by
    intro  n
    induction n with
    | zero =>
      intro x2 x3 x4 H locs ls hG
      exact absurd (show (none : Option (Int32)) = some r0 from hG) (by intro h9; cases h9)
    | succ n ih7 =>
      intro x2 x3 x4 H locs ls hG hP hS hl
      rw [gX6_greatestDivisor_L7] at hG
      refine lv_iload hx hb dX6_greatestDivisor_7 (lv_at hl 2 rfl) ?_
      refine lv_bipush (v := 64) hx hb dX6_greatestDivisor_9 (by decide) ?_
      refine lv_icmp_ge (tgt := 34) hx hb dX6_greatestDivisor_11 (by decide) (fun c1 => ?_) (fun c1 => ?_)
      · replace hG := wq_t c1 hG
        refine lv_iload_n hx hb dX6_greatestDivisor_34 rfl (lv_at hl 0 rfl) ?_
        exact W.iret (v := x2) hx hb hr (fun t ht hW => ⟨⟨x2, (), rfl, ⟨Option.some.inj hG, trivial⟩, trivial⟩, hS.F ht⟩) hS.2.2 dX6_greatestDivisor_35
      · replace hG := wq_f c1 hG
        refine lv_iload_n hx hb dX6_greatestDivisor_14 rfl (lv_at hl 1 rfl) ?_
        refine lv_if_eq (tgt := 34) hx hb dX6_greatestDivisor_15 (by decide) (fun c2 => ?_) (fun c2 => ?_)
        · replace hG := wq_t c2 hG
          refine lv_iload_n hx hb dX6_greatestDivisor_34 rfl (lv_at hl 0 rfl) ?_
          exact W.iret (v := x2) hx hb hr (fun t ht hW => ⟨⟨x2, (), rfl, ⟨Option.some.inj hG, trivial⟩, trivial⟩, hS.F ht⟩) hS.2.2 dX6_greatestDivisor_35
        · replace hG := wq_f c2 hG
          refine lv_iload_n hx hb dX6_greatestDivisor_18 rfl (lv_at hl 0 rfl) ?_
          refine lv_iload_n hx hb dX6_greatestDivisor_19 rfl (lv_at hl 1 rfl) ?_
          obtain ⟨z3, hG⟩ := wq_nz_s hG
          refine lv_irem hx hb dX6_greatestDivisor_20 z3 ?_
          refine lv_istore (lv' := [(5, .int (x2 - x2 / x3 * x3)), (2, .int x2), (3, .int x3), (4, .int x4)]) hx hb dX6_greatestDivisor_21 hl (by decide) rfl (fun ls hl => ?_)
          refine lv_iload_n hx hb dX6_greatestDivisor_23 rfl (lv_at hl 2 rfl) ?_
          refine lv_istore_n (lv' := [(2, .int x3), (5, .int (x2 - x2 / x3 * x3)), (3, .int x3), (4, .int x4)]) hx hb dX6_greatestDivisor_24 rfl hl (by decide) rfl (fun ls hl => ?_)
          refine lv_iload hx hb dX6_greatestDivisor_25 (lv_at hl 1 rfl) ?_
          refine lv_istore_n (lv' := [(3, .int (x2 - x2 / x3 * x3)), (2, .int x3), (5, .int (x2 - x2 / x3 * x3)), (4, .int x4)]) hx hb dX6_greatestDivisor_27 rfl hl (by decide) rfl (fun ls hl => ?_)
          refine lv_iinc (v := (x4 + 1)) (lv' := [(4, .int (x4 + 1)), (3, .int (x2 - x2 / x3 * x3)), (2, .int x3), (5, .int (x2 - x2 / x3 * x3))]) hx hb dX6_greatestDivisor_28 hl (k := 3) rfl rfl (by decide) rfl (fun ls hl => ?_)
          refine lv_goto (tgt := 7) hx hb dX6_greatestDivisor_31 (by decide) ?_
          exact ih7 x3 (x2 - x2 / x3 * x3) (x4 + 1) _ _ _ hG hP hS (lv_sub hl [2, 1, 0] rfl)
  unfold gX6_greatestDivisor at hG
  refine lv_iload_n hx hb dX6_greatestDivisor_0 rfl (lv_at hl 0 rfl) ?_
  refine lv_istore_n (lv' := [(2, .int a0), (0, .int a0), (1, .int a1)]) hx hb dX6_greatestDivisor_1 rfl hl (by decide) rfl (fun ls hl => ?_)
  refine lv_iload_n hx hb dX6_greatestDivisor_2 rfl (lv_at hl 2 rfl) ?_
  refine lv_istore_n (lv' := [(3, .int a1), (2, .int a0), (0, .int a0), (1, .int a1)]) hx hb dX6_greatestDivisor_3 rfl hl (by decide) rfl (fun ls hl => ?_)
  refine lv_iconst (v := 0) hx hb dX6_greatestDivisor_4 (by decide) ?_
  refine lv_istore (lv' := [(4, .int 0), (3, .int a1), (2, .int a0), (0, .int a0), (1, .int a1)]) hx hb dX6_greatestDivisor_5 hl (by decide) rfl (fun ls hl => ?_)
  exact hL7  1000 a0 a1 0 _ _ _ hG hP hS (lv_sub hl [2, 1, 0] rfl)

theorem hdV_X6_odds : yX6_odds.cls = RX6 ∧ yX6_odds.cls ≠ "java/lang/invoke/MethodHandle" ∧ yX6_odds.cls ≠ "java/lang/invoke/VarHandle" ∧ (parseMethodDescriptor yX6_odds.desc).map (fun d => d.parameters.length) = some 7 := by decide +kernel
set_option maxHeartbeats 4000000 in
set_option maxRecDepth 100000 in
theorem C_X6_odds (l : Launch) (dC : Nat → ClassId) (dI : Nat → Nat → Nat) (cI cJ cZ : ClassId) (qa : Nat → Nat) (sz : Nat) (r_images : Nat → Int64) (r_asked : Int64) (n_likings : Nat → Int32) (n_day : Int32) (n_trust : Int32) (n_ill : Int32) (n_done : Int32) (t_tears : Nat → Int32) (t_gains : Nat → Int32) (t_likings : Nat → Int32) (t_settings : Nat → Int32) (t_goodbyes : Int32) (t_women : Int32) (a1 : Int32) (a2 : Int32) (a3 : Int32) (a4 : Int32) (a5 : Int32) (a6 : Int32) (a7 : Int32) (r0 : Int32) (hG : gX6_odds n_likings n_trust t_tears t_gains t_settings t_goodbyes t_women a1 a2 a3 a4 a5 a6 a7 = some r0) : Met l yX6_odds wsX6_odds ({ frames := 3, cells := 0, slots := 0, locals := 67 } : Room) (va_Pc [.ref (qa 0), .int a1, .int a2, .int a3, .int a4, .int a5, .int a6, .int a7] (wq_pp (dC, dI) [(cI, .int), (cJ, .long), (cZ, .boolean)] (wcRNT qa cI cJ cZ r_images r_asked n_likings n_day n_trust n_ill n_done t_tears t_gains t_likings t_settings t_goodbyes t_women) sz)) (wq_Qi r0 wq_tr (va_A [] sz)) 0 0 (va_A [] sz) := by
  refine Met.ofW (cc := cX6_odds) (maxL := 13) (ret := (some .int)) (by decide) rfl ?_
  intro p e s m args below meth c s₁ B hml hv
  obtain ⟨rfl, hsz, hP, hK, hE⟩ := hv
  have hx := B.exec
  have hb := B.bytes
  have hr := B.returns
  have hts := atoms_spec (ws := wsX6_odds) B.pre
  have hown : s.vm.findClass RX6 = some m.cls := findClass_of_methodNamed B.named
  have hlocks := B.notSynchronized
  subst hsz
  generalize hAe : va_A [] s.heap.size = A at hE ⊢
  have hA : ∀ q : Nat, s.heap.size ≤ q → A q := fun q h => by rw [← hAe]; exact Or.inr h
  have hS : va_S A s.heap s.heap [] := va_S.rf
  have hinX6 : ∀ w ∈ u_ws RX6 TX6 9, w ∈ wsX6_odds := by decide +kernel
  have hinX0 : ∀ w ∈ u_ws RX0 TX0 5, w ∈ wsX6_odds := by decide +kernel
  have k1 := hts (.fieldLink RX6 53 "DoorMornings" "told" "LDoorMornings$Told;") (by decide +kernel)
  have k2 := hts (.fieldLink RX6 19 "DoorMornings" "today" "LDoorMornings$Now;") (by decide +kernel)
  have k3 := hts (.fieldLink RX6 113 "DoorMornings$Now" "trust" "I") (by decide +kernel)
  have hl := lv_entry ([.ref (qa 0), .int a1, .int a2, .int a3, .int a4, .int a5, .int a6, .int a7]) (n := 13) (Nat.le_of_ble_eq_true rfl)
  rw [lg_entry_eq]
  generalize (lg_sl ([.ref (qa 0), .int a1, .int a2, .int a3, .int a4, .int a5, .int a6, .int a7]) ++ List.replicate (13 - (lg_sl ([.ref (qa 0), .int a1, .int a2, .int a3, .int a4, .int a5, .int a6, .int a7])).length) Slot.unset).toArray = ls at hl ⊢
  have hl : lv_has ls 13 [(0, .ref (qa 0)), (1, .int a1), (2, .int a2), (3, .int a3), (4, .int a4), (5, .int a5), (6, .int a6), (7, .int a7)] := hl
  have hL89 : ∀  (n : Nat) (x8 : Int32) (x9 : Int32) (x10 : Int32) (x11 : Int32) (x12 : Int32) (H : Heap) (locs : List Loc) (ls : Array Slot), gX6_odds_L89 t_tears t_gains t_settings t_goodbyes a1 a2 a4 a5 a6 a7 n x8 x9 x10 x11 x12 = some r0 → va_P (dC, dI) vwCl (wcRNT qa cI cJ cZ r_images r_asked n_likings n_day n_trust n_ill n_done t_tears t_gains t_likings t_settings t_goodbyes t_women) H → va_S A s.heap H locs → lv_has ls 13 [(0, .ref (qa 0)), (1, .int a1), (2, .int a2), (4, .int a4), (5, .int a5), (6, .int a6), (7, .int a7), (8, .int x8), (9, .int x9), (10, .int x10), (11, .int x11), (12, .int x12)] → W p l e (headSpec wsX6_odds ({ frames := 3, cells := 0, slots := 0, locals := 67 } : Room)).room s m ([.ref (qa 0), .int a1, .int a2, .int a3, .int a4, .int a5, .int a6, .int a7] : List Value).toArray below meth c H locs 0 0 (MQ below (wq_Qi r0 wq_tr A) ([.ref (qa 0), .int a1, .int a2, .int a3, .int a4, .int a5, .int a6, .int a7] : List Value).toArray s 0 0 A) (F0 m 89 ls []) := by
    intro  n
    induction n with
    | zero =>
      intro x8 x9 x10 x11 x12 H locs ls hG
      exact absurd (show (none : Option (Int32)) = some r0 from hG) (by intro h9; cases h9)
    | succ n ih89 =>
      intro x8 x9 x10 x11 x12 H locs ls hG hP hS hl
      rw [gX6_odds_L89] at hG
      refine lv_iload hx hb dX6_odds_89 (lv_at hl 11 rfl) ?_
      refine lv_iload hx hb dX6_odds_91 (lv_at hl 3 rfl) ?_
      refine lv_icmp_ge (tgt := 161) hx hb dX6_odds_93 (by decide) (fun c1 => ?_) (fun c1 => ?_)
      · replace hG := wq_t c1 hG
        refine lv_iload hx hb dX6_odds_161 (lv_at hl 6 rfl) ?_
        refine lv_if_ne (tgt := 171) hx hb dX6_odds_163 (by decide) (fun c2 => ?_) (fun c2 => ?_)
        · replace hG := wq_f c2 hG
          refine lv_iload hx hb dX6_odds_171 (lv_at hl 10 rfl) ?_
          refine lv_iload hx hb dX6_odds_173 (lv_at hl 9 rfl) ?_
          refine lv_iload hx hb dX6_odds_175 (lv_at hl 10 rfl) ?_
          obtain ⟨v4, g3, hG⟩ := wq_b1_s hG
          refine wq_ci (v := v4) (B := wq_tr) (va_runS (As := [.int x10, .int x11]) (rest := [.int x11]) ⟨hx, hb, hml, hown, hts⟩ (C_X6_greatestDivisor l dC dI cI cJ cZ qa H.size  x10 x11 v4 g3) (va_cwS 2 hts gX6_odds_X6_greatestDivisor rfl rfl rfl hdS_X6_greatestDivisor ⟨Nat.le_of_ble_eq_true rfl, Nat.le_of_ble_eq_true rfl⟩) (wq_ppS hK (hP.sub (ws' := []) [] rfl) hE hS hA) rfl rfl hl.1 rfl (lv_room (Nat.le_of_ble_eq_true rfl)) dX6_odds_177 ⟨Nat.zero_le _, Nat.zero_le _⟩) hS hA (fun H locs b5 hk hS => ?_)
          replace hP := wq_kp hP hk
          clear hk
          obtain ⟨v7, g6, hG⟩ := wq_b1_s hG
          refine wq_ci (v := v7) (B := wq_tr) (va_runS (As := [.int x11, .int v4]) (rest := []) ⟨hx, hb, hml, hown, hts⟩ (C_X6_quotient l dC dI cI cJ cZ qa H.size  x11 v4 v7 g6) (va_cwS 2 hts gX6_odds_X6_quotient rfl rfl rfl hdS_X6_quotient ⟨Nat.le_of_ble_eq_true rfl, Nat.le_of_ble_eq_true rfl⟩) (wq_ppS hK (hP.sub (ws' := []) [] rfl) hE hS hA) rfl rfl hl.1 rfl (lv_room (Nat.le_of_ble_eq_true rfl)) dX6_odds_180 ⟨Nat.zero_le _, Nat.zero_le _⟩) hS hA (fun H locs b8 hk hS => ?_)
          replace hP := wq_kp hP hk
          clear hk
          exact W.iret (v := v7) hx hb hr (fun t ht hW => ⟨⟨v7, (), rfl, ⟨Option.some.inj hG, trivial⟩, trivial⟩, hS.F ht⟩) hS.2.2 dX6_odds_183
        · replace hG := wq_t c2 hG
          refine lv_iload hx hb dX6_odds_166 (lv_at hl 9 rfl) ?_
          refine lv_goto (tgt := 173) hx hb dX6_odds_168 (by decide) ?_
          refine lv_iload hx hb dX6_odds_173 (lv_at hl 9 rfl) ?_
          refine lv_iload hx hb dX6_odds_175 (lv_at hl 10 rfl) ?_
          obtain ⟨v10, g9, hG⟩ := wq_b1_s hG
          refine wq_ci (v := v10) (B := wq_tr) (va_runS (As := [.int x10, .int x11]) (rest := [.int x10]) ⟨hx, hb, hml, hown, hts⟩ (C_X6_greatestDivisor l dC dI cI cJ cZ qa H.size  x10 x11 v10 g9) (va_cwS 2 hts gX6_odds_X6_greatestDivisor rfl rfl rfl hdS_X6_greatestDivisor ⟨Nat.le_of_ble_eq_true rfl, Nat.le_of_ble_eq_true rfl⟩) (wq_ppS hK (hP.sub (ws' := []) [] rfl) hE hS hA) rfl rfl hl.1 rfl (lv_room (Nat.le_of_ble_eq_true rfl)) dX6_odds_177 ⟨Nat.zero_le _, Nat.zero_le _⟩) hS hA (fun H locs b11 hk hS => ?_)
          replace hP := wq_kp hP hk
          clear hk
          obtain ⟨v13, g12, hG⟩ := wq_b1_s hG
          refine wq_ci (v := v13) (B := wq_tr) (va_runS (As := [.int x10, .int v10]) (rest := []) ⟨hx, hb, hml, hown, hts⟩ (C_X6_quotient l dC dI cI cJ cZ qa H.size  x10 v10 v13 g12) (va_cwS 2 hts gX6_odds_X6_quotient rfl rfl rfl hdS_X6_quotient ⟨Nat.le_of_ble_eq_true rfl, Nat.le_of_ble_eq_true rfl⟩) (wq_ppS hK (hP.sub (ws' := []) [] rfl) hE hS hA) rfl rfl hl.1 rfl (lv_room (Nat.le_of_ble_eq_true rfl)) dX6_odds_180 ⟨Nat.zero_le _, Nat.zero_le _⟩) hS hA (fun H locs b14 hk hS => ?_)
          replace hP := wq_kp hP hk
          clear hk
          exact W.iret (v := v13) hx hb hr (fun t ht hW => ⟨⟨v13, (), rfl, ⟨Option.some.inj hG, trivial⟩, trivial⟩, hS.F ht⟩) hS.2.2 dX6_odds_183
      · replace hG := wq_f c1 hG
        refine lv_iload hx hb dX6_odds_96 (lv_at hl 9 rfl) ?_
        refine lv_aload_n hx hb dX6_odds_98 rfl (lv_at hl 0 rfl) ?_
        refine va_get (D := (dC, dI)) (ci := 6) (v := .ref (qa 16)) (C := RX6) (T := TX6) (N := 9) hx hb hts hinX6 hown hK hP 0 rfl rfl 6 (by decide) k1 (fun _ h9 => h9) rfl dX6_odds_99 ?_
        refine lv_aload_n hx hb dX6_odds_102 rfl (lv_at hl 0 rfl) ?_
        refine va_get (D := (dC, dI)) (ci := 6) (v := .ref (qa 16)) (C := RX6) (T := TX6) (N := 9) hx hb hts hinX6 hown hK hP 0 rfl rfl 6 (by decide) k1 (fun _ h9 => h9) rfl dX6_odds_103 ?_
        refine lv_iload_n hx hb dX6_odds_106 rfl (lv_at hl 1 rfl) ?_
        refine lv_iload hx hb dX6_odds_107 (lv_at hl 7 rfl) ?_
        refine lv_iload_n hx hb dX6_odds_109 rfl (lv_at hl 2 rfl) ?_
        refine lv_iload hx hb dX6_odds_110 (lv_at hl 8 rfl) ?_
        obtain ⟨v16, g15, hG⟩ := wq_b1_s hG
        refine wq_ci (v := v16) (B := wq_tr) (va_runV (As := [.int a1, .int x8, .int a2, .int x9]) (rest := [.ref (qa 16), .int x10]) ⟨hx, hb, hml, hown, hts⟩ (C_X5_minutes l dC dI cI cJ cZ qa H.size t_tears t_gains t_likings t_settings t_goodbyes t_women a1 x8 a2 x9 v16 g15) (cwV 4 hts gX6_odds_X5_minutes rfl rfl rfl hdV_X5_minutes ⟨Nat.le_of_ble_eq_true rfl, Nat.le_of_ble_eq_true rfl⟩) (wq_ppV hK (hP.sub (ws' := wcT qa cI cJ cZ t_tears t_gains t_likings t_settings t_goodbyes t_women) [4, 5, 6, 7, 8] rfl) hE hS hA (ci := 5) (q0 := 0) rfl rfl) rfl rfl hl.1 rfl (lv_room (Nat.le_of_ble_eq_true rfl)) dX6_odds_112 ⟨Nat.zero_le _, Nat.zero_le _⟩) hS hA (fun H locs b17 hk hS => ?_)
        replace hP := wq_kp hP hk
        clear hk
        refine lv_iload hx hb dX6_odds_115 (lv_at hl 4 rfl) ?_
        refine lv_iload hx hb dX6_odds_117 (lv_at hl 5 rfl) ?_
        obtain ⟨v19, g18, hG⟩ := wq_b1_s hG
        refine wq_ci (v := v19) (B := wq_tr) (va_runV (As := [.int v16, .int a5, .int a6]) (rest := [.int x10]) ⟨hx, hb, hml, hown, hts⟩ (C_X5_calmTenths l dC dI cI cJ cZ qa H.size t_tears t_gains t_likings t_settings t_goodbyes t_women v16 a5 a6 v19 g18) (cwV 3 hts gX6_odds_X5_calmTenths rfl rfl rfl hdV_X5_calmTenths ⟨Nat.le_of_ble_eq_true rfl, Nat.le_of_ble_eq_true rfl⟩) (wq_ppV hK (hP.sub (ws' := wcT qa cI cJ cZ t_tears t_gains t_likings t_settings t_goodbyes t_women) [4, 5, 6, 7, 8] rfl) hE hS hA (ci := 5) (q0 := 0) rfl rfl) rfl rfl hl.1 rfl (lv_room (Nat.le_of_ble_eq_true rfl)) dX6_odds_119 ⟨Nat.zero_le _, Nat.zero_le _⟩) hS hA (fun H locs b20 hk hS => ?_)
        replace hP := wq_kp hP hk
        clear hk
        refine lv_imul hx hb dX6_odds_122 ?_
        refine lv_istore (lv' := [(10, .int (x10 * v19)), (0, .ref (qa 0)), (1, .int a1), (2, .int a2), (4, .int a4), (5, .int a5), (6, .int a6), (7, .int a7), (8, .int x8), (9, .int x9), (11, .int x11), (12, .int x12)]) hx hb dX6_odds_123 hl (by decide) rfl (fun ls hl => ?_)
        refine lv_iload hx hb dX6_odds_125 (lv_at hl 10 rfl) ?_
        refine lv_bipush (v := 10) hx hb dX6_odds_127 (by decide) ?_
        refine lv_imul hx hb dX6_odds_129 ?_
        refine lv_istore (lv' := [(11, .int (x11 * 10)), (10, .int (x10 * v19)), (0, .ref (qa 0)), (1, .int a1), (2, .int a2), (4, .int a4), (5, .int a5), (6, .int a6), (7, .int a7), (8, .int x8), (9, .int x9), (12, .int x12)]) hx hb dX6_odds_130 hl (by decide) rfl (fun ls hl => ?_)
        refine lv_aload_n hx hb dX6_odds_132 rfl (lv_at hl 2 rfl) ?_
        refine va_get (D := (dC, dI)) (ci := 6) (v := .ref (qa 16)) (C := RX6) (T := TX6) (N := 9) hx hb hts hinX6 hown hK hP 0 rfl rfl 6 (by decide) k1 (fun _ h9 => h9) rfl dX6_odds_133 ?_
        refine lv_iload_n hx hb dX6_odds_136 rfl (lv_at hl 3 rfl) ?_
        refine lv_iload hx hb dX6_odds_137 (lv_at hl 9 rfl) ?_
        obtain ⟨v22, g21, hG⟩ := wq_b1_s hG
        refine wq_ci (v := v22) (B := wq_tr) (va_runV (As := [.int a1, .int x8]) (rest := []) ⟨hx, hb, hml, hown, hts⟩ (C_X5_calmerTrust l dC dI cI cJ cZ qa H.size t_tears t_gains t_likings t_settings t_goodbyes t_women a1 x8 v22 g21) (cwV 2 hts gX6_odds_X5_calmerTrust rfl rfl rfl hdV_X5_calmerTrust ⟨Nat.le_of_ble_eq_true rfl, Nat.le_of_ble_eq_true rfl⟩) (wq_ppV hK (hP.sub (ws' := wcT qa cI cJ cZ t_tears t_gains t_likings t_settings t_goodbyes t_women) [4, 5, 6, 7, 8] rfl) hE hS hA (ci := 5) (q0 := 0) rfl rfl) rfl rfl hl.1 rfl (lv_room (Nat.le_of_ble_eq_true rfl)) dX6_odds_139 ⟨Nat.zero_le _, Nat.zero_le _⟩) hS hA (fun H locs b23 hk hS => ?_)
        replace hP := wq_kp hP hk
        clear hk
        refine lv_istore (lv' := [(8, .int v22), (11, .int (x11 * 10)), (10, .int (x10 * v19)), (0, .ref (qa 0)), (1, .int a1), (2, .int a2), (4, .int a4), (5, .int a5), (6, .int a6), (7, .int a7), (9, .int x9), (12, .int x12)]) hx hb dX6_odds_142 hl (by decide) rfl (fun ls hl => ?_)
        refine lv_aload_n hx hb dX6_odds_144 rfl (lv_at hl 3 rfl) ?_
        refine va_get (D := (dC, dI)) (ci := 6) (v := .ref (qa 16)) (C := RX6) (T := TX6) (N := 9) hx hb hts hinX6 hown hK hP 0 rfl rfl 6 (by decide) k1 (fun _ h9 => h9) rfl dX6_odds_145 ?_
        refine lv_iload hx hb dX6_odds_148 (lv_at hl 10 rfl) ?_
        obtain ⟨v25, g24, hG⟩ := wq_b1_s hG
        refine wq_ci (v := v25) (B := wq_tr) (va_runV (As := [.int x9]) (rest := []) ⟨hx, hb, hml, hown, hts⟩ (C_X5_calmerLiking l dC dI cI cJ cZ qa H.size t_tears t_gains t_likings t_settings t_goodbyes t_women x9 v25 g24) (cwV 1 hts gX6_odds_X5_calmerLiking rfl rfl rfl hdV_X5_calmerLiking ⟨Nat.le_of_ble_eq_true rfl, Nat.le_of_ble_eq_true rfl⟩) (wq_ppV hK (hP.sub (ws' := wcT qa cI cJ cZ t_tears t_gains t_likings t_settings t_goodbyes t_women) [4, 5, 6, 7, 8] rfl) hE hS hA (ci := 5) (q0 := 0) rfl rfl) rfl rfl hl.1 rfl (lv_room (Nat.le_of_ble_eq_true rfl)) dX6_odds_150 ⟨Nat.zero_le _, Nat.zero_le _⟩) hS hA (fun H locs b26 hk hS => ?_)
        replace hP := wq_kp hP hk
        clear hk
        refine lv_istore (lv' := [(9, .int v25), (8, .int v22), (11, .int (x11 * 10)), (10, .int (x10 * v19)), (0, .ref (qa 0)), (1, .int a1), (2, .int a2), (4, .int a4), (5, .int a5), (6, .int a6), (7, .int a7), (12, .int x12)]) hx hb dX6_odds_153 hl (by decide) rfl (fun ls hl => ?_)
        refine lv_iinc (v := (x12 + 1)) (lv' := [(12, .int (x12 + 1)), (9, .int v25), (8, .int v22), (11, .int (x11 * 10)), (10, .int (x10 * v19)), (0, .ref (qa 0)), (1, .int a1), (2, .int a2), (4, .int a4), (5, .int a5), (6, .int a6), (7, .int a7)]) hx hb dX6_odds_155 hl (k := 11) rfl rfl (by decide) rfl (fun ls hl => ?_)
        refine lv_goto (tgt := 89) hx hb dX6_odds_158 (by decide) ?_
        exact ih89 v22 v25 (x10 * v19) (x11 * 10) (x12 + 1) _ _ _ hG hP hS (lv_sub hl [5, 6, 7, 8, 9, 10, 11, 2, 1, 4, 3, 0] rfl)
  unfold gX6_odds at hG
  refine lv_aload_n hx hb dX6_odds_0 rfl (lv_at hl 0 rfl) ?_
  refine lv_iload_n hx hb dX6_odds_1 rfl (lv_at hl 1 rfl) ?_
  refine lv_iload_n hx hb dX6_odds_2 rfl (lv_at hl 2 rfl) ?_
  refine lv_iload_n hx hb dX6_odds_3 rfl (lv_at hl 3 rfl) ?_
  obtain ⟨v28, g27, hG⟩ := wq_b1_s hG
  refine wq_ci (v := v28) (B := wq_Z1) (va_runV (As := [.int a1, .int a2, .int a3]) (rest := []) ⟨hx, hb, hml, hown, hts⟩ (C_X6_isMorning l dC dI cI cJ cZ qa s.heap.size r_images r_asked t_tears t_gains t_likings t_settings t_goodbyes t_women a1 a2 a3 v28 g27) (cwV 3 hts gX6_odds_X6_isMorning rfl rfl rfl hdV_X6_isMorning ⟨Nat.le_of_ble_eq_true rfl, Nat.le_of_ble_eq_true rfl⟩) (wq_ppV hK (hP.sub (ws' := wcRT qa cI cJ cZ r_images r_asked t_tears t_gains t_likings t_settings t_goodbyes t_women) [0, 1, 4, 5, 6, 7, 8] rfl) hE hS hA (ci := 6) (q0 := 0) rfl rfl) rfl rfl hl.1 rfl (lv_room (Nat.le_of_ble_eq_true rfl)) dX6_odds_4 ⟨Nat.zero_le _, Nat.zero_le _⟩) hS hA (fun H locs b29 hk hS => ?_)
  replace hP := wq_kp hP hk
  clear hk
  refine lv_if_eq (tgt := 21) hx hb dX6_odds_7 (by decide) (fun c30 => ?_) (fun c30 => ?_)
  · replace hG := wq_t c30 hG
    refine lv_iconst (v := (-1)) hx hb dX6_odds_21 (by decide) ?_
    exact W.iret (v := (-1)) hx hb hr (fun t ht hW => ⟨⟨(-1), (), rfl, ⟨Option.some.inj hG, trivial⟩, trivial⟩, hS.F ht⟩) hS.2.2 dX6_odds_22
  · replace hG := wq_f c30 hG
    refine lv_iload hx hb dX6_odds_10 (lv_at hl 4 rfl) ?_
    refine lv_if_lt (tgt := 21) hx hb dX6_odds_12 (by decide) (fun c31 => ?_) (fun c31 => ?_)
    · replace hG := wq_t c31 hG
      refine lv_iconst (v := (-1)) hx hb dX6_odds_21 (by decide) ?_
      exact W.iret (v := (-1)) hx hb hr (fun t ht hW => ⟨⟨(-1), (), rfl, ⟨Option.some.inj hG, trivial⟩, trivial⟩, hS.F ht⟩) hS.2.2 dX6_odds_22
    · replace hG := wq_f c31 hG
      refine lv_iload hx hb dX6_odds_15 (lv_at hl 4 rfl) ?_
      refine lv_iconst (v := 5) hx hb dX6_odds_17 (by decide) ?_
      refine lv_icmp_le (tgt := 23) hx hb dX6_odds_18 (by decide) (fun c32 => ?_) (fun c32 => ?_)
      · replace hG := wq_t c32 hG
        refine lv_iload hx hb dX6_odds_23 (lv_at hl 5 rfl) ?_
        refine lv_if_lt (tgt := 59) hx hb dX6_odds_25 (by decide) (fun c33 => ?_) (fun c33 => ?_)
        · replace hG := wq_t c33 hG
          refine lv_iconst (v := (-1)) hx hb dX6_odds_59 (by decide) ?_
          exact W.iret (v := (-1)) hx hb hr (fun t ht hW => ⟨⟨(-1), (), rfl, ⟨Option.some.inj hG, trivial⟩, trivial⟩, hS.F ht⟩) hS.2.2 dX6_odds_60
        · replace hG := wq_f c33 hG
          refine lv_iload hx hb dX6_odds_28 (lv_at hl 5 rfl) ?_
          refine lv_bipush (v := 10) hx hb dX6_odds_30 (by decide) ?_
          refine lv_icmp_gt (tgt := 59) hx hb dX6_odds_32 (by decide) (fun c34 => ?_) (fun c34 => ?_)
          · replace hG := wq_t c34 hG
            refine lv_iconst (v := (-1)) hx hb dX6_odds_59 (by decide) ?_
            exact W.iret (v := (-1)) hx hb hr (fun t ht hW => ⟨⟨(-1), (), rfl, ⟨Option.some.inj hG, trivial⟩, trivial⟩, hS.F ht⟩) hS.2.2 dX6_odds_60
          · replace hG := wq_f c34 hG
            refine lv_iload hx hb dX6_odds_35 (lv_at hl 6 rfl) ?_
            refine lv_iconst (v := 1) hx hb dX6_odds_37 (by decide) ?_
            refine lv_icmp_lt (tgt := 59) hx hb dX6_odds_38 (by decide) (fun c35 => ?_) (fun c35 => ?_)
            · replace hG := wq_t c35 hG
              refine lv_iconst (v := (-1)) hx hb dX6_odds_59 (by decide) ?_
              exact W.iret (v := (-1)) hx hb hr (fun t ht hW => ⟨⟨(-1), (), rfl, ⟨Option.some.inj hG, trivial⟩, trivial⟩, hS.F ht⟩) hS.2.2 dX6_odds_60
            · replace hG := wq_f c35 hG
              refine lv_iload hx hb dX6_odds_41 (lv_at hl 6 rfl) ?_
              refine lv_bipush (v := 20) hx hb dX6_odds_43 (by decide) ?_
              refine lv_icmp_gt (tgt := 59) hx hb dX6_odds_45 (by decide) (fun c36 => ?_) (fun c36 => ?_)
              · replace hG := wq_t c36 hG
                refine lv_iconst (v := (-1)) hx hb dX6_odds_59 (by decide) ?_
                exact W.iret (v := (-1)) hx hb hr (fun t ht hW => ⟨⟨(-1), (), rfl, ⟨Option.some.inj hG, trivial⟩, trivial⟩, hS.F ht⟩) hS.2.2 dX6_odds_60
              · replace hG := wq_f c36 hG
                refine lv_iload hx hb dX6_odds_48 (lv_at hl 7 rfl) ?_
                refine lv_if_lt (tgt := 59) hx hb dX6_odds_50 (by decide) (fun c37 => ?_) (fun c37 => ?_)
                · replace hG := wq_t c37 hG
                  refine lv_iconst (v := (-1)) hx hb dX6_odds_59 (by decide) ?_
                  exact W.iret (v := (-1)) hx hb hr (fun t ht hW => ⟨⟨(-1), (), rfl, ⟨Option.some.inj hG, trivial⟩, trivial⟩, hS.F ht⟩) hS.2.2 dX6_odds_60
                · replace hG := wq_f c37 hG
                  refine lv_iload hx hb dX6_odds_53 (lv_at hl 7 rfl) ?_
                  refine lv_iconst (v := 1) hx hb dX6_odds_55 (by decide) ?_
                  refine lv_icmp_le (tgt := 61) hx hb dX6_odds_56 (by decide) (fun c38 => ?_) (fun c38 => ?_)
                  · replace hG := wq_t c38 hG
                    refine lv_aload_n hx hb dX6_odds_61 rfl (lv_at hl 0 rfl) ?_
                    refine va_get (D := (dC, dI)) (ci := 6) (v := .ref (qa 3)) (C := RX6) (T := TX6) (N := 9) hx hb hts hinX6 hown hK hP 0 rfl rfl 1 (by decide) k2 (fun _ h9 => h9) rfl dX6_odds_62 ?_
                    refine va_get (D := (dC, dI)) (ci := 0) (v := .int n_trust) (C := RX0) (T := TX0) (N := 5) hx hb hts hinX0 hown hK hP 2 rfl rfl 2 (by decide) k3 (fun _ h9 => h9) rfl dX6_odds_65 ?_
                    refine lv_istore (lv' := [(8, .int n_trust), (0, .ref (qa 0)), (1, .int a1), (2, .int a2), (3, .int a3), (4, .int a4), (5, .int a5), (6, .int a6), (7, .int a7)]) hx hb dX6_odds_68 hl (by decide) rfl (fun ls hl => ?_)
                    refine lv_aload_n hx hb dX6_odds_70 rfl (lv_at hl 1 rfl) ?_
                    refine va_get (D := (dC, dI)) (ci := 6) (v := .ref (qa 3)) (C := RX6) (T := TX6) (N := 9) hx hb hts hinX6 hown hK hP 0 rfl rfl 1 (by decide) k2 (fun _ h9 => h9) rfl dX6_odds_71 ?_
                    refine lv_iload_n hx hb dX6_odds_74 rfl (lv_at hl 4 rfl) ?_
                    obtain ⟨v40, g39, hG⟩ := wq_b1_s hG
                    refine wq_ci (v := v40) (B := wq_tr) (va_runV (As := [.int a3]) (rest := []) ⟨hx, hb, hml, hown, hts⟩ (C_X0_likingOf l dC dI cI cJ cZ qa H.size n_likings n_day n_trust n_ill n_done a3 v40 g39) (cwV 1 hts gX6_odds_X0_likingOf rfl rfl rfl hdV_X0_likingOf ⟨Nat.le_of_ble_eq_true rfl, Nat.le_of_ble_eq_true rfl⟩) (wq_ppV hK (hP.sub (ws' := wcN qa cI cJ cZ n_likings n_day n_trust n_ill n_done) [2, 3] rfl) hE hS hA (ci := 0) (q0 := 0) rfl rfl) rfl rfl hl.1 rfl (lv_room (Nat.le_of_ble_eq_true rfl)) dX6_odds_75 ⟨Nat.zero_le _, Nat.zero_le _⟩) hS hA (fun H locs b41 hk hS => ?_)
                    replace hP := wq_kp hP hk
                    clear hk
                    refine lv_istore (lv' := [(9, .int v40), (8, .int n_trust), (0, .ref (qa 0)), (1, .int a1), (2, .int a2), (3, .int a3), (4, .int a4), (5, .int a5), (6, .int a6), (7, .int a7)]) hx hb dX6_odds_78 hl (by decide) rfl (fun ls hl => ?_)
                    refine lv_iconst (v := 1) hx hb dX6_odds_80 (by decide) ?_
                    refine lv_istore (lv' := [(10, .int 1), (9, .int v40), (8, .int n_trust), (0, .ref (qa 0)), (1, .int a1), (2, .int a2), (3, .int a3), (4, .int a4), (5, .int a5), (6, .int a6), (7, .int a7)]) hx hb dX6_odds_81 hl (by decide) rfl (fun ls hl => ?_)
                    refine lv_iconst (v := 1) hx hb dX6_odds_83 (by decide) ?_
                    refine lv_istore (lv' := [(11, .int 1), (10, .int 1), (9, .int v40), (8, .int n_trust), (0, .ref (qa 0)), (1, .int a1), (2, .int a2), (3, .int a3), (4, .int a4), (5, .int a5), (6, .int a6), (7, .int a7)]) hx hb dX6_odds_84 hl (by decide) rfl (fun ls hl => ?_)
                    refine lv_iconst (v := 0) hx hb dX6_odds_86 (by decide) ?_
                    refine lv_istore (lv' := [(12, .int 0), (11, .int 1), (10, .int 1), (9, .int v40), (8, .int n_trust), (0, .ref (qa 0)), (1, .int a1), (2, .int a2), (3, .int a3), (4, .int a4), (5, .int a5), (6, .int a6), (7, .int a7)]) hx hb dX6_odds_87 hl (by decide) rfl (fun ls hl => ?_)
                    exact hL89  1000 n_trust v40 1 1 0 _ _ _ hG hP hS (lv_sub hl [5, 6, 7, 9, 10, 11, 12, 4, 3, 2, 1, 0] rfl)
                  · replace hG := wq_f c38 hG
                    refine lv_iconst (v := (-1)) hx hb dX6_odds_59 (by decide) ?_
                    exact W.iret (v := (-1)) hx hb hr (fun t ht hW => ⟨⟨(-1), (), rfl, ⟨Option.some.inj hG, trivial⟩, trivial⟩, hS.F ht⟩) hS.2.2 dX6_odds_60
      · replace hG := wq_f c32 hG
        refine lv_iconst (v := (-1)) hx hb dX6_odds_21 (by decide) ?_
        exact W.iret (v := (-1)) hx hb hr (fun t ht hW => ⟨⟨(-1), (), rfl, ⟨Option.some.inj hG, trivial⟩, trivial⟩, hS.F ht⟩) hS.2.2 dX6_odds_22

