theorem hdV_X6_rate : yX6_rate.cls = RX6 ∧ yX6_rate.cls ≠ "java/lang/invoke/MethodHandle" ∧ yX6_rate.cls ≠ "java/lang/invoke/VarHandle" ∧ (parseMethodDescriptor yX6_rate.desc).map (fun d => d.parameters.length) = some 2 := by decide +kernel
set_option maxHeartbeats 4000000 in
set_option maxRecDepth 100000 in
theorem C_X6_rate (l : Launch) (dC : Nat → ClassId) (dI : Nat → Nat → Nat) (cI cJ cZ : ClassId) (qa : Nat → Nat) (sz : Nat) (r_images : Nat → Int64) (r_asked : Int64) (n_likings : Nat → Int32) (n_day : Int32) (n_trust : Int32) (n_ill : Int32) (n_done : Int32) (t_tears : Nat → Int32) (t_gains : Nat → Int32) (t_likings : Nat → Int32) (t_settings : Nat → Int32) (t_goodbyes : Int32) (t_women : Int32) (a1 : Int32) (a2 : Int32) (r0 : Int32) (r_r_asked : Int64) (hG : gX6_rate r_asked n_day n_trust t_tears t_gains t_goodbyes a1 a2 = some (r0, r_r_asked)) : Met l yX6_rate wsX6_rate ({ frames := 5, cells := 0, slots := 0, locals := 105 } : Room) (va_Pc [.ref (qa 0), .int a1, .int a2] (wq_pw (dC, dI) [(cI, .int), (cJ, .long), (cZ, .boolean)] (wcRNT qa cI cJ cZ r_images r_asked n_likings n_day n_trust n_ill n_done t_tears t_gains t_likings t_settings t_goodbyes t_women) sz)) (wq_Wi (dC, dI) r0 wq_tr (wcRNT qa cI cJ cZ r_images r_r_asked n_likings n_day n_trust n_ill n_done t_tears t_gains t_likings t_settings t_goodbyes t_women) (va_A (wcRNT qa cI cJ cZ r_images r_asked n_likings n_day n_trust n_ill n_done t_tears t_gains t_likings t_settings t_goodbyes t_women) sz)) 0 0 (va_A (wcRNT qa cI cJ cZ r_images r_asked n_likings n_day n_trust n_ill n_done t_tears t_gains t_likings t_settings t_goodbyes t_women) sz) := by
  refine Met.ofW (cc := cX6_rate) (maxL := 3) (ret := (some .int)) (by decide) rfl ?_
  intro p e s m args below meth c s₁ B hml hv
  obtain ⟨rfl, hsz, hP, hK, hD0, hE⟩ := hv
  have hx := B.exec
  have hb := B.bytes
  have hr := B.returns
  have hts := atoms_spec (ws := wsX6_rate) B.pre
  have hown : s.vm.findClass RX6 = some m.cls := findClass_of_methodNamed B.named
  have hlocks := B.notSynchronized
  subst hsz
  have hD := hD0.self (sz := s.heap.size)
  generalize hAe : va_A (wcRNT qa cI cJ cZ r_images r_asked n_likings n_day n_trust n_ill n_done t_tears t_gains t_likings t_settings t_goodbyes t_women) s.heap.size = A at hD hE ⊢
  have hA : ∀ q : Nat, s.heap.size ≤ q → A q := fun q h => by rw [← hAe]; exact Or.inr h
  have hS : va_S A s.heap s.heap [] := va_S.rf
  have hinX6 : ∀ w ∈ u_ws RX6 TX6 9, w ∈ wsX6_rate := by decide +kernel
  have k1 := hts (.fieldLink RX6 53 "DoorMornings" "told" "LDoorMornings$Told;") (by decide +kernel)
  have k2 := hts (.constant RX6 192 (-1000000)) (by decide +kernel)
  have hl := lv_entry ([.ref (qa 0), .int a1, .int a2]) (n := 3) (Nat.le_of_ble_eq_true rfl)
  rw [lg_entry_eq]
  generalize (lg_sl ([.ref (qa 0), .int a1, .int a2]) ++ List.replicate (3 - (lg_sl ([.ref (qa 0), .int a1, .int a2])).length) Slot.unset).toArray = ls at hl ⊢
  have hl : lv_has ls 3 [(0, .ref (qa 0)), (1, .int a1), (2, .int a2)] := hl
  unfold gX6_rate at hG
  refine lv_aload_n hx hb dX6_rate_0 rfl (lv_at hl 0 rfl) ?_
  refine va_get (D := (dC, dI)) (ci := 6) (v := .ref (qa 16)) (C := RX6) (T := TX6) (N := 9) hx hb hts hinX6 hown hK hP 0 rfl rfl 6 (by decide) k1 (fun _ h9 => h9) rfl dX6_rate_1 ?_
  refine lv_iload_n hx hb dX6_rate_4 rfl (lv_at hl 2 rfl) ?_
  obtain ⟨v2, g1, hG⟩ := wq_b1_s hG
  refine wq_ci (v := v2) (B := wq_Z1) (va_runV (As := [.int a2]) (rest := []) ⟨hx, hb, hml, hown, hts⟩ (C_X5_hasGoodbye l dC dI cI cJ cZ qa s.heap.size t_tears t_gains t_likings t_settings t_goodbyes t_women a2 v2 g1) (cwV 1 hts gX6_rate_X5_hasGoodbye rfl rfl rfl hdV_X5_hasGoodbye ⟨Nat.le_of_ble_eq_true rfl, Nat.le_of_ble_eq_true rfl⟩) (wq_ppV hK (hP.sub (ws' := wcT qa cI cJ cZ t_tears t_gains t_likings t_settings t_goodbyes t_women) [4, 5, 6, 7, 8] rfl) hE hS hA (ci := 5) (q0 := 0) rfl rfl) rfl rfl hl.1 rfl (lv_room (Nat.le_of_ble_eq_true rfl)) dX6_rate_5 ⟨Nat.zero_le _, Nat.zero_le _⟩) hS hA (fun H locs b3 hk hS => ?_)
  replace hP := wq_kp hP hk
  clear hk
  refine lv_if_ne (tgt := 14) hx hb dX6_rate_8 (by decide) (fun c4 => ?_) (fun c4 => ?_)
  · replace hG := wq_f c4 hG
    refine lv_iload_n hx hb dX6_rate_14 rfl (lv_at hl 1 rfl) ?_
    by_cases c5 : a1 = 0
    · replace hG := wq_t c5 hG
      refine lv_tableIn (off := 37) (tgt := 52) hx hb dX6_rate_15 (by rw [c5]; decide) (by rw [c5]; decide) (by rw [c5]; decide) (by decide) ?_
      refine lv_aload_n hx hb dX6_rate_52 rfl (lv_at hl 0 rfl) ?_
      refine lv_iload_n hx hb dX6_rate_53 rfl (lv_at hl 2 rfl) ?_
      obtain ⟨v7, w8, g6, hG⟩ := wq_b2_s hG
      have hFc := va_free (wc := wcRT qa cI cJ cZ r_images r_asked t_tears t_gains t_likings t_settings t_goodbyes t_women) hD hS hA [0, 1, 4, 5, 6, 7, 8] rfl
      refine wq_di (D := (dC, dI)) (v := v7) (B := wq_tr) (wr := wcN qa cI cJ cZ n_likings n_day n_trust n_ill n_done) (w1 := wcRT qa cI cJ cZ r_images w8 t_tears t_gains t_likings t_settings t_goodbyes t_women) (w2 := wcRNT qa cI cJ cZ r_images w8 n_likings n_day n_trust n_ill n_done t_tears t_gains t_likings t_settings t_goodbyes t_women) (va_runV (As := [.int a2]) (rest := []) ⟨hx, hb, hml, hown, hts⟩ (C_X6_rateOfGoodbye l dC dI cI cJ cZ qa H.size r_images r_asked t_tears t_gains t_likings t_settings t_goodbyes t_women a2 v7 w8 g6) (cwV 1 hts gX6_rate_X6_rateOfGoodbye rfl rfl rfl hdV_X6_rateOfGoodbye ⟨Nat.le_of_ble_eq_true rfl, Nat.le_of_ble_eq_true rfl⟩) (wq_pwV hK (hP.sub (ws' := wcRT qa cI cJ cZ r_images r_asked t_tears t_gains t_likings t_settings t_goodbyes t_women) [0, 1, 4, 5, 6, 7, 8] rfl) (hD.sub (ws' := wcRT qa cI cJ cZ r_images r_asked t_tears t_gains t_likings t_settings t_goodbyes t_women) [0, 1, 4, 5, 6, 7, 8] (by decide) rfl) hE hS hFc (ci := 6) (q0 := 0) rfl rfl) rfl rfl hl.1 rfl (lv_room (Nat.le_of_ble_eq_true rfl)) dX6_rate_54 ⟨Nat.zero_le _, Nat.zero_le _⟩) hP hD hS hFc [0, 1, 4, 5, 6, 7, 8] [2, 3] [2, 3, 0, 1, 4, 5, 6, 7, 8] rfl rfl (by decide) (by decide) (by decide) rfl (fun H locs b9 hP hD hS => ?_)
      clear hFc
      obtain ⟨e0, e1⟩ := wq_j2 hG
      subst e0
      subst e1
      exact W.iret hx hb hr (fun t ht hW => ⟨⟨_, (), rfl, ⟨rfl, trivial⟩, by rw [ht]; exact hP, hD⟩, hS.F ht⟩) hS.2.2 dX6_rate_57
    · replace hG := wq_f c5 hG
      by_cases c10 : a1 = 1
      · replace hG := wq_t c10 hG
        refine lv_tableIn (off := 43) (tgt := 58) hx hb dX6_rate_15 (by rw [c10]; decide) (by rw [c10]; decide) (by rw [c10]; decide) (by decide) ?_
        refine lv_aload_n hx hb dX6_rate_58 rfl (lv_at hl 0 rfl) ?_
        refine lv_iload_n hx hb dX6_rate_59 rfl (lv_at hl 2 rfl) ?_
        obtain ⟨v12, w13, g11, hG⟩ := wq_b2_s hG
        have hFc := va_free (wc := wcRT qa cI cJ cZ r_images r_asked t_tears t_gains t_likings t_settings t_goodbyes t_women) hD hS hA [0, 1, 4, 5, 6, 7, 8] rfl
        refine wq_di (D := (dC, dI)) (v := v12) (B := wq_tr) (wr := wcN qa cI cJ cZ n_likings n_day n_trust n_ill n_done) (w1 := wcRT qa cI cJ cZ r_images w13 t_tears t_gains t_likings t_settings t_goodbyes t_women) (w2 := wcRNT qa cI cJ cZ r_images w13 n_likings n_day n_trust n_ill n_done t_tears t_gains t_likings t_settings t_goodbyes t_women) (va_runV (As := [.int a2]) (rest := []) ⟨hx, hb, hml, hown, hts⟩ (C_X6_rateOfSlow l dC dI cI cJ cZ qa H.size r_images r_asked t_tears t_gains t_likings t_settings t_goodbyes t_women a2 v12 w13 g11) (cwV 1 hts gX6_rate_X6_rateOfSlow rfl rfl rfl hdV_X6_rateOfSlow ⟨Nat.le_of_ble_eq_true rfl, Nat.le_of_ble_eq_true rfl⟩) (wq_pwV hK (hP.sub (ws' := wcRT qa cI cJ cZ r_images r_asked t_tears t_gains t_likings t_settings t_goodbyes t_women) [0, 1, 4, 5, 6, 7, 8] rfl) (hD.sub (ws' := wcRT qa cI cJ cZ r_images r_asked t_tears t_gains t_likings t_settings t_goodbyes t_women) [0, 1, 4, 5, 6, 7, 8] (by decide) rfl) hE hS hFc (ci := 6) (q0 := 0) rfl rfl) rfl rfl hl.1 rfl (lv_room (Nat.le_of_ble_eq_true rfl)) dX6_rate_60 ⟨Nat.zero_le _, Nat.zero_le _⟩) hP hD hS hFc [0, 1, 4, 5, 6, 7, 8] [2, 3] [2, 3, 0, 1, 4, 5, 6, 7, 8] rfl rfl (by decide) (by decide) (by decide) rfl (fun H locs b14 hP hD hS => ?_)
        clear hFc
        obtain ⟨e0, e1⟩ := wq_j2 hG
        subst e0
        subst e1
        exact W.iret hx hb hr (fun t ht hW => ⟨⟨_, (), rfl, ⟨rfl, trivial⟩, by rw [ht]; exact hP, hD⟩, hS.F ht⟩) hS.2.2 dX6_rate_63
      · replace hG := wq_f c10 hG
        by_cases c15 : a1 = 2
        · replace hG := wq_t c15 hG
          refine lv_tableIn (off := 49) (tgt := 64) hx hb dX6_rate_15 (by rw [c15]; decide) (by rw [c15]; decide) (by rw [c15]; decide) (by decide) ?_
          refine lv_aload_n hx hb dX6_rate_64 rfl (lv_at hl 0 rfl) ?_
          refine lv_iload_n hx hb dX6_rate_65 rfl (lv_at hl 2 rfl) ?_
          obtain ⟨v17, w18, g16, hG⟩ := wq_b2_s hG
          have hFc := va_free (wc := wcRNT qa cI cJ cZ r_images r_asked n_likings n_day n_trust n_ill n_done t_tears t_gains t_likings t_settings t_goodbyes t_women) hD hS hA [0, 1, 2, 3, 4, 5, 6, 7, 8] rfl
          refine wq_di (D := (dC, dI)) (v := v17) (B := wq_tr) (wr := []) (w1 := wcRNT qa cI cJ cZ r_images w18 n_likings n_day n_trust n_ill n_done t_tears t_gains t_likings t_settings t_goodbyes t_women) (w2 := wcRNT qa cI cJ cZ r_images w18 n_likings n_day n_trust n_ill n_done t_tears t_gains t_likings t_settings t_goodbyes t_women) (va_runV (As := [.int a2]) (rest := []) ⟨hx, hb, hml, hown, hts⟩ (C_X6_rateOfQuick l dC dI cI cJ cZ qa H.size r_images r_asked n_likings n_day n_trust n_ill n_done t_tears t_gains t_likings t_settings t_goodbyes t_women a2 v17 w18 g16) (cwV 1 hts gX6_rate_X6_rateOfQuick rfl rfl rfl hdV_X6_rateOfQuick ⟨Nat.le_of_ble_eq_true rfl, Nat.le_of_ble_eq_true rfl⟩) (wq_pwV hK hP hD hE hS hFc (ci := 6) (q0 := 0) rfl rfl) rfl rfl hl.1 rfl (lv_room (Nat.le_of_ble_eq_true rfl)) dX6_rate_66 ⟨Nat.zero_le _, Nat.zero_le _⟩) hP hD hS hFc [0, 1, 2, 3, 4, 5, 6, 7, 8] [] [0, 1, 2, 3, 4, 5, 6, 7, 8] rfl rfl (by decide) (by decide) (by decide) rfl (fun H locs b19 hP hD hS => ?_)
          clear hFc
          obtain ⟨e0, e1⟩ := wq_j2 hG
          subst e0
          subst e1
          exact W.iret hx hb hr (fun t ht hW => ⟨⟨_, (), rfl, ⟨rfl, trivial⟩, by rw [ht]; exact hP, hD⟩, hS.F ht⟩) hS.2.2 dX6_rate_69
        · replace hG := wq_f c15 hG
          by_cases c20 : a1 = 3
          · replace hG := wq_t c20 hG
            refine lv_tableIn (off := 55) (tgt := 70) hx hb dX6_rate_15 (by rw [c20]; decide) (by rw [c20]; decide) (by rw [c20]; decide) (by decide) ?_
            refine lv_aload_n hx hb dX6_rate_70 rfl (lv_at hl 0 rfl) ?_
            refine lv_iload_n hx hb dX6_rate_71 rfl (lv_at hl 2 rfl) ?_
            obtain ⟨v22, w23, g21, hG⟩ := wq_b2_s hG
            have hFc := va_free (wc := wcRT qa cI cJ cZ r_images r_asked t_tears t_gains t_likings t_settings t_goodbyes t_women) hD hS hA [0, 1, 4, 5, 6, 7, 8] rfl
            refine wq_di (D := (dC, dI)) (v := v22) (B := wq_tr) (wr := wcN qa cI cJ cZ n_likings n_day n_trust n_ill n_done) (w1 := wcRT qa cI cJ cZ r_images w23 t_tears t_gains t_likings t_settings t_goodbyes t_women) (w2 := wcRNT qa cI cJ cZ r_images w23 n_likings n_day n_trust n_ill n_done t_tears t_gains t_likings t_settings t_goodbyes t_women) (va_runV (As := [.int a2]) (rest := []) ⟨hx, hb, hml, hown, hts⟩ (C_X6_rateOfWave l dC dI cI cJ cZ qa H.size r_images r_asked t_tears t_gains t_likings t_settings t_goodbyes t_women a2 v22 w23 g21) (cwV 1 hts gX6_rate_X6_rateOfWave rfl rfl rfl hdV_X6_rateOfWave ⟨Nat.le_of_ble_eq_true rfl, Nat.le_of_ble_eq_true rfl⟩) (wq_pwV hK (hP.sub (ws' := wcRT qa cI cJ cZ r_images r_asked t_tears t_gains t_likings t_settings t_goodbyes t_women) [0, 1, 4, 5, 6, 7, 8] rfl) (hD.sub (ws' := wcRT qa cI cJ cZ r_images r_asked t_tears t_gains t_likings t_settings t_goodbyes t_women) [0, 1, 4, 5, 6, 7, 8] (by decide) rfl) hE hS hFc (ci := 6) (q0 := 0) rfl rfl) rfl rfl hl.1 rfl (lv_room (Nat.le_of_ble_eq_true rfl)) dX6_rate_72 ⟨Nat.zero_le _, Nat.zero_le _⟩) hP hD hS hFc [0, 1, 4, 5, 6, 7, 8] [2, 3] [2, 3, 0, 1, 4, 5, 6, 7, 8] rfl rfl (by decide) (by decide) (by decide) rfl (fun H locs b24 hP hD hS => ?_)
            clear hFc
            obtain ⟨e0, e1⟩ := wq_j2 hG
            subst e0
            subst e1
            exact W.iret hx hb hr (fun t ht hW => ⟨⟨_, (), rfl, ⟨rfl, trivial⟩, by rw [ht]; exact hP, hD⟩, hS.F ht⟩) hS.2.2 dX6_rate_75
          · replace hG := wq_f c20 hG
            by_cases c25 : a1 = 4
            · replace hG := wq_t c25 hG
              refine lv_tableIn (off := 61) (tgt := 76) hx hb dX6_rate_15 (by rw [c25]; decide) (by rw [c25]; decide) (by rw [c25]; decide) (by decide) ?_
              refine lv_aload_n hx hb dX6_rate_76 rfl (lv_at hl 0 rfl) ?_
              refine lv_iload_n hx hb dX6_rate_77 rfl (lv_at hl 2 rfl) ?_
              obtain ⟨v27, w28, g26, hG⟩ := wq_b2_s hG
              have hFc := va_free (wc := wcRNT qa cI cJ cZ r_images r_asked n_likings n_day n_trust n_ill n_done t_tears t_gains t_likings t_settings t_goodbyes t_women) hD hS hA [0, 1, 2, 3, 4, 5, 6, 7, 8] rfl
              refine wq_di (D := (dC, dI)) (v := v27) (B := wq_tr) (wr := []) (w1 := wcRNT qa cI cJ cZ r_images w28 n_likings n_day n_trust n_ill n_done t_tears t_gains t_likings t_settings t_goodbyes t_women) (w2 := wcRNT qa cI cJ cZ r_images w28 n_likings n_day n_trust n_ill n_done t_tears t_gains t_likings t_settings t_goodbyes t_women) (va_runV (As := [.int a2]) (rest := []) ⟨hx, hb, hml, hown, hts⟩ (C_X6_rateOfUnseen l dC dI cI cJ cZ qa H.size r_images r_asked n_likings n_day n_trust n_ill n_done t_tears t_gains t_likings t_settings t_goodbyes t_women a2 v27 w28 g26) (cwV 1 hts gX6_rate_X6_rateOfUnseen rfl rfl rfl hdV_X6_rateOfUnseen ⟨Nat.le_of_ble_eq_true rfl, Nat.le_of_ble_eq_true rfl⟩) (wq_pwV hK hP hD hE hS hFc (ci := 6) (q0 := 0) rfl rfl) rfl rfl hl.1 rfl (lv_room (Nat.le_of_ble_eq_true rfl)) dX6_rate_78 ⟨Nat.zero_le _, Nat.zero_le _⟩) hP hD hS hFc [0, 1, 2, 3, 4, 5, 6, 7, 8] [] [0, 1, 2, 3, 4, 5, 6, 7, 8] rfl rfl (by decide) (by decide) (by decide) rfl (fun H locs b29 hP hD hS => ?_)
              clear hFc
              obtain ⟨e0, e1⟩ := wq_j2 hG
              subst e0
              subst e1
              exact W.iret hx hb hr (fun t ht hW => ⟨⟨_, (), rfl, ⟨rfl, trivial⟩, by rw [ht]; exact hP, hD⟩, hS.F ht⟩) hS.2.2 dX6_rate_81
            · replace hG := wq_f c25 hG
              by_cases c30 : a1 = 5
              · replace hG := wq_t c30 hG
                refine lv_tableIn (off := 67) (tgt := 82) hx hb dX6_rate_15 (by rw [c30]; decide) (by rw [c30]; decide) (by rw [c30]; decide) (by decide) ?_
                refine lv_aload_n hx hb dX6_rate_82 rfl (lv_at hl 0 rfl) ?_
                refine lv_iload_n hx hb dX6_rate_83 rfl (lv_at hl 2 rfl) ?_
                obtain ⟨v32, w33, g31, hG⟩ := wq_b2_s hG
                have hFc := va_free (wc := wcRNT qa cI cJ cZ r_images r_asked n_likings n_day n_trust n_ill n_done t_tears t_gains t_likings t_settings t_goodbyes t_women) hD hS hA [0, 1, 2, 3, 4, 5, 6, 7, 8] rfl
                refine wq_di (D := (dC, dI)) (v := v32) (B := wq_tr) (wr := []) (w1 := wcRNT qa cI cJ cZ r_images w33 n_likings n_day n_trust n_ill n_done t_tears t_gains t_likings t_settings t_goodbyes t_women) (w2 := wcRNT qa cI cJ cZ r_images w33 n_likings n_day n_trust n_ill n_done t_tears t_gains t_likings t_settings t_goodbyes t_women) (va_runV (As := [.int a2]) (rest := []) ⟨hx, hb, hml, hown, hts⟩ (C_X6_rateOfKiss l dC dI cI cJ cZ qa H.size r_images r_asked n_likings n_day n_trust n_ill n_done t_tears t_gains t_likings t_settings t_goodbyes t_women a2 v32 w33 g31) (cwV 1 hts gX6_rate_X6_rateOfKiss rfl rfl rfl hdV_X6_rateOfKiss ⟨Nat.le_of_ble_eq_true rfl, Nat.le_of_ble_eq_true rfl⟩) (wq_pwV hK hP hD hE hS hFc (ci := 6) (q0 := 0) rfl rfl) rfl rfl hl.1 rfl (lv_room (Nat.le_of_ble_eq_true rfl)) dX6_rate_84 ⟨Nat.zero_le _, Nat.zero_le _⟩) hP hD hS hFc [0, 1, 2, 3, 4, 5, 6, 7, 8] [] [0, 1, 2, 3, 4, 5, 6, 7, 8] rfl rfl (by decide) (by decide) (by decide) rfl (fun H locs b34 hP hD hS => ?_)
                clear hFc
                obtain ⟨e0, e1⟩ := wq_j2 hG
                subst e0
                subst e1
                exact W.iret hx hb hr (fun t ht hW => ⟨⟨_, (), rfl, ⟨rfl, trivial⟩, by rw [ht]; exact hP, hD⟩, hS.F ht⟩) hS.2.2 dX6_rate_87
              · replace hG := wq_f c30 hG
                refine lv_tableOut (tgt := 88) hx hb dX6_rate_15 (by have e0 := lv_neT c5 (a := 0) (by decide); have e1 := lv_neT c10 (a := 1) (by decide); have e2 := lv_neT c15 (a := 2) (by decide); have e3 := lv_neT c20 (a := 3) (by decide); have e4 := lv_neT c25 (a := 4) (by decide); have e5 := lv_neT c30 (a := 5) (by decide); omega) (by decide) ?_
                refine lv_ldc (v := (-1000000)) hx hb hown k2 dX6_rate_88 ?_
                obtain ⟨e0, e1⟩ := wq_j2 hG
                subst e0
                subst e1
                exact W.iret hx hb hr (fun t ht hW => ⟨⟨_, (), rfl, ⟨rfl, trivial⟩, by rw [ht]; exact hP, hD⟩, hS.F ht⟩) hS.2.2 dX6_rate_90
  · replace hG := wq_t c4 hG
    refine lv_ldc (v := (-1000000)) hx hb hown k2 dX6_rate_11 ?_
    obtain ⟨e0, e1⟩ := wq_j2 hG
    subst e0
    subst e1
    exact W.iret hx hb hr (fun t ht hW => ⟨⟨_, (), rfl, ⟨rfl, trivial⟩, by rw [ht]; exact hP, hD⟩, hS.F ht⟩) hS.2.2 dX6_rate_13

theorem hdV_X6_keep : yX6_keep.cls = RX6 ∧ yX6_keep.cls ≠ "java/lang/invoke/MethodHandle" ∧ yX6_keep.cls ≠ "java/lang/invoke/VarHandle" ∧ (parseMethodDescriptor yX6_keep.desc).map (fun d => d.parameters.length) = some 1 := by decide +kernel
set_option maxHeartbeats 4000000 in
set_option maxRecDepth 100000 in
theorem C_X6_keep (l : Launch) (dC : Nat → ClassId) (dI : Nat → Nat → Nat) (cI cJ cZ : ClassId) (qa : Nat → Nat) (sz : Nat) (r_images : Nat → Int64) (r_asked : Int64) (n_likings : Nat → Int32) (n_day : Int32) (n_trust : Int32) (n_ill : Int32) (n_done : Int32) (a1 : Int32) (r0 : Int32) (r_r_images : Nat → Int64) (hG : gX6_keep r_images n_likings n_day n_trust n_ill n_done a1 = some (r0, r_r_images)) : Met l yX6_keep wsX6_keep ({ frames := 1, cells := 0, slots := 0, locals := 23 } : Room) (va_Pc [.ref (qa 0), .int a1] (wq_pw (dC, dI) [(cI, .int), (cJ, .long), (cZ, .boolean)] (wcRN qa cI cJ cZ r_images r_asked n_likings n_day n_trust n_ill n_done) sz)) (wq_Wi (dC, dI) r0 wq_tr (wcRN qa cI cJ cZ r_r_images r_asked n_likings n_day n_trust n_ill n_done) (va_A (wcRN qa cI cJ cZ r_images r_asked n_likings n_day n_trust n_ill n_done) sz)) 0 0 (va_A (wcRN qa cI cJ cZ r_images r_asked n_likings n_day n_trust n_ill n_done) sz) := by
  refine Met.ofW (cc := cX6_keep) (maxL := 2) (ret := (some .int)) (by decide) rfl ?_
  intro p e s m args below meth c s₁ B hml hv
  obtain ⟨rfl, hsz, hP, hK, hD0, hE⟩ := hv
  have hx := B.exec
  have hb := B.bytes
  have hr := B.returns
  have hts := atoms_spec (ws := wsX6_keep) B.pre
  have hown : s.vm.findClass RX6 = some m.cls := findClass_of_methodNamed B.named
  have hlocks := B.notSynchronized
  subst hsz
  have hD := hD0.self (sz := s.heap.size)
  generalize hAe : va_A (wcRN qa cI cJ cZ r_images r_asked n_likings n_day n_trust n_ill n_done) s.heap.size = A at hD hE ⊢
  have hA : ∀ q : Nat, s.heap.size ≤ q → A q := fun q h => by rw [← hAe]; exact Or.inr h
  have hS : va_S A s.heap s.heap [] := va_S.rf
  have hinX6 : ∀ w ∈ u_ws RX6 TX6 9, w ∈ wsX6_keep := by decide +kernel
  have hinX0 : ∀ w ∈ u_ws RX0 TX0 5, w ∈ wsX6_keep := by decide +kernel
  have k1 := hts (.fieldLink RX6 46 "DoorMornings" "images" "[J") (by decide +kernel)
  have k2 := hts (.fieldLink RX6 19 "DoorMornings" "today" "LDoorMornings$Now;") (by decide +kernel)
  have k3 := hts (.fieldLink RX6 109 "DoorMornings$Now" "day" "I") (by decide +kernel)
  have hl := lv_entry ([.ref (qa 0), .int a1]) (n := 2) (Nat.le_of_ble_eq_true rfl)
  rw [lg_entry_eq]
  generalize (lg_sl ([.ref (qa 0), .int a1]) ++ List.replicate (2 - (lg_sl ([.ref (qa 0), .int a1])).length) Slot.unset).toArray = ls at hl ⊢
  have hl : lv_has ls 2 [(0, .ref (qa 0)), (1, .int a1)] := hl
  unfold gX6_keep at hG
  refine lv_iload_n hx hb dX6_keep_0 rfl (lv_at hl 1 rfl) ?_
  refine lv_if_lt (tgt := 9) hx hb dX6_keep_1 (by decide) (fun c1 => ?_) (fun c1 => ?_)
  · replace hG := wq_t c1 hG
    refine lv_iconst (v := (-1)) hx hb dX6_keep_9 (by decide) ?_
    obtain ⟨e0, e1⟩ := wq_j2 hG
    subst e0
    subst e1
    exact W.iret hx hb hr (fun t ht hW => ⟨⟨_, (), rfl, ⟨rfl, trivial⟩, by rw [ht]; exact hP, hD⟩, hS.F ht⟩) hS.2.2 dX6_keep_10
  · replace hG := wq_f c1 hG
    refine lv_iload_n hx hb dX6_keep_4 rfl (lv_at hl 1 rfl) ?_
    refine lv_iconst (v := 2) hx hb dX6_keep_5 (by decide) ?_
    refine lv_icmp_lt (tgt := 11) hx hb dX6_keep_6 (by decide) (fun c2 => ?_) (fun c2 => ?_)
    · replace hG := wq_t c2 hG
      refine lv_aload_n hx hb dX6_keep_11 rfl (lv_at hl 0 rfl) ?_
      refine va_get (D := (dC, dI)) (ci := 6) (v := .ref (qa 15)) (C := RX6) (T := TX6) (N := 9) hx hb hts hinX6 hown hK hP 0 rfl rfl 5 (by decide) k1 (fun _ h9 => h9) rfl dX6_keep_12 ?_
      refine lv_iload_n hx hb dX6_keep_15 rfl (lv_at hl 1 rfl) ?_
      refine lv_aload_n hx hb dX6_keep_16 rfl (lv_at hl 0 rfl) ?_
      refine va_get (D := (dC, dI)) (ci := 6) (v := .ref (qa 3)) (C := RX6) (T := TX6) (N := 9) hx hb hts hinX6 hown hK hP 0 rfl rfl 1 (by decide) k2 (fun _ h9 => h9) rfl dX6_keep_17 ?_
      obtain ⟨v4, g3, hG⟩ := wq_b1_s hG
      refine wq_cl (v := v4) (va_runV (As := []) (rest := [.int a1, .ref (qa 15)]) ⟨hx, hb, hml, hown, hts⟩ (C_X0_folded l dC dI cI cJ cZ qa s.heap.size n_likings n_day n_trust n_ill n_done  v4 g3) (cwV 0 hts gX6_keep_X0_folded rfl rfl rfl hdV_X0_folded ⟨Nat.le_of_ble_eq_true rfl, Nat.le_of_ble_eq_true rfl⟩) (wq_ppV hK (hP.sub (ws' := wcN qa cI cJ cZ n_likings n_day n_trust n_ill n_done) [2, 3] rfl) hE hS hA (ci := 0) (q0 := 0) rfl rfl) rfl rfl hl.1 rfl (lv_room (Nat.le_of_ble_eq_true rfl)) dX6_keep_20 ⟨Nat.zero_le _, Nat.zero_le _⟩) hS hA (fun H locs hk hS => ?_)
      replace hP := wq_kp hP hk
      clear hk
      obtain ⟨h5, hG⟩ := wq_chk_s hG
      refine wq_last (D := (dC, dI)) hx hb hK hP hD hS 1 1 rfl rfl h5 (Int32.toNatClampNeg a1) rfl (wcRN qa cI cJ cZ (vp_updL r_images (Int32.toNatClampNeg a1) v4) r_asked n_likings n_day n_trust n_ill n_done) rfl dX6_keep_23 (fun H locs hP hD hS => ?_)
      refine lv_aload_n hx hb dX6_keep_24 rfl (lv_at hl 0 rfl) ?_
      refine va_get (D := (dC, dI)) (ci := 6) (v := .ref (qa 3)) (C := RX6) (T := TX6) (N := 9) hx hb hts hinX6 hown hK hP 0 rfl rfl 1 (by decide) k2 (fun _ h9 => h9) rfl dX6_keep_25 ?_
      refine va_get (D := (dC, dI)) (ci := 0) (v := .int n_day) (C := RX0) (T := TX0) (N := 5) hx hb hts hinX0 hown hK hP 2 rfl rfl 1 (by decide) k3 (fun _ h9 => h9) rfl dX6_keep_28 ?_
      obtain ⟨e0, e1⟩ := wq_j2 hG
      subst e0
      subst e1
      exact W.iret hx hb hr (fun t ht hW => ⟨⟨_, (), rfl, ⟨rfl, trivial⟩, by rw [ht]; exact hP, hD⟩, hS.F ht⟩) hS.2.2 dX6_keep_31
    · replace hG := wq_f c2 hG
      refine lv_iconst (v := (-1)) hx hb dX6_keep_9 (by decide) ?_
      obtain ⟨e0, e1⟩ := wq_j2 hG
      subst e0
      subst e1
      exact W.iret hx hb hr (fun t ht hW => ⟨⟨_, (), rfl, ⟨rfl, trivial⟩, by rw [ht]; exact hP, hD⟩, hS.F ht⟩) hS.2.2 dX6_keep_10

theorem hdV_X6_back : yX6_back.cls = RX6 ∧ yX6_back.cls ≠ "java/lang/invoke/MethodHandle" ∧ yX6_back.cls ≠ "java/lang/invoke/VarHandle" ∧ (parseMethodDescriptor yX6_back.desc).map (fun d => d.parameters.length) = some 1 := by decide +kernel
set_option maxHeartbeats 4000000 in
set_option maxRecDepth 100000 in
theorem C_X6_back (l : Launch) (dC : Nat → ClassId) (dI : Nat → Nat → Nat) (cI cJ cZ : ClassId) (qa : Nat → Nat) (sz : Nat) (r_images : Nat → Int64) (r_asked : Int64) (n_likings : Nat → Int32) (n_day : Int32) (n_trust : Int32) (n_ill : Int32) (n_done : Int32) (p_befores : Nat → Int64) (p_known : Int32) (a1 : Int32) (r0 : Int32) (r_n_likings : Nat → Int32) (r_n_day : Int32) (r_n_trust : Int32) (r_n_ill : Int32) (r_n_done : Int32) (r_p_known : Int32) (hG : gX6_back r_images n_likings n_day n_trust n_ill n_done p_known a1 = some (r0, r_n_likings, r_n_day, r_n_trust, r_n_ill, r_n_done, r_p_known)) : Met l yX6_back wsX6_back ({ frames := 1, cells := 0, slots := 0, locals := 25 } : Room) (va_Pc [.ref (qa 0), .int a1] (wq_pw (dC, dI) [(cI, .int), (cJ, .long), (cZ, .boolean)] (wcRNP qa cI cJ cZ r_images r_asked n_likings n_day n_trust n_ill n_done p_befores p_known) sz)) (wq_Wi (dC, dI) r0 wq_tr (wcRNP qa cI cJ cZ r_images r_asked r_n_likings r_n_day r_n_trust r_n_ill r_n_done p_befores r_p_known) (va_A (wcRNP qa cI cJ cZ r_images r_asked n_likings n_day n_trust n_ill n_done p_befores p_known) sz)) 0 0 (va_A (wcRNP qa cI cJ cZ r_images r_asked n_likings n_day n_trust n_ill n_done p_befores p_known) sz) := by
  refine Met.ofW (cc := cX6_back) (maxL := 2) (ret := (some .int)) (by decide) rfl ?_
  intro p e s m args below meth c s₁ B hml hv
  obtain ⟨rfl, hsz, hP, hK, hD0, hE⟩ := hv
  have hx := B.exec
  have hb := B.bytes
  have hr := B.returns
  have hts := atoms_spec (ws := wsX6_back) B.pre
  have hown : s.vm.findClass RX6 = some m.cls := findClass_of_methodNamed B.named
  have hlocks := B.notSynchronized
  subst hsz
  have hD := hD0.self (sz := s.heap.size)
  generalize hAe : va_A (wcRNP qa cI cJ cZ r_images r_asked n_likings n_day n_trust n_ill n_done p_befores p_known) s.heap.size = A at hD hE ⊢
  have hA : ∀ q : Nat, s.heap.size ≤ q → A q := fun q h => by rw [← hAe]; exact Or.inr h
  have hS : va_S A s.heap s.heap [] := va_S.rf
  have hinX6 : ∀ w ∈ u_ws RX6 TX6 9, w ∈ wsX6_back := by decide +kernel
  have hinX0 : ∀ w ∈ u_ws RX0 TX0 5, w ∈ wsX6_back := by decide +kernel
  have k1 := hts (.fieldLink RX6 46 "DoorMornings" "images" "[J") (by decide +kernel)
  have k2 := hts (.constantLong RX6 44 (-1)) (by decide +kernel)
  have k3 := hts (.fieldLink RX6 19 "DoorMornings" "today" "LDoorMornings$Now;") (by decide +kernel)
  have k4 := hts (.fieldLink RX6 26 "DoorMornings" "past" "LDoorMornings$Past;") (by decide +kernel)
  have k5 := hts (.fieldLink RX6 109 "DoorMornings$Now" "day" "I") (by decide +kernel)
  have hl := lv_entry ([.ref (qa 0), .int a1]) (n := 2) (Nat.le_of_ble_eq_true rfl)
  rw [lg_entry_eq]
  generalize (lg_sl ([.ref (qa 0), .int a1]) ++ List.replicate (2 - (lg_sl ([.ref (qa 0), .int a1])).length) Slot.unset).toArray = ls at hl ⊢
  have hl : lv_has ls 2 [(0, .ref (qa 0)), (1, .int a1)] := hl
  unfold gX6_back at hG
  refine lv_iload_n hx hb dX6_back_0 rfl (lv_at hl 1 rfl) ?_
  refine lv_if_lt (tgt := 9) hx hb dX6_back_1 (by decide) (fun c1 => ?_) (fun c1 => ?_)
  · replace hG := wq_t c1 hG
    refine lv_iconst (v := (-1)) hx hb dX6_back_9 (by decide) ?_
    obtain ⟨e0, e1, e2, e3, e4, e5, e6⟩ := wq_j7 hG
    subst e0
    subst e1
    subst e2
    subst e3
    subst e4
    subst e5
    subst e6
    exact W.iret hx hb hr (fun t ht hW => ⟨⟨_, (), rfl, ⟨rfl, trivial⟩, by rw [ht]; exact hP, hD⟩, hS.F ht⟩) hS.2.2 dX6_back_10
  · replace hG := wq_f c1 hG
    refine lv_iload_n hx hb dX6_back_4 rfl (lv_at hl 1 rfl) ?_
    refine lv_iconst (v := 2) hx hb dX6_back_5 (by decide) ?_
    refine lv_icmp_lt (tgt := 11) hx hb dX6_back_6 (by decide) (fun c2 => ?_) (fun c2 => ?_)
    · replace hG := wq_t c2 hG
      refine lv_aload_n hx hb dX6_back_11 rfl (lv_at hl 0 rfl) ?_
      refine va_get (D := (dC, dI)) (ci := 6) (v := .ref (qa 15)) (C := RX6) (T := TX6) (N := 9) hx hb hts hinX6 hown hK hP 0 rfl rfl 5 (by decide) k1 (fun _ h9 => h9) rfl dX6_back_12 ?_
      refine lv_iload_n hx hb dX6_back_15 rfl (lv_at hl 1 rfl) ?_
      obtain ⟨h3, hG⟩ := wq_chk_s hG
      refine wq_lald (D := (dC, dI)) hx hb hK hP 1 1 rfl rfl h3 (Int32.toNatClampNeg a1) rfl dX6_back_16 ?_
      refine lv_ldc2 (v := (-1)) hx hb hown k2 dX6_back_17 ?_
      refine W.lcmp hx hb dX6_back_20 ?_
      refine lv_if_ne (tgt := 27) hx hb dX6_back_21 (by decide) (fun c4 => ?_) (fun c4 => ?_)
      · replace hG := wq_f c4 hG
        refine lv_aload_n hx hb dX6_back_27 rfl (lv_at hl 0 rfl) ?_
        refine va_get (D := (dC, dI)) (ci := 6) (v := .ref (qa 3)) (C := RX6) (T := TX6) (N := 9) hx hb hts hinX6 hown hK hP 0 rfl rfl 1 (by decide) k3 (fun _ h9 => h9) rfl dX6_back_28 ?_
        refine lv_aload_n hx hb dX6_back_31 rfl (lv_at hl 0 rfl) ?_
        refine va_get (D := (dC, dI)) (ci := 6) (v := .ref (qa 15)) (C := RX6) (T := TX6) (N := 9) hx hb hts hinX6 hown hK hP 0 rfl rfl 5 (by decide) k1 (fun _ h9 => h9) rfl dX6_back_32 ?_
        refine lv_iload_n hx hb dX6_back_35 rfl (lv_at hl 1 rfl) ?_
        refine wq_lald (D := (dC, dI)) hx hb hK hP 1 1 rfl rfl h3 (Int32.toNatClampNeg a1) rfl dX6_back_36 ?_
        obtain ⟨w6, w7, w8, w9, w10, g5, hG⟩ := wq_b5_s hG
        have hFc := va_free (wc := wcN qa cI cJ cZ n_likings n_day n_trust n_ill n_done) hD hS hA [2, 3] rfl
        refine wq_dv (D := (dC, dI)) (wr := wcRP qa cI cJ cZ r_images r_asked p_befores p_known) (w1 := wcN qa cI cJ cZ w6 w7 w8 w9 w10) (w2 := wcRNP qa cI cJ cZ r_images r_asked w6 w7 w8 w9 w10 p_befores p_known) (va_runV (As := [.long (r_images (Int32.toNatClampNeg a1))]) (rest := []) ⟨hx, hb, hml, hown, hts⟩ (C_X0_unfold l dC dI cI cJ cZ qa s.heap.size n_likings n_day n_trust n_ill n_done (r_images (Int32.toNatClampNeg a1)) w6 w7 w8 w9 w10 g5) (cwV 1 hts gX6_back_X0_unfold rfl rfl rfl hdV_X0_unfold ⟨Nat.le_of_ble_eq_true rfl, Nat.le_of_ble_eq_true rfl⟩) (wq_pwV hK (hP.sub (ws' := wcN qa cI cJ cZ n_likings n_day n_trust n_ill n_done) [2, 3] rfl) (hD.sub (ws' := wcN qa cI cJ cZ n_likings n_day n_trust n_ill n_done) [2, 3] (by decide) rfl) hE hS hFc (ci := 0) (q0 := 0) rfl rfl) rfl rfl hl.1 rfl (lv_room (Nat.le_of_ble_eq_true rfl)) dX6_back_37 ⟨Nat.zero_le _, Nat.zero_le _⟩) hP hD hS hFc [2, 3] [0, 1, 4, 5] [0, 1, 4, 5, 2, 3] rfl rfl (by decide) (by decide) (by decide) rfl (fun H locs hP hD hS => ?_)
        clear hFc
        refine lv_aload_n hx hb dX6_back_40 rfl (lv_at hl 0 rfl) ?_
        refine va_get (D := (dC, dI)) (ci := 6) (v := .ref (qa 5)) (C := RX6) (T := TX6) (N := 9) hx hb hts hinX6 hown hK hP 0 rfl rfl 2 (by decide) k4 (fun _ h9 => h9) rfl dX6_back_41 ?_
        obtain ⟨w12, g11, hG⟩ := wq_b1_s hG
        have hFc := va_free (wc := wcP qa cI cJ cZ p_befores p_known) hD hS hA [4, 5] rfl
        refine wq_dv (D := (dC, dI)) (wr := wcRN qa cI cJ cZ r_images r_asked w6 w7 w8 w9 w10) (w1 := wcP qa cI cJ cZ p_befores w12) (w2 := wcRNP qa cI cJ cZ r_images r_asked w6 w7 w8 w9 w10 p_befores w12) (va_runV (As := []) (rest := []) ⟨hx, hb, hml, hown, hts⟩ (C_X2_empty l dC dI cI cJ cZ qa H.size p_befores p_known  w12 g11) (cwV 0 hts gX6_back_X2_empty rfl rfl rfl hdV_X2_empty ⟨Nat.le_of_ble_eq_true rfl, Nat.le_of_ble_eq_true rfl⟩) (wq_pwV hK (hP.sub (ws' := wcP qa cI cJ cZ p_befores p_known) [4, 5] rfl) (hD.sub (ws' := wcP qa cI cJ cZ p_befores p_known) [4, 5] (by decide) rfl) hE hS hFc (ci := 2) (q0 := 0) rfl rfl) rfl rfl hl.1 rfl (lv_room (Nat.le_of_ble_eq_true rfl)) dX6_back_44 ⟨Nat.zero_le _, Nat.zero_le _⟩) hP hD hS hFc [4, 5] [0, 1, 2, 3] [0, 1, 2, 3, 4, 5] rfl rfl (by decide) (by decide) (by decide) rfl (fun H locs hP hD hS => ?_)
        clear hFc
        refine lv_aload_n hx hb dX6_back_47 rfl (lv_at hl 0 rfl) ?_
        refine va_get (D := (dC, dI)) (ci := 6) (v := .ref (qa 3)) (C := RX6) (T := TX6) (N := 9) hx hb hts hinX6 hown hK hP 0 rfl rfl 1 (by decide) k3 (fun _ h9 => h9) rfl dX6_back_48 ?_
        refine va_get (D := (dC, dI)) (ci := 0) (v := .int w7) (C := RX0) (T := TX0) (N := 5) hx hb hts hinX0 hown hK hP 2 rfl rfl 1 (by decide) k5 (fun _ h9 => h9) rfl dX6_back_51 ?_
        obtain ⟨e0, e1, e2, e3, e4, e5, e6⟩ := wq_j7 hG
        subst e0
        subst e1
        subst e2
        subst e3
        subst e4
        subst e5
        subst e6
        exact W.iret hx hb hr (fun t ht hW => ⟨⟨_, (), rfl, ⟨rfl, trivial⟩, by rw [ht]; exact hP, hD⟩, hS.F ht⟩) hS.2.2 dX6_back_54
      · replace hG := wq_t c4 hG
        refine lv_bipush (v := (-2)) hx hb dX6_back_24 (by decide) ?_
        obtain ⟨e0, e1, e2, e3, e4, e5, e6⟩ := wq_j7 hG
        subst e0
        subst e1
        subst e2
        subst e3
        subst e4
        subst e5
        subst e6
        exact W.iret hx hb hr (fun t ht hW => ⟨⟨_, (), rfl, ⟨rfl, trivial⟩, by rw [ht]; exact hP, hD⟩, hS.F ht⟩) hS.2.2 dX6_back_26
    · replace hG := wq_f c2 hG
      refine lv_iconst (v := (-1)) hx hb dX6_back_9 (by decide) ?_
      obtain ⟨e0, e1, e2, e3, e4, e5, e6⟩ := wq_j7 hG
      subst e0
      subst e1
      subst e2
      subst e3
      subst e4
      subst e5
      subst e6
      exact W.iret hx hb hr (fun t ht hW => ⟨⟨_, (), rfl, ⟨rfl, trivial⟩, by rw [ht]; exact hP, hD⟩, hS.F ht⟩) hS.2.2 dX6_back_10

theorem hdV_X6_count : yX6_count.cls = RX6 ∧ yX6_count.cls ≠ "java/lang/invoke/MethodHandle" ∧ yX6_count.cls ≠ "java/lang/invoke/VarHandle" ∧ (parseMethodDescriptor yX6_count.desc).map (fun d => d.parameters.length) = some 1 := by decide +kernel
set_option maxHeartbeats 4000000 in
set_option maxRecDepth 100000 in
theorem C_X6_count (l : Launch) (dC : Nat → ClassId) (dI : Nat → Nat → Nat) (cI cJ cZ : ClassId) (qa : Nat → Nat) (sz : Nat) (r_images : Nat → Int64) (r_asked : Int64) (x_letters : Nat → Int32) (x_size : Int32) (x_place : Int32) (x_fault : Int32) (x_stold : Int32) (h_tll : Nat → Int32) (h_beyond : Nat → Int32) (h_minutes : Nat → Int32) (h_size : Int32) (t_tears : Nat → Int32) (t_gains : Nat → Int32) (t_likings : Nat → Int32) (t_settings : Nat → Int32) (t_goodbyes : Int32) (t_women : Int32) (a1 : Int32) (r0 : Int32) (hG : gX6_count x_size h_size t_settings t_goodbyes t_women a1 = some r0) : Met l yX6_count wsX6_count ({ frames := 1, cells := 0, slots := 0, locals := 21 } : Room) (va_Pc [.ref (qa 0), .int a1] (wq_pp (dC, dI) [(cI, .int), (cJ, .long), (cZ, .boolean)] (wcRXST qa cI cJ cZ r_images r_asked x_letters x_size x_place x_fault x_stold h_tll h_beyond h_minutes h_size t_tears t_gains t_likings t_settings t_goodbyes t_women) sz)) (wq_Qi r0 wq_tr (va_A [] sz)) 0 0 (va_A [] sz) := by
  refine Met.ofW (cc := cX6_count) (maxL := 2) (ret := (some .int)) (by decide) rfl ?_
  intro p e s m args below meth c s₁ B hml hv
  obtain ⟨rfl, hsz, hP, hK, hE⟩ := hv
  have hx := B.exec
  have hb := B.bytes
  have hr := B.returns
  have hts := atoms_spec (ws := wsX6_count) B.pre
  have hown : s.vm.findClass RX6 = some m.cls := findClass_of_methodNamed B.named
  have hlocks := B.notSynchronized
  subst hsz
  generalize hAe : va_A [] s.heap.size = A at hE ⊢
  have hA : ∀ q : Nat, s.heap.size ≤ q → A q := fun q h => by rw [← hAe]; exact Or.inr h
  have hS : va_S A s.heap s.heap [] := va_S.rf
  have hinX6 : ∀ w ∈ u_ws RX6 TX6 9, w ∈ wsX6_count := by decide +kernel
  have hinX5 : ∀ w ∈ u_ws RX5 TX5 6, w ∈ wsX6_count := by decide +kernel
  have hinX3 : ∀ w ∈ u_ws RX3 TX3 4, w ∈ wsX6_count := by decide +kernel
  have hinX4 : ∀ w ∈ u_ws RX4 TX4 5, w ∈ wsX6_count := by decide +kernel
  have k1 := hts (.fieldLink RX6 53 "DoorMornings" "told" "LDoorMornings$Told;") (by decide +kernel)
  have k2 := hts (.fieldLink RX6 241 "DoorMornings$Told" "goodbyes" "I") (by decide +kernel)
  have k3 := hts (.fieldLink RX6 244 "DoorMornings$Told" "women" "I") (by decide +kernel)
  have k4 := hts (.fieldLink RX6 33 "DoorMornings" "shown" "LDoorMornings$Shown;") (by decide +kernel)
  have k5 := hts (.fieldLink RX6 247 "DoorMornings$Shown" "size" "I") (by decide +kernel)
  have k6 := hts (.fieldLink RX6 10 "DoorMornings" "text" "LDoorMornings$Text;") (by decide +kernel)
  have k7 := hts (.fieldLink RX6 250 "DoorMornings$Text" "size" "I") (by decide +kernel)
  have hl := lv_entry ([.ref (qa 0), .int a1]) (n := 2) (Nat.le_of_ble_eq_true rfl)
  rw [lg_entry_eq]
  generalize (lg_sl ([.ref (qa 0), .int a1]) ++ List.replicate (2 - (lg_sl ([.ref (qa 0), .int a1])).length) Slot.unset).toArray = ls at hl ⊢
  have hl : lv_has ls 2 [(0, .ref (qa 0)), (1, .int a1)] := hl
  unfold gX6_count at hG
  refine lv_iload_n hx hb dX6_count_0 rfl (lv_at hl 1 rfl) ?_
  by_cases c1 : a1 = 0
  · replace hG := wq_t c1 hG
    refine lv_tableIn (off := 47) (tgt := 48) hx hb dX6_count_1 (by rw [c1]; decide) (by rw [c1]; decide) (by rw [c1]; decide) (by decide) ?_
    refine lv_aload_n hx hb dX6_count_48 rfl (lv_at hl 0 rfl) ?_
    refine va_get (D := (dC, dI)) (ci := 6) (v := .ref (qa 16)) (C := RX6) (T := TX6) (N := 9) hx hb hts hinX6 hown hK hP 0 rfl rfl 6 (by decide) k1 (fun _ h9 => h9) rfl dX6_count_49 ?_
    refine va_get (D := (dC, dI)) (ci := 5) (v := .int t_goodbyes) (C := RX5) (T := TX5) (N := 6) hx hb hts hinX5 hown hK hP 8 rfl rfl 4 (by decide) k2 (fun _ h9 => h9) rfl dX6_count_52 ?_
    exact W.iret (v := t_goodbyes) hx hb hr (fun t ht hW => ⟨⟨t_goodbyes, (), rfl, ⟨Option.some.inj hG, trivial⟩, trivial⟩, hS.F ht⟩) hS.2.2 dX6_count_55
  · replace hG := wq_f c1 hG
    by_cases c2 : a1 = 1
    · replace hG := wq_t c2 hG
      refine lv_tableIn (off := 55) (tgt := 56) hx hb dX6_count_1 (by rw [c2]; decide) (by rw [c2]; decide) (by rw [c2]; decide) (by decide) ?_
      refine lv_aload_n hx hb dX6_count_56 rfl (lv_at hl 0 rfl) ?_
      refine va_get (D := (dC, dI)) (ci := 6) (v := .ref (qa 16)) (C := RX6) (T := TX6) (N := 9) hx hb hts hinX6 hown hK hP 0 rfl rfl 6 (by decide) k1 (fun _ h9 => h9) rfl dX6_count_57 ?_
      refine va_get (D := (dC, dI)) (ci := 5) (v := .int t_women) (C := RX5) (T := TX5) (N := 6) hx hb hts hinX5 hown hK hP 8 rfl rfl 5 (by decide) k3 (fun _ h9 => h9) rfl dX6_count_60 ?_
      exact W.iret (v := t_women) hx hb hr (fun t ht hW => ⟨⟨t_women, (), rfl, ⟨Option.some.inj hG, trivial⟩, trivial⟩, hS.F ht⟩) hS.2.2 dX6_count_63
    · replace hG := wq_f c2 hG
      by_cases c3 : a1 = 2
      · replace hG := wq_t c3 hG
        refine lv_tableIn (off := 63) (tgt := 64) hx hb dX6_count_1 (by rw [c3]; decide) (by rw [c3]; decide) (by rw [c3]; decide) (by decide) ?_
        refine lv_aload_n hx hb dX6_count_64 rfl (lv_at hl 0 rfl) ?_
        refine va_get (D := (dC, dI)) (ci := 6) (v := .ref (qa 16)) (C := RX6) (T := TX6) (N := 9) hx hb hts hinX6 hown hK hP 0 rfl rfl 6 (by decide) k1 (fun _ h9 => h9) rfl dX6_count_65 ?_
        refine lv_iconst (v := 0) hx hb dX6_count_68 (by decide) ?_
        obtain ⟨v5, g4, hG⟩ := wq_b1_s hG
        refine wq_ci (v := v5) (B := wq_tr) (va_runV (As := [.int 0]) (rest := []) ⟨hx, hb, hml, hown, hts⟩ (C_X5_setting l dC dI cI cJ cZ qa s.heap.size t_tears t_gains t_likings t_settings t_goodbyes t_women 0 v5 g4) (cwV 1 hts gX6_count_X5_setting rfl rfl rfl hdV_X5_setting ⟨Nat.le_of_ble_eq_true rfl, Nat.le_of_ble_eq_true rfl⟩) (wq_ppV hK (hP.sub (ws' := wcT qa cI cJ cZ t_tears t_gains t_likings t_settings t_goodbyes t_women) [8, 9, 10, 11, 12] rfl) hE hS hA (ci := 5) (q0 := 0) rfl rfl) rfl rfl hl.1 rfl (lv_room (Nat.le_of_ble_eq_true rfl)) dX6_count_69 ⟨Nat.zero_le _, Nat.zero_le _⟩) hS hA (fun H locs b6 hk hS => ?_)
        replace hP := wq_kp hP hk
        clear hk
        exact W.iret (v := v5) hx hb hr (fun t ht hW => ⟨⟨v5, (), rfl, ⟨Option.some.inj hG, trivial⟩, trivial⟩, hS.F ht⟩) hS.2.2 dX6_count_72
      · replace hG := wq_f c3 hG
        by_cases c7 : a1 = 3
        · replace hG := wq_t c7 hG
          refine lv_tableIn (off := 72) (tgt := 73) hx hb dX6_count_1 (by rw [c7]; decide) (by rw [c7]; decide) (by rw [c7]; decide) (by decide) ?_
          refine lv_aload_n hx hb dX6_count_73 rfl (lv_at hl 0 rfl) ?_
          refine va_get (D := (dC, dI)) (ci := 6) (v := .ref (qa 16)) (C := RX6) (T := TX6) (N := 9) hx hb hts hinX6 hown hK hP 0 rfl rfl 6 (by decide) k1 (fun _ h9 => h9) rfl dX6_count_74 ?_
          refine lv_iconst (v := 1) hx hb dX6_count_77 (by decide) ?_
          obtain ⟨v9, g8, hG⟩ := wq_b1_s hG
          refine wq_ci (v := v9) (B := wq_tr) (va_runV (As := [.int 1]) (rest := []) ⟨hx, hb, hml, hown, hts⟩ (C_X5_setting l dC dI cI cJ cZ qa s.heap.size t_tears t_gains t_likings t_settings t_goodbyes t_women 1 v9 g8) (cwV 1 hts gX6_count_X5_setting rfl rfl rfl hdV_X5_setting ⟨Nat.le_of_ble_eq_true rfl, Nat.le_of_ble_eq_true rfl⟩) (wq_ppV hK (hP.sub (ws' := wcT qa cI cJ cZ t_tears t_gains t_likings t_settings t_goodbyes t_women) [8, 9, 10, 11, 12] rfl) hE hS hA (ci := 5) (q0 := 0) rfl rfl) rfl rfl hl.1 rfl (lv_room (Nat.le_of_ble_eq_true rfl)) dX6_count_78 ⟨Nat.zero_le _, Nat.zero_le _⟩) hS hA (fun H locs b10 hk hS => ?_)
          replace hP := wq_kp hP hk
          clear hk
          exact W.iret (v := v9) hx hb hr (fun t ht hW => ⟨⟨v9, (), rfl, ⟨Option.some.inj hG, trivial⟩, trivial⟩, hS.F ht⟩) hS.2.2 dX6_count_81
        · replace hG := wq_f c7 hG
          by_cases c11 : a1 = 4
          · replace hG := wq_t c11 hG
            refine lv_tableIn (off := 81) (tgt := 82) hx hb dX6_count_1 (by rw [c11]; decide) (by rw [c11]; decide) (by rw [c11]; decide) (by decide) ?_
            refine lv_aload_n hx hb dX6_count_82 rfl (lv_at hl 0 rfl) ?_
            refine va_get (D := (dC, dI)) (ci := 6) (v := .ref (qa 16)) (C := RX6) (T := TX6) (N := 9) hx hb hts hinX6 hown hK hP 0 rfl rfl 6 (by decide) k1 (fun _ h9 => h9) rfl dX6_count_83 ?_
            refine lv_iconst (v := 2) hx hb dX6_count_86 (by decide) ?_
            obtain ⟨v13, g12, hG⟩ := wq_b1_s hG
            refine wq_ci (v := v13) (B := wq_tr) (va_runV (As := [.int 2]) (rest := []) ⟨hx, hb, hml, hown, hts⟩ (C_X5_setting l dC dI cI cJ cZ qa s.heap.size t_tears t_gains t_likings t_settings t_goodbyes t_women 2 v13 g12) (cwV 1 hts gX6_count_X5_setting rfl rfl rfl hdV_X5_setting ⟨Nat.le_of_ble_eq_true rfl, Nat.le_of_ble_eq_true rfl⟩) (wq_ppV hK (hP.sub (ws' := wcT qa cI cJ cZ t_tears t_gains t_likings t_settings t_goodbyes t_women) [8, 9, 10, 11, 12] rfl) hE hS hA (ci := 5) (q0 := 0) rfl rfl) rfl rfl hl.1 rfl (lv_room (Nat.le_of_ble_eq_true rfl)) dX6_count_87 ⟨Nat.zero_le _, Nat.zero_le _⟩) hS hA (fun H locs b14 hk hS => ?_)
            replace hP := wq_kp hP hk
            clear hk
            exact W.iret (v := v13) hx hb hr (fun t ht hW => ⟨⟨v13, (), rfl, ⟨Option.some.inj hG, trivial⟩, trivial⟩, hS.F ht⟩) hS.2.2 dX6_count_90
          · replace hG := wq_f c11 hG
            by_cases c15 : a1 = 5
            · replace hG := wq_t c15 hG
              refine lv_tableIn (off := 90) (tgt := 91) hx hb dX6_count_1 (by rw [c15]; decide) (by rw [c15]; decide) (by rw [c15]; decide) (by decide) ?_
              refine lv_aload_n hx hb dX6_count_91 rfl (lv_at hl 0 rfl) ?_
              refine va_get (D := (dC, dI)) (ci := 6) (v := .ref (qa 16)) (C := RX6) (T := TX6) (N := 9) hx hb hts hinX6 hown hK hP 0 rfl rfl 6 (by decide) k1 (fun _ h9 => h9) rfl dX6_count_92 ?_
              refine lv_iconst (v := 3) hx hb dX6_count_95 (by decide) ?_
              obtain ⟨v17, g16, hG⟩ := wq_b1_s hG
              refine wq_ci (v := v17) (B := wq_tr) (va_runV (As := [.int 3]) (rest := []) ⟨hx, hb, hml, hown, hts⟩ (C_X5_setting l dC dI cI cJ cZ qa s.heap.size t_tears t_gains t_likings t_settings t_goodbyes t_women 3 v17 g16) (cwV 1 hts gX6_count_X5_setting rfl rfl rfl hdV_X5_setting ⟨Nat.le_of_ble_eq_true rfl, Nat.le_of_ble_eq_true rfl⟩) (wq_ppV hK (hP.sub (ws' := wcT qa cI cJ cZ t_tears t_gains t_likings t_settings t_goodbyes t_women) [8, 9, 10, 11, 12] rfl) hE hS hA (ci := 5) (q0 := 0) rfl rfl) rfl rfl hl.1 rfl (lv_room (Nat.le_of_ble_eq_true rfl)) dX6_count_96 ⟨Nat.zero_le _, Nat.zero_le _⟩) hS hA (fun H locs b18 hk hS => ?_)
              replace hP := wq_kp hP hk
              clear hk
              exact W.iret (v := v17) hx hb hr (fun t ht hW => ⟨⟨v17, (), rfl, ⟨Option.some.inj hG, trivial⟩, trivial⟩, hS.F ht⟩) hS.2.2 dX6_count_99
            · replace hG := wq_f c15 hG
              by_cases c19 : a1 = 6
              · replace hG := wq_t c19 hG
                refine lv_tableIn (off := 99) (tgt := 100) hx hb dX6_count_1 (by rw [c19]; decide) (by rw [c19]; decide) (by rw [c19]; decide) (by decide) ?_
                refine lv_aload_n hx hb dX6_count_100 rfl (lv_at hl 0 rfl) ?_
                refine va_get (D := (dC, dI)) (ci := 6) (v := .ref (qa 7)) (C := RX6) (T := TX6) (N := 9) hx hb hts hinX6 hown hK hP 0 rfl rfl 3 (by decide) k4 (fun _ h9 => h9) rfl dX6_count_101 ?_
                refine va_get (D := (dC, dI)) (ci := 3) (v := .int h_size) (C := RX3) (T := TX3) (N := 4) hx hb hts hinX3 hown hK hP 4 rfl rfl 3 (by decide) k5 (fun _ h9 => h9) rfl dX6_count_104 ?_
                exact W.iret (v := h_size) hx hb hr (fun t ht hW => ⟨⟨h_size, (), rfl, ⟨Option.some.inj hG, trivial⟩, trivial⟩, hS.F ht⟩) hS.2.2 dX6_count_107
              · replace hG := wq_f c19 hG
                by_cases c20 : a1 = 7
                · replace hG := wq_t c20 hG
                  refine lv_tableIn (off := 107) (tgt := 108) hx hb dX6_count_1 (by rw [c20]; decide) (by rw [c20]; decide) (by rw [c20]; decide) (by decide) ?_
                  refine lv_aload_n hx hb dX6_count_108 rfl (lv_at hl 0 rfl) ?_
                  refine va_get (D := (dC, dI)) (ci := 6) (v := .ref (qa 1)) (C := RX6) (T := TX6) (N := 9) hx hb hts hinX6 hown hK hP 0 rfl rfl 0 (by decide) k6 (fun _ h9 => h9) rfl dX6_count_109 ?_
                  refine va_get (D := (dC, dI)) (ci := 4) (v := .int x_size) (C := RX4) (T := TX4) (N := 5) hx hb hts hinX4 hown hK hP 2 rfl rfl 1 (by decide) k7 (fun _ h9 => h9) rfl dX6_count_112 ?_
                  exact W.iret (v := x_size) hx hb hr (fun t ht hW => ⟨⟨x_size, (), rfl, ⟨Option.some.inj hG, trivial⟩, trivial⟩, hS.F ht⟩) hS.2.2 dX6_count_115
                · replace hG := wq_f c20 hG
                  refine lv_tableOut (tgt := 116) hx hb dX6_count_1 (by have e0 := lv_neT c1 (a := 0) (by decide); have e1 := lv_neT c2 (a := 1) (by decide); have e2 := lv_neT c3 (a := 2) (by decide); have e3 := lv_neT c7 (a := 3) (by decide); have e4 := lv_neT c11 (a := 4) (by decide); have e5 := lv_neT c15 (a := 5) (by decide); have e6 := lv_neT c19 (a := 6) (by decide); have e7 := lv_neT c20 (a := 7) (by decide); omega) (by decide) ?_
                  refine lv_iconst (v := (-1)) hx hb dX6_count_116 (by decide) ?_
                  exact W.iret (v := (-1)) hx hb hr (fun t ht hW => ⟨⟨(-1), (), rfl, ⟨Option.some.inj hG, trivial⟩, trivial⟩, hS.F ht⟩) hS.2.2 dX6_count_117

theorem hdV_X6_trace : yX6_trace.cls = RX6 ∧ yX6_trace.cls ≠ "java/lang/invoke/MethodHandle" ∧ yX6_trace.cls ≠ "java/lang/invoke/VarHandle" ∧ (parseMethodDescriptor yX6_trace.desc).map (fun d => d.parameters.length) = some 0 := by decide +kernel
set_option maxHeartbeats 4000000 in
set_option maxRecDepth 100000 in
theorem C_X6_trace (l : Launch) (dC : Nat → ClassId) (dI : Nat → Nat → Nat) (cI cJ cZ : ClassId) (qa : Nat → Nat) (sz : Nat) (r_images : Nat → Int64) (r_asked : Int64) (r0 : Int64) (hG : gX6_trace r_asked = some r0) : Met l yX6_trace wsX6_trace ({ frames := 0, cells := 0, slots := 0, locals := 0 } : Room) (va_Pc [.ref (qa 0)] (wq_pp (dC, dI) [(cI, .int), (cJ, .long), (cZ, .boolean)] (wcR qa cI cJ cZ r_images r_asked) sz)) (wq_Ql r0 (va_A [] sz)) 0 0 (va_A [] sz) := by
  refine Met.ofW (cc := cX6_trace) (maxL := 1) (ret := (some .long)) (by decide) rfl ?_
  intro p e s m args below meth c s₁ B hml hv
  obtain ⟨rfl, hsz, hP, hK, hE⟩ := hv
  have hx := B.exec
  have hb := B.bytes
  have hr := B.returns
  have hts := atoms_spec (ws := wsX6_trace) B.pre
  have hown : s.vm.findClass RX6 = some m.cls := findClass_of_methodNamed B.named
  have hlocks := B.notSynchronized
  subst hsz
  generalize hAe : va_A [] s.heap.size = A at hE ⊢
  have hA : ∀ q : Nat, s.heap.size ≤ q → A q := fun q h => by rw [← hAe]; exact Or.inr h
  have hS : va_S A s.heap s.heap [] := va_S.rf
  have hinX6 : ∀ w ∈ u_ws RX6 TX6 9, w ∈ wsX6_trace := by decide +kernel
  have k1 := hts (.fieldLink RX6 60 "DoorMornings" "asked" "J") (by decide +kernel)
  have hl := lv_entry ([.ref (qa 0)]) (n := 1) (Nat.le_of_ble_eq_true rfl)
  rw [lg_entry_eq]
  generalize (lg_sl ([.ref (qa 0)]) ++ List.replicate (1 - (lg_sl ([.ref (qa 0)])).length) Slot.unset).toArray = ls at hl ⊢
  have hl : lv_has ls 1 [(0, .ref (qa 0))] := hl
  unfold gX6_trace at hG
  refine lv_aload_n hx hb dX6_trace_0 rfl (lv_at hl 0 rfl) ?_
  refine va_get (D := (dC, dI)) (ci := 6) (v := .long r_asked) (C := RX6) (T := TX6) (N := 9) hx hb hts hinX6 hown hK hP 0 rfl rfl 8 (by decide) k1 (fun _ h9 => h9) rfl dX6_trace_1 ?_
  exact W.lret (v := r_asked) hx hb hr (fun t ht hW => ⟨⟨r_asked, (), rfl, Option.some.inj hG, trivial⟩, hS.F ht⟩) hS.2.2 dX6_trace_4

