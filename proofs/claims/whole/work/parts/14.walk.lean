theorem hdV_X5_reach : yX5_reach.cls = RX5 ∧ yX5_reach.cls ≠ "java/lang/invoke/MethodHandle" ∧ yX5_reach.cls ≠ "java/lang/invoke/VarHandle" ∧ (parseMethodDescriptor yX5_reach.desc).map (fun d => d.parameters.length) = some 3 := by decide +kernel
set_option maxHeartbeats 4000000 in
set_option maxRecDepth 100000 in
theorem C_X5_reach (l : Launch) (dC : Nat → ClassId) (dI : Nat → Nat → Nat) (cI cJ cZ : ClassId) (qa : Nat → Nat) (sz : Nat) (t_tears : Nat → Int32) (t_gains : Nat → Int32) (t_likings : Nat → Int32) (t_settings : Nat → Int32) (t_goodbyes : Int32) (t_women : Int32) (a1 : Int32) (a2 : Int32) (a3 : Int32) (r0 : Int32) (hG : gX5_reach t_tears t_settings t_goodbyes a1 a2 a3 = some r0) : Met l yX5_reach wsX5_reach ({ frames := 2, cells := 0, slots := 0, locals := 42 } : Room) (va_Pc [.ref (qa 16), .int a1, .int a2, .int a3] (wq_pp (dC, dI) [(cI, .int), (cJ, .long), (cZ, .boolean)] (wcT qa cI cJ cZ t_tears t_gains t_likings t_settings t_goodbyes t_women) sz)) (wq_Qi r0 wq_tr (va_A [] sz)) 0 0 (va_A [] sz) := by
  refine Met.ofW (cc := cX5_reach) (maxL := 5) (ret := (some .int)) (by decide) rfl ?_
  intro p e s m args below meth c s₁ B hml hv
  obtain ⟨rfl, hsz, hP, hK, hE⟩ := hv
  have hx := B.exec
  have hb := B.bytes
  have hr := B.returns
  have hts := atoms_spec (ws := wsX5_reach) B.pre
  have hown : s.vm.findClass RX5 = some m.cls := findClass_of_methodNamed B.named
  have hlocks := B.notSynchronized
  subst hsz
  generalize hAe : va_A [] s.heap.size = A at hE ⊢
  have hA : ∀ q : Nat, s.heap.size ≤ q → A q := fun q h => by rw [← hAe]; exact Or.inr h
  have hS : va_S A s.heap s.heap [] := va_S.rf
  have k1 := hts (.initialized RX6) (by decide +kernel)
  have k2 := hts (.static yX6_quotient) (by decide +kernel)
  have k3 := hts (.methodLink RX5 80 Lib.Math.min.name) (by decide +kernel)
  have k4 := hts (.static Lib.Math.min.name) (by decide +kernel)
  have k5 := hts (.initialized "java/lang/Math") (by decide +kernel)
  have k6 := hts (.code Lib.Math.min.name Lib.Math.min.code 2 (some .int)) (by decide +kernel)
  have hl := lv_entry ([.ref (qa 16), .int a1, .int a2, .int a3]) (n := 5) (Nat.le_of_ble_eq_true rfl)
  rw [lg_entry_eq]
  generalize (lg_sl ([.ref (qa 16), .int a1, .int a2, .int a3]) ++ List.replicate (5 - (lg_sl ([.ref (qa 16), .int a1, .int a2, .int a3])).length) Slot.unset).toArray = ls at hl ⊢
  have hl : lv_has ls 5 [(0, .ref (qa 16)), (1, .int a1), (2, .int a2), (3, .int a3)] := hl
  unfold gX5_reach at hG
  refine lv_aload_n hx hb dX5_reach_0 rfl (lv_at hl 0 rfl) ?_
  refine lv_iconst (v := 1) hx hb dX5_reach_1 (by decide) ?_
  obtain ⟨v2, g1, hG⟩ := wq_b1_s hG
  refine wq_ci (v := v2) (B := wq_tr) (va_runV (As := [.int 1]) (rest := []) ⟨hx, hb, hml, hown, hts⟩ (C_X5_setting l dC dI cI cJ cZ qa s.heap.size t_tears t_gains t_likings t_settings t_goodbyes t_women 1 v2 g1) (cwV 1 hts gX5_reach_X5_setting rfl rfl rfl hdV_X5_setting ⟨Nat.le_of_ble_eq_true rfl, Nat.le_of_ble_eq_true rfl⟩) (wq_ppV hK hP hE hS hA (ci := 5) (q0 := 0) rfl rfl) rfl rfl hl.1 rfl (lv_room (Nat.le_of_ble_eq_true rfl)) dX5_reach_2 ⟨Nat.zero_le _, Nat.zero_le _⟩) hS hA (fun H locs b3 hk hS => ?_)
  replace hP := wq_kp hP hk
  clear hk
  refine lv_iload_n hx hb dX5_reach_5 rfl (lv_at hl 3 rfl) ?_
  refine lv_iadd hx hb dX5_reach_6 ?_
  refine lv_aload_n hx hb dX5_reach_7 rfl (lv_at hl 0 rfl) ?_
  refine lv_iload_n hx hb dX5_reach_8 rfl (lv_at hl 1 rfl) ?_
  obtain ⟨v5, g4, hG⟩ := wq_b1_s hG
  refine wq_ci (v := v5) (B := wq_tr) (va_runV (As := [.int a1]) (rest := [.int (v2 + a3)]) ⟨hx, hb, hml, hown, hts⟩ (C_X5_tearsOf l dC dI cI cJ cZ qa H.size t_tears t_gains t_likings t_settings t_goodbyes t_women a1 v5 g4) (cwV 1 hts gX5_reach_X5_tearsOf rfl rfl rfl hdV_X5_tearsOf ⟨Nat.le_of_ble_eq_true rfl, Nat.le_of_ble_eq_true rfl⟩) (wq_ppV hK hP hE hS hA (ci := 5) (q0 := 0) rfl rfl) rfl rfl hl.1 rfl (lv_room (Nat.le_of_ble_eq_true rfl)) dX5_reach_9 ⟨Nat.zero_le _, Nat.zero_le _⟩) hS hA (fun H locs b6 hk hS => ?_)
  replace hP := wq_kp hP hk
  clear hk
  refine lv_isub hx hb dX5_reach_12 ?_
  refine lv_istore (lv' := [(4, .int ((v2 + a3) - v5)), (0, .ref (qa 16)), (1, .int a1), (2, .int a2), (3, .int a3)]) hx hb dX5_reach_13 hl (by decide) rfl (fun ls hl => ?_)
  refine lv_iload hx hb dX5_reach_15 (lv_at hl 0 rfl) ?_
  refine lv_if_ge (tgt := 22) hx hb dX5_reach_17 (by decide) (fun c7 => ?_) (fun c7 => ?_)
  · replace hG := wq_t c7 hG
    refine lv_bipush (v := 96) hx hb dX5_reach_22 (by decide) ?_
    refine lv_iconst (v := 2) hx hb dX5_reach_24 (by decide) ?_
    refine lv_iload_n hx hb dX5_reach_25 rfl (lv_at hl 3 rfl) ?_
    refine lv_imul hx hb dX5_reach_26 ?_
    refine lv_iload hx hb dX5_reach_27 (lv_at hl 0 rfl) ?_
    refine lv_aload_n hx hb dX5_reach_29 rfl (lv_at hl 1 rfl) ?_
    refine lv_iconst (v := 0) hx hb dX5_reach_30 (by decide) ?_
    obtain ⟨v9, g8, hG⟩ := wq_b1_s hG
    refine wq_ci (v := v9) (B := wq_tr) (va_runV (As := [.int 0]) (rest := [.int ((v2 + a3) - v5), .int (2 * a2), .int 96]) ⟨hx, hb, hml, hown, hts⟩ (C_X5_setting l dC dI cI cJ cZ qa H.size t_tears t_gains t_likings t_settings t_goodbyes t_women 0 v9 g8) (cwV 1 hts gX5_reach_X5_setting rfl rfl rfl hdV_X5_setting ⟨Nat.le_of_ble_eq_true rfl, Nat.le_of_ble_eq_true rfl⟩) (wq_ppV hK hP hE hS hA (ci := 5) (q0 := 0) rfl rfl) rfl rfl hl.1 rfl (lv_room (Nat.le_of_ble_eq_true rfl)) dX5_reach_31 ⟨Nat.zero_le _, Nat.zero_le _⟩) hS hA (fun H locs b10 hk hS => ?_)
    replace hP := wq_kp hP hk
    clear hk
    obtain ⟨v12, g11, hG⟩ := wq_b1_s hG
    refine wq_ci (v := v12) (B := wq_tr) (va_runSN (As := [.int ((v2 + a3) - v5), .int v9]) (rest := [.int (2 * a2), .int 96]) ⟨hx, hb, hml, hown, hts⟩ (C_X6_quotient l dC dI cI cJ cZ qa H.size  ((v2 + a3) - v5) v9 v12 g11) ⟨va_cnB 2 hts gX5_reach_X6_quotient_n83 rfl rfl rfl hE.1.2.2.2.2.2.2.2.2.2 k1 hdS_X6_quotient ⟨Nat.le_of_ble_eq_true rfl, Nat.le_of_ble_eq_true rfl⟩, k2, trivial⟩ (wq_ppS hK (hP.sub (ws' := []) [] rfl) hE hS hA) rfl rfl hl.1 rfl (lv_room (Nat.le_of_ble_eq_true rfl)) dX5_reach_34 ⟨Nat.zero_le _, Nat.zero_le _⟩) hS hA (fun H locs b13 hk hS => ?_)
    replace hP := wq_kp hP hk
    clear hk
    refine lv_iadd hx hb dX5_reach_37 ?_
    refine va_mmin (x := 96) (y := ((2 * a2) + v12)) hx hb (hml.trans hl.1.symm) hown k3 k4 k5 k6 (Nat.le_of_ble_eq_true rfl) (Nat.le_of_ble_eq_true rfl) (Nat.zero_le _) (Nat.zero_le _) dX5_reach_38 ?_
    exact W.iret (v := (if ((2 * a2) + v12) < 96 then ((2 * a2) + v12) else 96)) hx hb hr (fun t ht hW => ⟨⟨(if ((2 * a2) + v12) < 96 then ((2 * a2) + v12) else 96), (), rfl, ⟨Option.some.inj hG, trivial⟩, trivial⟩, hS.F ht⟩) hS.2.2 dX5_reach_41
  · replace hG := wq_f c7 hG
    refine lv_iconst (v := 0) hx hb dX5_reach_20 (by decide) ?_
    exact W.iret (v := 0) hx hb hr (fun t ht hW => ⟨⟨0, (), rfl, ⟨Option.some.inj hG, trivial⟩, trivial⟩, hS.F ht⟩) hS.2.2 dX5_reach_21

theorem hdV_X6_reachNow : yX6_reachNow.cls = RX6 ∧ yX6_reachNow.cls ≠ "java/lang/invoke/MethodHandle" ∧ yX6_reachNow.cls ≠ "java/lang/invoke/VarHandle" ∧ (parseMethodDescriptor yX6_reachNow.desc).map (fun d => d.parameters.length) = some 2 := by decide +kernel
set_option maxHeartbeats 4000000 in
set_option maxRecDepth 100000 in
theorem C_X6_reachNow (l : Launch) (dC : Nat → ClassId) (dI : Nat → Nat → Nat) (cI cJ cZ : ClassId) (qa : Nat → Nat) (sz : Nat) (r_images : Nat → Int64) (r_asked : Int64) (n_likings : Nat → Int32) (n_day : Int32) (n_trust : Int32) (n_ill : Int32) (n_done : Int32) (t_tears : Nat → Int32) (t_gains : Nat → Int32) (t_likings : Nat → Int32) (t_settings : Nat → Int32) (t_goodbyes : Int32) (t_women : Int32) (a1 : Int32) (a2 : Int32) (r0 : Int32) (hG : gX6_reachNow n_likings n_trust t_tears t_settings t_goodbyes a1 a2 = some r0) : Met l yX6_reachNow wsX6_reachNow ({ frames := 3, cells := 0, slots := 0, locals := 66 } : Room) (va_Pc [.ref (qa 0), .int a1, .int a2] (wq_pp (dC, dI) [(cI, .int), (cJ, .long), (cZ, .boolean)] (wcRNT qa cI cJ cZ r_images r_asked n_likings n_day n_trust n_ill n_done t_tears t_gains t_likings t_settings t_goodbyes t_women) sz)) (wq_Qi r0 wq_tr (va_A [] sz)) 0 0 (va_A [] sz) := by
  refine Met.ofW (cc := cX6_reachNow) (maxL := 3) (ret := (some .int)) (by decide) rfl ?_
  intro p e s m args below meth c s₁ B hml hv
  obtain ⟨rfl, hsz, hP, hK, hE⟩ := hv
  have hx := B.exec
  have hb := B.bytes
  have hr := B.returns
  have hts := atoms_spec (ws := wsX6_reachNow) B.pre
  have hown : s.vm.findClass RX6 = some m.cls := findClass_of_methodNamed B.named
  have hlocks := B.notSynchronized
  subst hsz
  generalize hAe : va_A [] s.heap.size = A at hE ⊢
  have hA : ∀ q : Nat, s.heap.size ≤ q → A q := fun q h => by rw [← hAe]; exact Or.inr h
  have hS : va_S A s.heap s.heap [] := va_S.rf
  have hinX6 : ∀ w ∈ u_ws RX6 TX6 9, w ∈ wsX6_reachNow := by decide +kernel
  have hinX0 : ∀ w ∈ u_ws RX0 TX0 5, w ∈ wsX6_reachNow := by decide +kernel
  have k1 := hts (.fieldLink RX6 53 "DoorMornings" "told" "LDoorMornings$Told;") (by decide +kernel)
  have k2 := hts (.fieldLink RX6 19 "DoorMornings" "today" "LDoorMornings$Now;") (by decide +kernel)
  have k3 := hts (.fieldLink RX6 113 "DoorMornings$Now" "trust" "I") (by decide +kernel)
  have hl := lv_entry ([.ref (qa 0), .int a1, .int a2]) (n := 3) (Nat.le_of_ble_eq_true rfl)
  rw [lg_entry_eq]
  generalize (lg_sl ([.ref (qa 0), .int a1, .int a2]) ++ List.replicate (3 - (lg_sl ([.ref (qa 0), .int a1, .int a2])).length) Slot.unset).toArray = ls at hl ⊢
  have hl : lv_has ls 3 [(0, .ref (qa 0)), (1, .int a1), (2, .int a2)] := hl
  unfold gX6_reachNow at hG
  refine lv_aload_n hx hb dX6_reachNow_0 rfl (lv_at hl 0 rfl) ?_
  refine va_get (D := (dC, dI)) (ci := 6) (v := .ref (qa 16)) (C := RX6) (T := TX6) (N := 9) hx hb hts hinX6 hown hK hP 0 rfl rfl 6 (by decide) k1 (fun _ h9 => h9) rfl dX6_reachNow_1 ?_
  refine lv_iload_n hx hb dX6_reachNow_4 rfl (lv_at hl 1 rfl) ?_
  refine lv_aload_n hx hb dX6_reachNow_5 rfl (lv_at hl 0 rfl) ?_
  refine va_get (D := (dC, dI)) (ci := 6) (v := .ref (qa 3)) (C := RX6) (T := TX6) (N := 9) hx hb hts hinX6 hown hK hP 0 rfl rfl 1 (by decide) k2 (fun _ h9 => h9) rfl dX6_reachNow_6 ?_
  refine va_get (D := (dC, dI)) (ci := 0) (v := .int n_trust) (C := RX0) (T := TX0) (N := 5) hx hb hts hinX0 hown hK hP 2 rfl rfl 2 (by decide) k3 (fun _ h9 => h9) rfl dX6_reachNow_9 ?_
  refine lv_aload_n hx hb dX6_reachNow_12 rfl (lv_at hl 0 rfl) ?_
  refine va_get (D := (dC, dI)) (ci := 6) (v := .ref (qa 3)) (C := RX6) (T := TX6) (N := 9) hx hb hts hinX6 hown hK hP 0 rfl rfl 1 (by decide) k2 (fun _ h9 => h9) rfl dX6_reachNow_13 ?_
  refine lv_iload_n hx hb dX6_reachNow_16 rfl (lv_at hl 2 rfl) ?_
  obtain ⟨v2, g1, hG⟩ := wq_b1_s hG
  refine wq_ci (v := v2) (B := wq_tr) (va_runV (As := [.int a2]) (rest := [.int n_trust, .int a1, .ref (qa 16)]) ⟨hx, hb, hml, hown, hts⟩ (C_X0_likingOf l dC dI cI cJ cZ qa s.heap.size n_likings n_day n_trust n_ill n_done a2 v2 g1) (cwV 1 hts gX6_reachNow_X0_likingOf rfl rfl rfl hdV_X0_likingOf ⟨Nat.le_of_ble_eq_true rfl, Nat.le_of_ble_eq_true rfl⟩) (wq_ppV hK (hP.sub (ws' := wcN qa cI cJ cZ n_likings n_day n_trust n_ill n_done) [2, 3] rfl) hE hS hA (ci := 0) (q0 := 0) rfl rfl) rfl rfl hl.1 rfl (lv_room (Nat.le_of_ble_eq_true rfl)) dX6_reachNow_17 ⟨Nat.zero_le _, Nat.zero_le _⟩) hS hA (fun H locs b3 hk hS => ?_)
  replace hP := wq_kp hP hk
  clear hk
  obtain ⟨v5, g4, hG⟩ := wq_b1_s hG
  refine wq_ci (v := v5) (B := wq_tr) (va_runV (As := [.int a1, .int n_trust, .int v2]) (rest := []) ⟨hx, hb, hml, hown, hts⟩ (C_X5_reach l dC dI cI cJ cZ qa H.size t_tears t_gains t_likings t_settings t_goodbyes t_women a1 n_trust v2 v5 g4) (cwV 3 hts gX6_reachNow_X5_reach rfl rfl rfl hdV_X5_reach ⟨Nat.le_of_ble_eq_true rfl, Nat.le_of_ble_eq_true rfl⟩) (wq_ppV hK (hP.sub (ws' := wcT qa cI cJ cZ t_tears t_gains t_likings t_settings t_goodbyes t_women) [4, 5, 6, 7, 8] rfl) hE hS hA (ci := 5) (q0 := 0) rfl rfl) rfl rfl hl.1 rfl (lv_room (Nat.le_of_ble_eq_true rfl)) dX6_reachNow_20 ⟨Nat.zero_le _, Nat.zero_le _⟩) hS hA (fun H locs b6 hk hS => ?_)
  replace hP := wq_kp hP hk
  clear hk
  exact W.iret (v := v5) hx hb hr (fun t ht hW => ⟨⟨v5, (), rfl, ⟨Option.some.inj hG, trivial⟩, trivial⟩, hS.F ht⟩) hS.2.2 dX6_reachNow_23

theorem hdV_X6_bestGoodbye : yX6_bestGoodbye.cls = RX6 ∧ yX6_bestGoodbye.cls ≠ "java/lang/invoke/MethodHandle" ∧ yX6_bestGoodbye.cls ≠ "java/lang/invoke/VarHandle" ∧ (parseMethodDescriptor yX6_bestGoodbye.desc).map (fun d => d.parameters.length) = some 1 := by decide +kernel
set_option maxHeartbeats 4000000 in
set_option maxRecDepth 100000 in
theorem C_X6_bestGoodbye (l : Launch) (dC : Nat → ClassId) (dI : Nat → Nat → Nat) (cI cJ cZ : ClassId) (qa : Nat → Nat) (sz : Nat) (r_images : Nat → Int64) (r_asked : Int64) (n_likings : Nat → Int32) (n_day : Int32) (n_trust : Int32) (n_ill : Int32) (n_done : Int32) (t_tears : Nat → Int32) (t_gains : Nat → Int32) (t_likings : Nat → Int32) (t_settings : Nat → Int32) (t_goodbyes : Int32) (t_women : Int32) (a1 : Int32) (r0 : Int32) (hG : gX6_bestGoodbye n_likings n_trust t_tears t_gains t_settings t_goodbyes a1 = some r0) : Met l yX6_bestGoodbye wsX6_bestGoodbye ({ frames := 4, cells := 0, slots := 0, locals := 88 } : Room) (va_Pc [.ref (qa 0), .int a1] (wq_pp (dC, dI) [(cI, .int), (cJ, .long), (cZ, .boolean)] (wcRNT qa cI cJ cZ r_images r_asked n_likings n_day n_trust n_ill n_done t_tears t_gains t_likings t_settings t_goodbyes t_women) sz)) (wq_Qi r0 wq_tr (va_A [] sz)) 0 0 (va_A [] sz) := by
  refine Met.ofW (cc := cX6_bestGoodbye) (maxL := 7) (ret := (some .int)) (by decide) rfl ?_
  intro p e s m args below meth c s₁ B hml hv
  obtain ⟨rfl, hsz, hP, hK, hE⟩ := hv
  have hx := B.exec
  have hb := B.bytes
  have hr := B.returns
  have hts := atoms_spec (ws := wsX6_bestGoodbye) B.pre
  have hown : s.vm.findClass RX6 = some m.cls := findClass_of_methodNamed B.named
  have hlocks := B.notSynchronized
  subst hsz
  generalize hAe : va_A [] s.heap.size = A at hE ⊢
  have hA : ∀ q : Nat, s.heap.size ≤ q → A q := fun q h => by rw [← hAe]; exact Or.inr h
  have hS : va_S A s.heap s.heap [] := va_S.rf
  have hinX6 : ∀ w ∈ u_ws RX6 TX6 9, w ∈ wsX6_bestGoodbye := by decide +kernel
  have hinX5 : ∀ w ∈ u_ws RX5 TX5 6, w ∈ wsX6_bestGoodbye := by decide +kernel
  have k1 := hts (.fieldLink RX6 53 "DoorMornings" "told" "LDoorMornings$Told;") (by decide +kernel)
  have k2 := hts (.fieldLink RX6 241 "DoorMornings$Told" "goodbyes" "I") (by decide +kernel)
  have hl := lv_entry ([.ref (qa 0), .int a1]) (n := 7) (Nat.le_of_ble_eq_true rfl)
  rw [lg_entry_eq]
  generalize (lg_sl ([.ref (qa 0), .int a1]) ++ List.replicate (7 - (lg_sl ([.ref (qa 0), .int a1])).length) Slot.unset).toArray = ls at hl ⊢
  have hl : lv_has ls 7 [(0, .ref (qa 0)), (1, .int a1)] := hl
  have hL8 : ∀  (n : Nat) (x2 : Int32) (x3 : Int32) (x4 : Int32) (H : Heap) (locs : List Loc) (ls : Array Slot), gX6_bestGoodbye_L8 n_likings n_trust t_tears t_gains t_settings t_goodbyes a1 n x2 x3 x4 = some r0 → va_P (dC, dI) vwCl (wcRNT qa cI cJ cZ r_images r_asked n_likings n_day n_trust n_ill n_done t_tears t_gains t_likings t_settings t_goodbyes t_women) H → va_S A s.heap H locs → lv_has ls 7 [(0, .ref (qa 0)), (1, .int a1), (2, .int x2), (3, .int x3), (4, .int x4)] → W p l e (headSpec wsX6_bestGoodbye ({ frames := 4, cells := 0, slots := 0, locals := 88 } : Room)).room s m ([.ref (qa 0), .int a1] : List Value).toArray below meth c H locs 0 0 (MQ below (wq_Qi r0 wq_tr A) ([.ref (qa 0), .int a1] : List Value).toArray s 0 0 A) (F0 m 8 ls []) := by
    intro  n
    induction n with
    | zero =>
      intro x2 x3 x4 H locs ls hG
      exact absurd (show (none : Option (Int32)) = some r0 from hG) (by intro h9; cases h9)
    | succ n ih8 =>
      intro x2 x3 x4 H locs ls hG hP hS hl
      rw [gX6_bestGoodbye_L8] at hG
      refine lv_iload hx hb dX6_bestGoodbye_8 (lv_at hl 4 rfl) ?_
      refine lv_aload_n hx hb dX6_bestGoodbye_10 rfl (lv_at hl 0 rfl) ?_
      refine va_get (D := (dC, dI)) (ci := 6) (v := .ref (qa 16)) (C := RX6) (T := TX6) (N := 9) hx hb hts hinX6 hown hK hP 0 rfl rfl 6 (by decide) k1 (fun _ h9 => h9) rfl dX6_bestGoodbye_11 ?_
      refine va_get (D := (dC, dI)) (ci := 5) (v := .int t_goodbyes) (C := RX5) (T := TX5) (N := 6) hx hb hts hinX5 hown hK hP 4 rfl rfl 4 (by decide) k2 (fun _ h9 => h9) rfl dX6_bestGoodbye_14 ?_
      refine lv_icmp_ge (tgt := 91) hx hb dX6_bestGoodbye_17 (by decide) (fun c1 => ?_) (fun c1 => ?_)
      · replace hG := wq_t c1 hG
        refine lv_iload_n hx hb dX6_bestGoodbye_91 rfl (lv_at hl 2 rfl) ?_
        exact W.iret (v := x2) hx hb hr (fun t ht hW => ⟨⟨x2, (), rfl, ⟨Option.some.inj hG, trivial⟩, trivial⟩, hS.F ht⟩) hS.2.2 dX6_bestGoodbye_92
      · replace hG := wq_f c1 hG
        refine lv_aload_n hx hb dX6_bestGoodbye_20 rfl (lv_at hl 0 rfl) ?_
        refine lv_iload hx hb dX6_bestGoodbye_21 (lv_at hl 4 rfl) ?_
        refine lv_iload_n hx hb dX6_bestGoodbye_23 rfl (lv_at hl 1 rfl) ?_
        obtain ⟨v3, g2, hG⟩ := wq_b1_s hG
        refine wq_ci (v := v3) (B := wq_tr) (va_runV (As := [.int x4, .int a1]) (rest := []) ⟨hx, hb, hml, hown, hts⟩ (C_X6_reachNow l dC dI cI cJ cZ qa H.size r_images r_asked n_likings n_day n_trust n_ill n_done t_tears t_gains t_likings t_settings t_goodbyes t_women x4 a1 v3 g2) (cwV 2 hts gX6_bestGoodbye_X6_reachNow rfl rfl rfl hdV_X6_reachNow ⟨Nat.le_of_ble_eq_true rfl, Nat.le_of_ble_eq_true rfl⟩) (wq_ppV hK hP hE hS hA (ci := 6) (q0 := 0) rfl rfl) rfl rfl hl.1 rfl (lv_room (Nat.le_of_ble_eq_true rfl)) dX6_bestGoodbye_24 ⟨Nat.zero_le _, Nat.zero_le _⟩) hS hA (fun H locs b4 hk hS => ?_)
        replace hP := wq_kp hP hk
        clear hk
        refine lv_istore (lv' := [(5, .int v3), (0, .ref (qa 0)), (1, .int a1), (2, .int x2), (3, .int x3), (4, .int x4)]) hx hb dX6_bestGoodbye_27 hl (by decide) rfl (fun ls hl => ?_)
        refine lv_iload hx hb dX6_bestGoodbye_29 (lv_at hl 0 rfl) ?_
        refine lv_iload_n hx hb dX6_bestGoodbye_31 rfl (lv_at hl 4 rfl) ?_
        refine lv_icmp_ne (tgt := 65) hx hb dX6_bestGoodbye_32 (by decide) (fun c5 => ?_) (fun c5 => ?_)
        · replace hG := wq_f c5 hG
          refine lv_iconst (v := 0) hx hb dX6_bestGoodbye_65 (by decide) ?_
          refine lv_istore (lv' := [(6, .int 0), (5, .int v3), (0, .ref (qa 0)), (1, .int a1), (2, .int x2), (3, .int x3), (4, .int x4)]) hx hb dX6_bestGoodbye_66 hl (by decide) rfl (fun ls hl => ?_)
          refine lv_iload hx hb dX6_bestGoodbye_68 (lv_at hl 1 rfl) ?_
          refine lv_iload_n hx hb dX6_bestGoodbye_70 rfl (lv_at hl 5 rfl) ?_
          refine lv_icmp_gt (tgt := 79) hx hb dX6_bestGoodbye_71 (by decide) (fun c6 => ?_) (fun c6 => ?_)
          · replace hG := wq_t c6 hG
            refine lv_iload hx hb dX6_bestGoodbye_79 (lv_at hl 6 rfl) ?_
            refine lv_istore_n (lv' := [(2, .int x4), (6, .int 0), (5, .int v3), (0, .ref (qa 0)), (1, .int a1), (3, .int x3), (4, .int x4)]) hx hb dX6_bestGoodbye_81 rfl hl (by decide) rfl (fun ls hl => ?_)
            refine lv_iload hx hb dX6_bestGoodbye_82 (lv_at hl 2 rfl) ?_
            refine lv_istore_n (lv' := [(3, .int v3), (2, .int x4), (6, .int 0), (5, .int v3), (0, .ref (qa 0)), (1, .int a1), (4, .int x4)]) hx hb dX6_bestGoodbye_84 rfl hl (by decide) rfl (fun ls hl => ?_)
            refine lv_iinc (v := (x4 + 1)) (lv' := [(4, .int (x4 + 1)), (3, .int v3), (2, .int x4), (6, .int 0), (5, .int v3), (0, .ref (qa 0)), (1, .int a1)]) hx hb dX6_bestGoodbye_85 hl (k := 6) rfl rfl (by decide) rfl (fun ls hl => ?_)
            refine lv_goto (tgt := 8) hx hb dX6_bestGoodbye_88 (by decide) ?_
            exact ih8 x4 v3 (x4 + 1) _ _ _ hG hP hS (lv_sub hl [5, 6, 2, 1, 0] rfl)
          · replace hG := wq_f c6 hG
            refine lv_iload hx hb dX6_bestGoodbye_74 (lv_at hl 0 rfl) ?_
            refine lv_if_eq (tgt := 85) hx hb dX6_bestGoodbye_76 (by decide) (fun c7 => ?_) (fun c7 => absurd (by decide) c7)
            refine lv_iinc (v := (x4 + 1)) (lv' := [(4, .int (x4 + 1)), (6, .int 0), (5, .int v3), (0, .ref (qa 0)), (1, .int a1), (2, .int x2), (3, .int x3)]) hx hb dX6_bestGoodbye_85 hl (k := 6) rfl rfl (by decide) rfl (fun ls hl => ?_)
            refine lv_goto (tgt := 8) hx hb dX6_bestGoodbye_88 (by decide) ?_
            exact ih8 x2 x3 (x4 + 1) _ _ _ hG hP hS (lv_sub hl [3, 4, 5, 6, 0] rfl)
        · replace hG := wq_t c5 hG
          refine lv_iload_n hx hb dX6_bestGoodbye_35 rfl (lv_at hl 3 rfl) ?_
          refine lv_bipush (v := (-9)) hx hb dX6_bestGoodbye_36 (by decide) ?_
          refine lv_icmp_eq (tgt := 65) hx hb dX6_bestGoodbye_38 (by decide) (fun c8 => ?_) (fun c8 => ?_)
          · replace hG := wq_t c8 hG
            refine lv_iconst (v := 0) hx hb dX6_bestGoodbye_65 (by decide) ?_
            refine lv_istore (lv' := [(6, .int 0), (5, .int v3), (0, .ref (qa 0)), (1, .int a1), (2, .int x2), (3, .int x3), (4, .int x4)]) hx hb dX6_bestGoodbye_66 hl (by decide) rfl (fun ls hl => ?_)
            refine lv_iload hx hb dX6_bestGoodbye_68 (lv_at hl 1 rfl) ?_
            refine lv_iload_n hx hb dX6_bestGoodbye_70 rfl (lv_at hl 5 rfl) ?_
            refine lv_icmp_gt (tgt := 79) hx hb dX6_bestGoodbye_71 (by decide) (fun c9 => ?_) (fun c9 => ?_)
            · replace hG := wq_t c9 hG
              refine lv_iload hx hb dX6_bestGoodbye_79 (lv_at hl 6 rfl) ?_
              refine lv_istore_n (lv' := [(2, .int x4), (6, .int 0), (5, .int v3), (0, .ref (qa 0)), (1, .int a1), (3, .int x3), (4, .int x4)]) hx hb dX6_bestGoodbye_81 rfl hl (by decide) rfl (fun ls hl => ?_)
              refine lv_iload hx hb dX6_bestGoodbye_82 (lv_at hl 2 rfl) ?_
              refine lv_istore_n (lv' := [(3, .int v3), (2, .int x4), (6, .int 0), (5, .int v3), (0, .ref (qa 0)), (1, .int a1), (4, .int x4)]) hx hb dX6_bestGoodbye_84 rfl hl (by decide) rfl (fun ls hl => ?_)
              refine lv_iinc (v := (x4 + 1)) (lv' := [(4, .int (x4 + 1)), (3, .int v3), (2, .int x4), (6, .int 0), (5, .int v3), (0, .ref (qa 0)), (1, .int a1)]) hx hb dX6_bestGoodbye_85 hl (k := 6) rfl rfl (by decide) rfl (fun ls hl => ?_)
              refine lv_goto (tgt := 8) hx hb dX6_bestGoodbye_88 (by decide) ?_
              exact ih8 x4 v3 (x4 + 1) _ _ _ hG hP hS (lv_sub hl [5, 6, 2, 1, 0] rfl)
            · replace hG := wq_f c9 hG
              refine lv_iload hx hb dX6_bestGoodbye_74 (lv_at hl 0 rfl) ?_
              refine lv_if_eq (tgt := 85) hx hb dX6_bestGoodbye_76 (by decide) (fun c10 => ?_) (fun c10 => absurd (by decide) c10)
              refine lv_iinc (v := (x4 + 1)) (lv' := [(4, .int (x4 + 1)), (6, .int 0), (5, .int v3), (0, .ref (qa 0)), (1, .int a1), (2, .int x2), (3, .int x3)]) hx hb dX6_bestGoodbye_85 hl (k := 6) rfl rfl (by decide) rfl (fun ls hl => ?_)
              refine lv_goto (tgt := 8) hx hb dX6_bestGoodbye_88 (by decide) ?_
              exact ih8 x2 x3 (x4 + 1) _ _ _ hG hP hS (lv_sub hl [3, 4, 5, 6, 0] rfl)
          · replace hG := wq_f c8 hG
            refine lv_aload_n hx hb dX6_bestGoodbye_41 rfl (lv_at hl 1 rfl) ?_
            refine va_get (D := (dC, dI)) (ci := 6) (v := .ref (qa 16)) (C := RX6) (T := TX6) (N := 9) hx hb hts hinX6 hown hK hP 0 rfl rfl 6 (by decide) k1 (fun _ h9 => h9) rfl dX6_bestGoodbye_42 ?_
            refine lv_iload hx hb dX6_bestGoodbye_45 (lv_at hl 5 rfl) ?_
            obtain ⟨v12, g11, hG⟩ := wq_b1_s hG
            refine wq_ci (v := v12) (B := wq_tr) (va_runV (As := [.int x4]) (rest := []) ⟨hx, hb, hml, hown, hts⟩ (C_X5_gainOf l dC dI cI cJ cZ qa H.size t_tears t_gains t_likings t_settings t_goodbyes t_women x4 v12 g11) (cwV 1 hts gX6_bestGoodbye_X5_gainOf rfl rfl rfl hdV_X5_gainOf ⟨Nat.le_of_ble_eq_true rfl, Nat.le_of_ble_eq_true rfl⟩) (wq_ppV hK (hP.sub (ws' := wcT qa cI cJ cZ t_tears t_gains t_likings t_settings t_goodbyes t_women) [4, 5, 6, 7, 8] rfl) hE hS hA (ci := 5) (q0 := 0) rfl rfl) rfl rfl hl.1 rfl (lv_room (Nat.le_of_ble_eq_true rfl)) dX6_bestGoodbye_47 ⟨Nat.zero_le _, Nat.zero_le _⟩) hS hA (fun H locs b13 hk hS => ?_)
            replace hP := wq_kp hP hk
            clear hk
            refine lv_aload_n hx hb dX6_bestGoodbye_50 rfl (lv_at hl 1 rfl) ?_
            refine va_get (D := (dC, dI)) (ci := 6) (v := .ref (qa 16)) (C := RX6) (T := TX6) (N := 9) hx hb hts hinX6 hown hK hP 0 rfl rfl 6 (by decide) k1 (fun _ h9 => h9) rfl dX6_bestGoodbye_51 ?_
            refine lv_iload_n hx hb dX6_bestGoodbye_54 rfl (lv_at hl 3 rfl) ?_
            obtain ⟨v15, g14, hG⟩ := wq_b1_s hG
            refine wq_ci (v := v15) (B := wq_tr) (va_runV (As := [.int x2]) (rest := [.int v12]) ⟨hx, hb, hml, hown, hts⟩ (C_X5_gainOf l dC dI cI cJ cZ qa H.size t_tears t_gains t_likings t_settings t_goodbyes t_women x2 v15 g14) (cwV 1 hts gX6_bestGoodbye_X5_gainOf rfl rfl rfl hdV_X5_gainOf ⟨Nat.le_of_ble_eq_true rfl, Nat.le_of_ble_eq_true rfl⟩) (wq_ppV hK (hP.sub (ws' := wcT qa cI cJ cZ t_tears t_gains t_likings t_settings t_goodbyes t_women) [4, 5, 6, 7, 8] rfl) hE hS hA (ci := 5) (q0 := 0) rfl rfl) rfl rfl hl.1 rfl (lv_room (Nat.le_of_ble_eq_true rfl)) dX6_bestGoodbye_55 ⟨Nat.zero_le _, Nat.zero_le _⟩) hS hA (fun H locs b16 hk hS => ?_)
            replace hP := wq_kp hP hk
            clear hk
            refine lv_icmp_le (tgt := 65) hx hb dX6_bestGoodbye_58 (by decide) (fun c17 => ?_) (fun c17 => ?_)
            · replace hG := wq_t c17 hG
              refine lv_iconst (v := 0) hx hb dX6_bestGoodbye_65 (by decide) ?_
              refine lv_istore (lv' := [(6, .int 0), (5, .int v3), (0, .ref (qa 0)), (1, .int a1), (2, .int x2), (3, .int x3), (4, .int x4)]) hx hb dX6_bestGoodbye_66 hl (by decide) rfl (fun ls hl => ?_)
              refine lv_iload hx hb dX6_bestGoodbye_68 (lv_at hl 1 rfl) ?_
              refine lv_iload_n hx hb dX6_bestGoodbye_70 rfl (lv_at hl 5 rfl) ?_
              refine lv_icmp_gt (tgt := 79) hx hb dX6_bestGoodbye_71 (by decide) (fun c18 => ?_) (fun c18 => ?_)
              · replace hG := wq_t c18 hG
                refine lv_iload hx hb dX6_bestGoodbye_79 (lv_at hl 6 rfl) ?_
                refine lv_istore_n (lv' := [(2, .int x4), (6, .int 0), (5, .int v3), (0, .ref (qa 0)), (1, .int a1), (3, .int x3), (4, .int x4)]) hx hb dX6_bestGoodbye_81 rfl hl (by decide) rfl (fun ls hl => ?_)
                refine lv_iload hx hb dX6_bestGoodbye_82 (lv_at hl 2 rfl) ?_
                refine lv_istore_n (lv' := [(3, .int v3), (2, .int x4), (6, .int 0), (5, .int v3), (0, .ref (qa 0)), (1, .int a1), (4, .int x4)]) hx hb dX6_bestGoodbye_84 rfl hl (by decide) rfl (fun ls hl => ?_)
                refine lv_iinc (v := (x4 + 1)) (lv' := [(4, .int (x4 + 1)), (3, .int v3), (2, .int x4), (6, .int 0), (5, .int v3), (0, .ref (qa 0)), (1, .int a1)]) hx hb dX6_bestGoodbye_85 hl (k := 6) rfl rfl (by decide) rfl (fun ls hl => ?_)
                refine lv_goto (tgt := 8) hx hb dX6_bestGoodbye_88 (by decide) ?_
                exact ih8 x4 v3 (x4 + 1) _ _ _ hG hP hS (lv_sub hl [5, 6, 2, 1, 0] rfl)
              · replace hG := wq_f c18 hG
                refine lv_iload hx hb dX6_bestGoodbye_74 (lv_at hl 0 rfl) ?_
                refine lv_if_eq (tgt := 85) hx hb dX6_bestGoodbye_76 (by decide) (fun c19 => ?_) (fun c19 => absurd (by decide) c19)
                refine lv_iinc (v := (x4 + 1)) (lv' := [(4, .int (x4 + 1)), (6, .int 0), (5, .int v3), (0, .ref (qa 0)), (1, .int a1), (2, .int x2), (3, .int x3)]) hx hb dX6_bestGoodbye_85 hl (k := 6) rfl rfl (by decide) rfl (fun ls hl => ?_)
                refine lv_goto (tgt := 8) hx hb dX6_bestGoodbye_88 (by decide) ?_
                exact ih8 x2 x3 (x4 + 1) _ _ _ hG hP hS (lv_sub hl [3, 4, 5, 6, 0] rfl)
            · replace hG := wq_f c17 hG
              refine lv_iconst (v := 1) hx hb dX6_bestGoodbye_61 (by decide) ?_
              refine lv_goto (tgt := 66) hx hb dX6_bestGoodbye_62 (by decide) ?_
              refine lv_istore (lv' := [(6, .int 1), (5, .int v3), (0, .ref (qa 0)), (1, .int a1), (2, .int x2), (3, .int x3), (4, .int x4)]) hx hb dX6_bestGoodbye_66 hl (by decide) rfl (fun ls hl => ?_)
              refine lv_iload hx hb dX6_bestGoodbye_68 (lv_at hl 1 rfl) ?_
              refine lv_iload_n hx hb dX6_bestGoodbye_70 rfl (lv_at hl 5 rfl) ?_
              refine lv_icmp_gt (tgt := 79) hx hb dX6_bestGoodbye_71 (by decide) (fun c20 => ?_) (fun c20 => ?_)
              · replace hG := wq_t c20 hG
                refine lv_iload hx hb dX6_bestGoodbye_79 (lv_at hl 6 rfl) ?_
                refine lv_istore_n (lv' := [(2, .int x4), (6, .int 1), (5, .int v3), (0, .ref (qa 0)), (1, .int a1), (3, .int x3), (4, .int x4)]) hx hb dX6_bestGoodbye_81 rfl hl (by decide) rfl (fun ls hl => ?_)
                refine lv_iload hx hb dX6_bestGoodbye_82 (lv_at hl 2 rfl) ?_
                refine lv_istore_n (lv' := [(3, .int v3), (2, .int x4), (6, .int 1), (5, .int v3), (0, .ref (qa 0)), (1, .int a1), (4, .int x4)]) hx hb dX6_bestGoodbye_84 rfl hl (by decide) rfl (fun ls hl => ?_)
                refine lv_iinc (v := (x4 + 1)) (lv' := [(4, .int (x4 + 1)), (3, .int v3), (2, .int x4), (6, .int 1), (5, .int v3), (0, .ref (qa 0)), (1, .int a1)]) hx hb dX6_bestGoodbye_85 hl (k := 6) rfl rfl (by decide) rfl (fun ls hl => ?_)
                refine lv_goto (tgt := 8) hx hb dX6_bestGoodbye_88 (by decide) ?_
                exact ih8 x4 v3 (x4 + 1) _ _ _ hG hP hS (lv_sub hl [5, 6, 2, 1, 0] rfl)
              · replace hG := wq_f c20 hG
                refine lv_iload hx hb dX6_bestGoodbye_74 (lv_at hl 0 rfl) ?_
                refine lv_if_eq (tgt := 85) hx hb dX6_bestGoodbye_76 (by decide) (fun c21 => absurd c21 (by decide)) (fun c21 => ?_)
                refine lv_iload hx hb dX6_bestGoodbye_79 (lv_at hl 6 rfl) ?_
                refine lv_istore_n (lv' := [(2, .int x4), (6, .int 1), (5, .int v3), (0, .ref (qa 0)), (1, .int a1), (3, .int x3), (4, .int x4)]) hx hb dX6_bestGoodbye_81 rfl hl (by decide) rfl (fun ls hl => ?_)
                refine lv_iload hx hb dX6_bestGoodbye_82 (lv_at hl 2 rfl) ?_
                refine lv_istore_n (lv' := [(3, .int v3), (2, .int x4), (6, .int 1), (5, .int v3), (0, .ref (qa 0)), (1, .int a1), (4, .int x4)]) hx hb dX6_bestGoodbye_84 rfl hl (by decide) rfl (fun ls hl => ?_)
                refine lv_iinc (v := (x4 + 1)) (lv' := [(4, .int (x4 + 1)), (3, .int v3), (2, .int x4), (6, .int 1), (5, .int v3), (0, .ref (qa 0)), (1, .int a1)]) hx hb dX6_bestGoodbye_85 hl (k := 6) rfl rfl (by decide) rfl (fun ls hl => ?_)
                refine lv_goto (tgt := 8) hx hb dX6_bestGoodbye_88 (by decide) ?_
                exact ih8 x4 v3 (x4 + 1) _ _ _ hG hP hS (lv_sub hl [5, 6, 2, 1, 0] rfl)
  unfold gX6_bestGoodbye at hG
  refine lv_bipush (v := (-9)) hx hb dX6_bestGoodbye_0 (by decide) ?_
  refine lv_istore_n (lv' := [(2, .int (-9)), (0, .ref (qa 0)), (1, .int a1)]) hx hb dX6_bestGoodbye_2 rfl hl (by decide) rfl (fun ls hl => ?_)
  refine lv_iconst (v := 0) hx hb dX6_bestGoodbye_3 (by decide) ?_
  refine lv_istore_n (lv' := [(3, .int 0), (2, .int (-9)), (0, .ref (qa 0)), (1, .int a1)]) hx hb dX6_bestGoodbye_4 rfl hl (by decide) rfl (fun ls hl => ?_)
  refine lv_iconst (v := 0) hx hb dX6_bestGoodbye_5 (by decide) ?_
  refine lv_istore (lv' := [(4, .int 0), (3, .int 0), (2, .int (-9)), (0, .ref (qa 0)), (1, .int a1)]) hx hb dX6_bestGoodbye_6 hl (by decide) rfl (fun ls hl => ?_)
  exact hL8  1000 (-9) 0 0 _ _ _ hG hP hS (lv_sub hl [3, 4, 2, 1, 0] rfl)

theorem hdV_X6_woman : yX6_woman.cls = RX6 ∧ yX6_woman.cls ≠ "java/lang/invoke/MethodHandle" ∧ yX6_woman.cls ≠ "java/lang/invoke/VarHandle" ∧ (parseMethodDescriptor yX6_woman.desc).map (fun d => d.parameters.length) = some 2 := by decide +kernel
set_option maxHeartbeats 4000000 in
set_option maxRecDepth 100000 in
theorem C_X6_woman (l : Launch) (dC : Nat → ClassId) (dI : Nat → Nat → Nat) (cI cJ cZ : ClassId) (qa : Nat → Nat) (sz : Nat) (r_images : Nat → Int64) (r_asked : Int64) (n_likings : Nat → Int32) (n_day : Int32) (n_trust : Int32) (n_ill : Int32) (n_done : Int32) (t_tears : Nat → Int32) (t_gains : Nat → Int32) (t_likings : Nat → Int32) (t_settings : Nat → Int32) (t_goodbyes : Int32) (t_women : Int32) (a1 : Int32) (a2 : Int32) (r0 : Int32) (hG : gX6_woman n_likings n_trust n_ill t_tears t_gains t_settings t_goodbyes t_women a1 a2 = some r0) : Met l yX6_woman wsX6_woman ({ frames := 5, cells := 0, slots := 0, locals := 114 } : Room) (va_Pc [.ref (qa 0), .int a1, .int a2] (wq_pp (dC, dI) [(cI, .int), (cJ, .long), (cZ, .boolean)] (wcRNT qa cI cJ cZ r_images r_asked n_likings n_day n_trust n_ill n_done t_tears t_gains t_likings t_settings t_goodbyes t_women) sz)) (wq_Qi r0 wq_tr (va_A [] sz)) 0 0 (va_A [] sz) := by
  refine Met.ofW (cc := cX6_woman) (maxL := 3) (ret := (some .int)) (by decide) rfl ?_
  intro p e s m args below meth c s₁ B hml hv
  obtain ⟨rfl, hsz, hP, hK, hE⟩ := hv
  have hx := B.exec
  have hb := B.bytes
  have hr := B.returns
  have hts := atoms_spec (ws := wsX6_woman) B.pre
  have hown : s.vm.findClass RX6 = some m.cls := findClass_of_methodNamed B.named
  have hlocks := B.notSynchronized
  subst hsz
  generalize hAe : va_A [] s.heap.size = A at hE ⊢
  have hA : ∀ q : Nat, s.heap.size ≤ q → A q := fun q h => by rw [← hAe]; exact Or.inr h
  have hS : va_S A s.heap s.heap [] := va_S.rf
  have hinX6 : ∀ w ∈ u_ws RX6 TX6 9, w ∈ wsX6_woman := by decide +kernel
  have k1 := hts (.fieldLink RX6 53 "DoorMornings" "told" "LDoorMornings$Told;") (by decide +kernel)
  have k2 := hts (.fieldLink RX6 19 "DoorMornings" "today" "LDoorMornings$Now;") (by decide +kernel)
  have hl := lv_entry ([.ref (qa 0), .int a1, .int a2]) (n := 3) (Nat.le_of_ble_eq_true rfl)
  rw [lg_entry_eq]
  generalize (lg_sl ([.ref (qa 0), .int a1, .int a2]) ++ List.replicate (3 - (lg_sl ([.ref (qa 0), .int a1, .int a2])).length) Slot.unset).toArray = ls at hl ⊢
  have hl : lv_has ls 3 [(0, .ref (qa 0)), (1, .int a1), (2, .int a2)] := hl
  unfold gX6_woman at hG
  refine lv_aload_n hx hb dX6_woman_0 rfl (lv_at hl 0 rfl) ?_
  refine va_get (D := (dC, dI)) (ci := 6) (v := .ref (qa 16)) (C := RX6) (T := TX6) (N := 9) hx hb hts hinX6 hown hK hP 0 rfl rfl 6 (by decide) k1 (fun _ h9 => h9) rfl dX6_woman_1 ?_
  refine lv_iload_n hx hb dX6_woman_4 rfl (lv_at hl 1 rfl) ?_
  obtain ⟨v2, g1, hG⟩ := wq_b1_s hG
  refine wq_ci (v := v2) (B := wq_Z1) (va_runV (As := [.int a1]) (rest := []) ⟨hx, hb, hml, hown, hts⟩ (C_X5_hasWoman l dC dI cI cJ cZ qa s.heap.size t_tears t_gains t_likings t_settings t_goodbyes t_women a1 v2 g1) (cwV 1 hts gX6_woman_X5_hasWoman rfl rfl rfl hdV_X5_hasWoman ⟨Nat.le_of_ble_eq_true rfl, Nat.le_of_ble_eq_true rfl⟩) (wq_ppV hK (hP.sub (ws' := wcT qa cI cJ cZ t_tears t_gains t_likings t_settings t_goodbyes t_women) [4, 5, 6, 7, 8] rfl) hE hS hA (ci := 5) (q0 := 0) rfl rfl) rfl rfl hl.1 rfl (lv_room (Nat.le_of_ble_eq_true rfl)) dX6_woman_5 ⟨Nat.zero_le _, Nat.zero_le _⟩) hS hA (fun H locs b3 hk hS => ?_)
  replace hP := wq_kp hP hk
  clear hk
  refine lv_if_ne (tgt := 13) hx hb dX6_woman_8 (by decide) (fun c4 => ?_) (fun c4 => ?_)
  · replace hG := wq_f c4 hG
    refine lv_iload_n hx hb dX6_woman_13 rfl (lv_at hl 2 rfl) ?_
    by_cases c5 : a2 = 0
    · replace hG := wq_t c5 hG
      refine lv_tableIn (off := 26) (tgt := 40) hx hb dX6_woman_14 (by rw [c5]; decide) (by rw [c5]; decide) (by rw [c5]; decide) (by decide) ?_
      refine lv_aload_n hx hb dX6_woman_40 rfl (lv_at hl 0 rfl) ?_
      refine va_get (D := (dC, dI)) (ci := 6) (v := .ref (qa 3)) (C := RX6) (T := TX6) (N := 9) hx hb hts hinX6 hown hK hP 0 rfl rfl 1 (by decide) k2 (fun _ h9 => h9) rfl dX6_woman_41 ?_
      refine lv_iload_n hx hb dX6_woman_44 rfl (lv_at hl 1 rfl) ?_
      obtain ⟨v7, g6, hG⟩ := wq_b1_s hG
      refine wq_ci (v := v7) (B := wq_tr) (va_runV (As := [.int a1]) (rest := []) ⟨hx, hb, hml, hown, hts⟩ (C_X0_likingOf l dC dI cI cJ cZ qa H.size n_likings n_day n_trust n_ill n_done a1 v7 g6) (cwV 1 hts gX6_woman_X0_likingOf rfl rfl rfl hdV_X0_likingOf ⟨Nat.le_of_ble_eq_true rfl, Nat.le_of_ble_eq_true rfl⟩) (wq_ppV hK (hP.sub (ws' := wcN qa cI cJ cZ n_likings n_day n_trust n_ill n_done) [2, 3] rfl) hE hS hA (ci := 0) (q0 := 0) rfl rfl) rfl rfl hl.1 rfl (lv_room (Nat.le_of_ble_eq_true rfl)) dX6_woman_45 ⟨Nat.zero_le _, Nat.zero_le _⟩) hS hA (fun H locs b8 hk hS => ?_)
      replace hP := wq_kp hP hk
      clear hk
      exact W.iret (v := v7) hx hb hr (fun t ht hW => ⟨⟨v7, (), rfl, ⟨Option.some.inj hG, trivial⟩, trivial⟩, hS.F ht⟩) hS.2.2 dX6_woman_48
    · replace hG := wq_f c5 hG
      by_cases c9 : a2 = 1
      · replace hG := wq_t c9 hG
        refine lv_tableIn (off := 35) (tgt := 49) hx hb dX6_woman_14 (by rw [c9]; decide) (by rw [c9]; decide) (by rw [c9]; decide) (by decide) ?_
        refine lv_aload_n hx hb dX6_woman_49 rfl (lv_at hl 0 rfl) ?_
        refine va_get (D := (dC, dI)) (ci := 6) (v := .ref (qa 3)) (C := RX6) (T := TX6) (N := 9) hx hb hts hinX6 hown hK hP 0 rfl rfl 1 (by decide) k2 (fun _ h9 => h9) rfl dX6_woman_50 ?_
        refine lv_iload_n hx hb dX6_woman_53 rfl (lv_at hl 1 rfl) ?_
        obtain ⟨v11, g10, hG⟩ := wq_b1_s hG
        refine wq_ci (v := v11) (B := wq_Z1) (va_runV (As := [.int a1]) (rest := []) ⟨hx, hb, hml, hown, hts⟩ (C_X0_isIll l dC dI cI cJ cZ qa H.size n_likings n_day n_trust n_ill n_done a1 v11 g10) (cwV 1 hts gX6_woman_X0_isIll rfl rfl rfl hdV_X0_isIll ⟨Nat.le_of_ble_eq_true rfl, Nat.le_of_ble_eq_true rfl⟩) (wq_ppV hK (hP.sub (ws' := wcN qa cI cJ cZ n_likings n_day n_trust n_ill n_done) [2, 3] rfl) hE hS hA (ci := 0) (q0 := 0) rfl rfl) rfl rfl hl.1 rfl (lv_room (Nat.le_of_ble_eq_true rfl)) dX6_woman_54 ⟨Nat.zero_le _, Nat.zero_le _⟩) hS hA (fun H locs b12 hk hS => ?_)
        replace hP := wq_kp hP hk
        clear hk
        refine lv_if_eq (tgt := 64) hx hb dX6_woman_57 (by decide) (fun c13 => ?_) (fun c13 => ?_)
        · replace hG := wq_t c13 hG
          refine lv_iconst (v := 0) hx hb dX6_woman_64 (by decide) ?_
          exact W.iret (v := 0) hx hb hr (fun t ht hW => ⟨⟨0, (), rfl, ⟨Option.some.inj hG, trivial⟩, trivial⟩, hS.F ht⟩) hS.2.2 dX6_woman_65
        · replace hG := wq_f c13 hG
          refine lv_iconst (v := 1) hx hb dX6_woman_60 (by decide) ?_
          refine lv_goto (tgt := 65) hx hb dX6_woman_61 (by decide) ?_
          exact W.iret (v := 1) hx hb hr (fun t ht hW => ⟨⟨1, (), rfl, ⟨Option.some.inj hG, trivial⟩, trivial⟩, hS.F ht⟩) hS.2.2 dX6_woman_65
      · replace hG := wq_f c9 hG
        by_cases c14 : a2 = 2
        · replace hG := wq_t c14 hG
          refine lv_tableIn (off := 52) (tgt := 66) hx hb dX6_woman_14 (by rw [c14]; decide) (by rw [c14]; decide) (by rw [c14]; decide) (by decide) ?_
          refine lv_aload_n hx hb dX6_woman_66 rfl (lv_at hl 0 rfl) ?_
          refine lv_iload_n hx hb dX6_woman_67 rfl (lv_at hl 1 rfl) ?_
          obtain ⟨v16, g15, hG⟩ := wq_b1_s hG
          refine wq_ci (v := v16) (B := wq_tr) (va_runV (As := [.int a1]) (rest := []) ⟨hx, hb, hml, hown, hts⟩ (C_X6_bestGoodbye l dC dI cI cJ cZ qa H.size r_images r_asked n_likings n_day n_trust n_ill n_done t_tears t_gains t_likings t_settings t_goodbyes t_women a1 v16 g15) (cwV 1 hts gX6_woman_X6_bestGoodbye rfl rfl rfl hdV_X6_bestGoodbye ⟨Nat.le_of_ble_eq_true rfl, Nat.le_of_ble_eq_true rfl⟩) (wq_ppV hK hP hE hS hA (ci := 6) (q0 := 0) rfl rfl) rfl rfl hl.1 rfl (lv_room (Nat.le_of_ble_eq_true rfl)) dX6_woman_68 ⟨Nat.zero_le _, Nat.zero_le _⟩) hS hA (fun H locs b17 hk hS => ?_)
          replace hP := wq_kp hP hk
          clear hk
          exact W.iret (v := v16) hx hb hr (fun t ht hW => ⟨⟨v16, (), rfl, ⟨Option.some.inj hG, trivial⟩, trivial⟩, hS.F ht⟩) hS.2.2 dX6_woman_71
        · replace hG := wq_f c14 hG
          refine lv_tableOut (tgt := 72) hx hb dX6_woman_14 (by have e0 := lv_neT c5 (a := 0) (by decide); have e1 := lv_neT c9 (a := 1) (by decide); have e2 := lv_neT c14 (a := 2) (by decide); omega) (by decide) ?_
          refine lv_iconst (v := (-1)) hx hb dX6_woman_72 (by decide) ?_
          exact W.iret (v := (-1)) hx hb hr (fun t ht hW => ⟨⟨(-1), (), rfl, ⟨Option.some.inj hG, trivial⟩, trivial⟩, hS.F ht⟩) hS.2.2 dX6_woman_73
  · replace hG := wq_t c4 hG
    refine lv_iconst (v := (-1)) hx hb dX6_woman_11 (by decide) ?_
    exact W.iret (v := (-1)) hx hb hr (fun t ht hW => ⟨⟨(-1), (), rfl, ⟨Option.some.inj hG, trivial⟩, trivial⟩, hS.F ht⟩) hS.2.2 dX6_woman_12

theorem hdV_X6_farthestWith : yX6_farthestWith.cls = RX6 ∧ yX6_farthestWith.cls ≠ "java/lang/invoke/MethodHandle" ∧ yX6_farthestWith.cls ≠ "java/lang/invoke/VarHandle" ∧ (parseMethodDescriptor yX6_farthestWith.desc).map (fun d => d.parameters.length) = some 1 := by decide +kernel
set_option maxHeartbeats 4000000 in
set_option maxRecDepth 100000 in
theorem C_X6_farthestWith (l : Launch) (dC : Nat → ClassId) (dI : Nat → Nat → Nat) (cI cJ cZ : ClassId) (qa : Nat → Nat) (sz : Nat) (r_images : Nat → Int64) (r_asked : Int64) (n_likings : Nat → Int32) (n_day : Int32) (n_trust : Int32) (n_ill : Int32) (n_done : Int32) (t_tears : Nat → Int32) (t_gains : Nat → Int32) (t_likings : Nat → Int32) (t_settings : Nat → Int32) (t_goodbyes : Int32) (t_women : Int32) (a1 : Int32) (r0 : Int32) (hG : gX6_farthestWith n_likings n_trust t_tears t_settings t_goodbyes a1 = some r0) : Met l yX6_farthestWith wsX6_farthestWith ({ frames := 4, cells := 0, slots := 0, locals := 88 } : Room) (va_Pc [.ref (qa 0), .int a1] (wq_pp (dC, dI) [(cI, .int), (cJ, .long), (cZ, .boolean)] (wcRNT qa cI cJ cZ r_images r_asked n_likings n_day n_trust n_ill n_done t_tears t_gains t_likings t_settings t_goodbyes t_women) sz)) (wq_Qi r0 wq_tr (va_A [] sz)) 0 0 (va_A [] sz) := by
  refine Met.ofW (cc := cX6_farthestWith) (maxL := 4) (ret := (some .int)) (by decide) rfl ?_
  intro p e s m args below meth c s₁ B hml hv
  obtain ⟨rfl, hsz, hP, hK, hE⟩ := hv
  have hx := B.exec
  have hb := B.bytes
  have hr := B.returns
  have hts := atoms_spec (ws := wsX6_farthestWith) B.pre
  have hown : s.vm.findClass RX6 = some m.cls := findClass_of_methodNamed B.named
  have hlocks := B.notSynchronized
  subst hsz
  generalize hAe : va_A [] s.heap.size = A at hE ⊢
  have hA : ∀ q : Nat, s.heap.size ≤ q → A q := fun q h => by rw [← hAe]; exact Or.inr h
  have hS : va_S A s.heap s.heap [] := va_S.rf
  have hinX6 : ∀ w ∈ u_ws RX6 TX6 9, w ∈ wsX6_farthestWith := by decide +kernel
  have hinX5 : ∀ w ∈ u_ws RX5 TX5 6, w ∈ wsX6_farthestWith := by decide +kernel
  have k1 := hts (.fieldLink RX6 53 "DoorMornings" "told" "LDoorMornings$Told;") (by decide +kernel)
  have k2 := hts (.fieldLink RX6 241 "DoorMornings$Told" "goodbyes" "I") (by decide +kernel)
  have k3 := hts (.methodLink RX6 160 Lib.Math.max.name) (by decide +kernel)
  have k4 := hts (.static Lib.Math.max.name) (by decide +kernel)
  have k5 := hts (.initialized "java/lang/Math") (by decide +kernel)
  have k6 := hts (.code Lib.Math.max.name Lib.Math.max.code 2 (some .int)) (by decide +kernel)
  have hl := lv_entry ([.ref (qa 0), .int a1]) (n := 4) (Nat.le_of_ble_eq_true rfl)
  rw [lg_entry_eq]
  generalize (lg_sl ([.ref (qa 0), .int a1]) ++ List.replicate (4 - (lg_sl ([.ref (qa 0), .int a1])).length) Slot.unset).toArray = ls at hl ⊢
  have hl : lv_has ls 4 [(0, .ref (qa 0)), (1, .int a1)] := hl
  have hL4 : ∀  (n : Nat) (x2 : Int32) (x3 : Int32) (H : Heap) (locs : List Loc) (ls : Array Slot), gX6_farthestWith_L4 n_likings n_trust t_tears t_settings t_goodbyes a1 n x2 x3 = some r0 → va_P (dC, dI) vwCl (wcRNT qa cI cJ cZ r_images r_asked n_likings n_day n_trust n_ill n_done t_tears t_gains t_likings t_settings t_goodbyes t_women) H → va_S A s.heap H locs → lv_has ls 4 [(0, .ref (qa 0)), (1, .int a1), (2, .int x2), (3, .int x3)] → W p l e (headSpec wsX6_farthestWith ({ frames := 4, cells := 0, slots := 0, locals := 88 } : Room)).room s m ([.ref (qa 0), .int a1] : List Value).toArray below meth c H locs 0 0 (MQ below (wq_Qi r0 wq_tr A) ([.ref (qa 0), .int a1] : List Value).toArray s 0 0 A) (F0 m 4 ls []) := by
    intro  n
    induction n with
    | zero =>
      intro x2 x3 H locs ls hG
      exact absurd (show (none : Option (Int32)) = some r0 from hG) (by intro h9; cases h9)
    | succ n ih4 =>
      intro x2 x3 H locs ls hG hP hS hl
      rw [gX6_farthestWith_L4] at hG
      refine lv_iload_n hx hb dX6_farthestWith_4 rfl (lv_at hl 3 rfl) ?_
      refine lv_aload_n hx hb dX6_farthestWith_5 rfl (lv_at hl 0 rfl) ?_
      refine va_get (D := (dC, dI)) (ci := 6) (v := .ref (qa 16)) (C := RX6) (T := TX6) (N := 9) hx hb hts hinX6 hown hK hP 0 rfl rfl 6 (by decide) k1 (fun _ h9 => h9) rfl dX6_farthestWith_6 ?_
      refine va_get (D := (dC, dI)) (ci := 5) (v := .int t_goodbyes) (C := RX5) (T := TX5) (N := 6) hx hb hts hinX5 hown hK hP 4 rfl rfl 4 (by decide) k2 (fun _ h9 => h9) rfl dX6_farthestWith_9 ?_
      refine lv_icmp_ge (tgt := 32) hx hb dX6_farthestWith_12 (by decide) (fun c1 => ?_) (fun c1 => ?_)
      · replace hG := wq_t c1 hG
        refine lv_iload_n hx hb dX6_farthestWith_32 rfl (lv_at hl 2 rfl) ?_
        exact W.iret (v := x2) hx hb hr (fun t ht hW => ⟨⟨x2, (), rfl, ⟨Option.some.inj hG, trivial⟩, trivial⟩, hS.F ht⟩) hS.2.2 dX6_farthestWith_33
      · replace hG := wq_f c1 hG
        refine lv_iload_n hx hb dX6_farthestWith_15 rfl (lv_at hl 2 rfl) ?_
        refine lv_aload_n hx hb dX6_farthestWith_16 rfl (lv_at hl 0 rfl) ?_
        refine lv_iload_n hx hb dX6_farthestWith_17 rfl (lv_at hl 3 rfl) ?_
        refine lv_iload_n hx hb dX6_farthestWith_18 rfl (lv_at hl 1 rfl) ?_
        obtain ⟨v3, g2, hG⟩ := wq_b1_s hG
        refine wq_ci (v := v3) (B := wq_tr) (va_runV (As := [.int x3, .int a1]) (rest := [.int x2]) ⟨hx, hb, hml, hown, hts⟩ (C_X6_reachNow l dC dI cI cJ cZ qa H.size r_images r_asked n_likings n_day n_trust n_ill n_done t_tears t_gains t_likings t_settings t_goodbyes t_women x3 a1 v3 g2) (cwV 2 hts gX6_farthestWith_X6_reachNow rfl rfl rfl hdV_X6_reachNow ⟨Nat.le_of_ble_eq_true rfl, Nat.le_of_ble_eq_true rfl⟩) (wq_ppV hK hP hE hS hA (ci := 6) (q0 := 0) rfl rfl) rfl rfl hl.1 rfl (lv_room (Nat.le_of_ble_eq_true rfl)) dX6_farthestWith_19 ⟨Nat.zero_le _, Nat.zero_le _⟩) hS hA (fun H locs b4 hk hS => ?_)
        replace hP := wq_kp hP hk
        clear hk
        refine va_mmax (x := x2) (y := v3) hx hb (hml.trans hl.1.symm) hown k3 k4 k5 k6 (Nat.le_of_ble_eq_true rfl) (Nat.le_of_ble_eq_true rfl) (Nat.zero_le _) (Nat.zero_le _) dX6_farthestWith_22 ?_
        refine lv_istore_n (lv' := [(2, .int (if x2 < v3 then v3 else x2)), (0, .ref (qa 0)), (1, .int a1), (3, .int x3)]) hx hb dX6_farthestWith_25 rfl hl (by decide) rfl (fun ls hl => ?_)
        refine lv_iinc (v := (x3 + 1)) (lv' := [(3, .int (x3 + 1)), (2, .int (if x2 < v3 then v3 else x2)), (0, .ref (qa 0)), (1, .int a1)]) hx hb dX6_farthestWith_26 hl (k := 3) rfl rfl (by decide) rfl (fun ls hl => ?_)
        refine lv_goto (tgt := 4) hx hb dX6_farthestWith_29 (by decide) ?_
        exact ih4 (if x2 < v3 then v3 else x2) (x3 + 1) _ _ _ hG hP hS (lv_sub hl [2, 3, 1, 0] rfl)
  unfold gX6_farthestWith at hG
  refine lv_iconst (v := 0) hx hb dX6_farthestWith_0 (by decide) ?_
  refine lv_istore_n (lv' := [(2, .int 0), (0, .ref (qa 0)), (1, .int a1)]) hx hb dX6_farthestWith_1 rfl hl (by decide) rfl (fun ls hl => ?_)
  refine lv_iconst (v := 0) hx hb dX6_farthestWith_2 (by decide) ?_
  refine lv_istore_n (lv' := [(3, .int 0), (2, .int 0), (0, .ref (qa 0)), (1, .int a1)]) hx hb dX6_farthestWith_3 rfl hl (by decide) rfl (fun ls hl => ?_)
  exact hL4  1000 0 0 _ _ _ hG hP hS (lv_sub hl [2, 3, 1, 0] rfl)

theorem hdV_X6_bestWoman : yX6_bestWoman.cls = RX6 ∧ yX6_bestWoman.cls ≠ "java/lang/invoke/MethodHandle" ∧ yX6_bestWoman.cls ≠ "java/lang/invoke/VarHandle" ∧ (parseMethodDescriptor yX6_bestWoman.desc).map (fun d => d.parameters.length) = some 0 := by decide +kernel
set_option maxHeartbeats 4000000 in
set_option maxRecDepth 100000 in
theorem C_X6_bestWoman (l : Launch) (dC : Nat → ClassId) (dI : Nat → Nat → Nat) (cI cJ cZ : ClassId) (qa : Nat → Nat) (sz : Nat) (r_images : Nat → Int64) (r_asked : Int64) (n_likings : Nat → Int32) (n_day : Int32) (n_trust : Int32) (n_ill : Int32) (n_done : Int32) (t_tears : Nat → Int32) (t_gains : Nat → Int32) (t_likings : Nat → Int32) (t_settings : Nat → Int32) (t_goodbyes : Int32) (t_women : Int32) (r0 : Int32) (hG : gX6_bestWoman n_likings n_trust n_ill t_tears t_settings t_goodbyes t_women = some r0) : Met l yX6_bestWoman wsX6_bestWoman ({ frames := 5, cells := 0, slots := 0, locals := 111 } : Room) (va_Pc [.ref (qa 0)] (wq_pp (dC, dI) [(cI, .int), (cJ, .long), (cZ, .boolean)] (wcRNT qa cI cJ cZ r_images r_asked n_likings n_day n_trust n_ill n_done t_tears t_gains t_likings t_settings t_goodbyes t_women) sz)) (wq_Qi r0 wq_tr (va_A [] sz)) 0 0 (va_A [] sz) := by
  refine Met.ofW (cc := cX6_bestWoman) (maxL := 5) (ret := (some .int)) (by decide) rfl ?_
  intro p e s m args below meth c s₁ B hml hv
  obtain ⟨rfl, hsz, hP, hK, hE⟩ := hv
  have hx := B.exec
  have hb := B.bytes
  have hr := B.returns
  have hts := atoms_spec (ws := wsX6_bestWoman) B.pre
  have hown : s.vm.findClass RX6 = some m.cls := findClass_of_methodNamed B.named
  have hlocks := B.notSynchronized
  subst hsz
  generalize hAe : va_A [] s.heap.size = A at hE ⊢
  have hA : ∀ q : Nat, s.heap.size ≤ q → A q := fun q h => by rw [← hAe]; exact Or.inr h
  have hS : va_S A s.heap s.heap [] := va_S.rf
  have hinX6 : ∀ w ∈ u_ws RX6 TX6 9, w ∈ wsX6_bestWoman := by decide +kernel
  have hinX5 : ∀ w ∈ u_ws RX5 TX5 6, w ∈ wsX6_bestWoman := by decide +kernel
  have k1 := hts (.fieldLink RX6 53 "DoorMornings" "told" "LDoorMornings$Told;") (by decide +kernel)
  have k2 := hts (.fieldLink RX6 244 "DoorMornings$Told" "women" "I") (by decide +kernel)
  have k3 := hts (.fieldLink RX6 19 "DoorMornings" "today" "LDoorMornings$Now;") (by decide +kernel)
  have hl := lv_entry ([.ref (qa 0)]) (n := 5) (Nat.le_of_ble_eq_true rfl)
  rw [lg_entry_eq]
  generalize (lg_sl ([.ref (qa 0)]) ++ List.replicate (5 - (lg_sl ([.ref (qa 0)])).length) Slot.unset).toArray = ls at hl ⊢
  have hl : lv_has ls 5 [(0, .ref (qa 0))] := hl
  have hL7 : ∀  (n : Nat) (x1 : Int32) (x2 : Int32) (x3 : Int32) (H : Heap) (locs : List Loc) (ls : Array Slot), gX6_bestWoman_L7 n_likings n_trust n_ill t_tears t_settings t_goodbyes t_women n x1 x2 x3 = some r0 → va_P (dC, dI) vwCl (wcRNT qa cI cJ cZ r_images r_asked n_likings n_day n_trust n_ill n_done t_tears t_gains t_likings t_settings t_goodbyes t_women) H → va_S A s.heap H locs → lv_has ls 5 [(0, .ref (qa 0)), (1, .int x1), (2, .int x2), (3, .int x3)] → W p l e (headSpec wsX6_bestWoman ({ frames := 5, cells := 0, slots := 0, locals := 111 } : Room)).room s m ([.ref (qa 0)] : List Value).toArray below meth c H locs 0 0 (MQ below (wq_Qi r0 wq_tr A) ([.ref (qa 0)] : List Value).toArray s 0 0 A) (F0 m 7 ls []) := by
    intro  n
    induction n with
    | zero =>
      intro x1 x2 x3 H locs ls hG
      exact absurd (show (none : Option (Int32)) = some r0 from hG) (by intro h9; cases h9)
    | succ n ih7 =>
      intro x1 x2 x3 H locs ls hG hP hS hl
      rw [gX6_bestWoman_L7] at hG
      refine lv_iload_n hx hb dX6_bestWoman_7 rfl (lv_at hl 3 rfl) ?_
      refine lv_aload_n hx hb dX6_bestWoman_8 rfl (lv_at hl 0 rfl) ?_
      refine va_get (D := (dC, dI)) (ci := 6) (v := .ref (qa 16)) (C := RX6) (T := TX6) (N := 9) hx hb hts hinX6 hown hK hP 0 rfl rfl 6 (by decide) k1 (fun _ h9 => h9) rfl dX6_bestWoman_9 ?_
      refine va_get (D := (dC, dI)) (ci := 5) (v := .int t_women) (C := RX5) (T := TX5) (N := 6) hx hb hts hinX5 hown hK hP 4 rfl rfl 5 (by decide) k2 (fun _ h9 => h9) rfl dX6_bestWoman_12 ?_
      refine lv_icmp_ge (tgt := 57) hx hb dX6_bestWoman_15 (by decide) (fun c1 => ?_) (fun c1 => ?_)
      · replace hG := wq_t c1 hG
        refine lv_iload_n hx hb dX6_bestWoman_57 rfl (lv_at hl 1 rfl) ?_
        exact W.iret (v := x1) hx hb hr (fun t ht hW => ⟨⟨x1, (), rfl, ⟨Option.some.inj hG, trivial⟩, trivial⟩, hS.F ht⟩) hS.2.2 dX6_bestWoman_58
      · replace hG := wq_f c1 hG
        refine lv_aload_n hx hb dX6_bestWoman_18 rfl (lv_at hl 0 rfl) ?_
        refine va_get (D := (dC, dI)) (ci := 6) (v := .ref (qa 3)) (C := RX6) (T := TX6) (N := 9) hx hb hts hinX6 hown hK hP 0 rfl rfl 1 (by decide) k3 (fun _ h9 => h9) rfl dX6_bestWoman_19 ?_
        refine lv_iload_n hx hb dX6_bestWoman_22 rfl (lv_at hl 3 rfl) ?_
        obtain ⟨v3, g2, hG⟩ := wq_b1_s hG
        refine wq_ci (v := v3) (B := wq_Z1) (va_runV (As := [.int x3]) (rest := []) ⟨hx, hb, hml, hown, hts⟩ (C_X0_isIll l dC dI cI cJ cZ qa H.size n_likings n_day n_trust n_ill n_done x3 v3 g2) (cwV 1 hts gX6_bestWoman_X0_isIll rfl rfl rfl hdV_X0_isIll ⟨Nat.le_of_ble_eq_true rfl, Nat.le_of_ble_eq_true rfl⟩) (wq_ppV hK (hP.sub (ws' := wcN qa cI cJ cZ n_likings n_day n_trust n_ill n_done) [2, 3] rfl) hE hS hA (ci := 0) (q0 := 0) rfl rfl) rfl rfl hl.1 rfl (lv_room (Nat.le_of_ble_eq_true rfl)) dX6_bestWoman_23 ⟨Nat.zero_le _, Nat.zero_le _⟩) hS hA (fun H locs b4 hk hS => ?_)
        replace hP := wq_kp hP hk
        clear hk
        refine lv_if_eq (tgt := 33) hx hb dX6_bestWoman_26 (by decide) (fun c5 => ?_) (fun c5 => ?_)
        · replace hG := wq_t c5 hG
          refine lv_aload_n hx hb dX6_bestWoman_33 rfl (lv_at hl 0 rfl) ?_
          refine lv_iload_n hx hb dX6_bestWoman_34 rfl (lv_at hl 3 rfl) ?_
          obtain ⟨v7, g6, hG⟩ := wq_b1_s hG
          refine wq_ci (v := v7) (B := wq_tr) (va_runV (As := [.int x3]) (rest := []) ⟨hx, hb, hml, hown, hts⟩ (C_X6_farthestWith l dC dI cI cJ cZ qa H.size r_images r_asked n_likings n_day n_trust n_ill n_done t_tears t_gains t_likings t_settings t_goodbyes t_women x3 v7 g6) (cwV 1 hts gX6_bestWoman_X6_farthestWith rfl rfl rfl hdV_X6_farthestWith ⟨Nat.le_of_ble_eq_true rfl, Nat.le_of_ble_eq_true rfl⟩) (wq_ppV hK hP hE hS hA (ci := 6) (q0 := 0) rfl rfl) rfl rfl hl.1 rfl (lv_room (Nat.le_of_ble_eq_true rfl)) dX6_bestWoman_35 ⟨Nat.zero_le _, Nat.zero_le _⟩) hS hA (fun H locs b8 hk hS => ?_)
          replace hP := wq_kp hP hk
          clear hk
          refine lv_istore (lv' := [(4, .int v7), (0, .ref (qa 0)), (1, .int x1), (2, .int x2), (3, .int x3)]) hx hb dX6_bestWoman_38 hl (by decide) rfl (fun ls hl => ?_)
          refine lv_iload hx hb dX6_bestWoman_40 (lv_at hl 0 rfl) ?_
          refine lv_iload_n hx hb dX6_bestWoman_42 rfl (lv_at hl 3 rfl) ?_
          refine lv_icmp_le (tgt := 51) hx hb dX6_bestWoman_43 (by decide) (fun c9 => ?_) (fun c9 => ?_)
          · replace hG := wq_t c9 hG
            refine lv_iinc (v := (x3 + 1)) (lv' := [(3, .int (x3 + 1)), (4, .int v7), (0, .ref (qa 0)), (1, .int x1), (2, .int x2)]) hx hb dX6_bestWoman_51 hl (k := 4) rfl rfl (by decide) rfl (fun ls hl => ?_)
            refine lv_goto (tgt := 7) hx hb dX6_bestWoman_54 (by decide) ?_
            exact ih7 x1 x2 (x3 + 1) _ _ _ hG hP hS (lv_sub hl [2, 3, 4, 0] rfl)
          · replace hG := wq_f c9 hG
            refine lv_iload_n hx hb dX6_bestWoman_46 rfl (lv_at hl 4 rfl) ?_
            refine lv_istore_n (lv' := [(1, .int x3), (4, .int v7), (0, .ref (qa 0)), (2, .int x2), (3, .int x3)]) hx hb dX6_bestWoman_47 rfl hl (by decide) rfl (fun ls hl => ?_)
            refine lv_iload hx hb dX6_bestWoman_48 (lv_at hl 1 rfl) ?_
            refine lv_istore_n (lv' := [(2, .int v7), (1, .int x3), (4, .int v7), (0, .ref (qa 0)), (3, .int x3)]) hx hb dX6_bestWoman_50 rfl hl (by decide) rfl (fun ls hl => ?_)
            refine lv_iinc (v := (x3 + 1)) (lv' := [(3, .int (x3 + 1)), (2, .int v7), (1, .int x3), (4, .int v7), (0, .ref (qa 0))]) hx hb dX6_bestWoman_51 hl (k := 4) rfl rfl (by decide) rfl (fun ls hl => ?_)
            refine lv_goto (tgt := 7) hx hb dX6_bestWoman_54 (by decide) ?_
            exact ih7 x3 v7 (x3 + 1) _ _ _ hG hP hS (lv_sub hl [4, 2, 1, 0] rfl)
        · replace hG := wq_f c5 hG
          refine lv_iconst (v := 0) hx hb dX6_bestWoman_29 (by decide) ?_
          refine lv_goto (tgt := 38) hx hb dX6_bestWoman_30 (by decide) ?_
          refine lv_istore (lv' := [(4, .int 0), (0, .ref (qa 0)), (1, .int x1), (2, .int x2), (3, .int x3)]) hx hb dX6_bestWoman_38 hl (by decide) rfl (fun ls hl => ?_)
          refine lv_iload hx hb dX6_bestWoman_40 (lv_at hl 0 rfl) ?_
          refine lv_iload_n hx hb dX6_bestWoman_42 rfl (lv_at hl 3 rfl) ?_
          refine lv_icmp_le (tgt := 51) hx hb dX6_bestWoman_43 (by decide) (fun c10 => ?_) (fun c10 => ?_)
          · replace hG := wq_t c10 hG
            refine lv_iinc (v := (x3 + 1)) (lv' := [(3, .int (x3 + 1)), (4, .int 0), (0, .ref (qa 0)), (1, .int x1), (2, .int x2)]) hx hb dX6_bestWoman_51 hl (k := 4) rfl rfl (by decide) rfl (fun ls hl => ?_)
            refine lv_goto (tgt := 7) hx hb dX6_bestWoman_54 (by decide) ?_
            exact ih7 x1 x2 (x3 + 1) _ _ _ hG hP hS (lv_sub hl [2, 3, 4, 0] rfl)
          · replace hG := wq_f c10 hG
            refine lv_iload_n hx hb dX6_bestWoman_46 rfl (lv_at hl 4 rfl) ?_
            refine lv_istore_n (lv' := [(1, .int x3), (4, .int 0), (0, .ref (qa 0)), (2, .int x2), (3, .int x3)]) hx hb dX6_bestWoman_47 rfl hl (by decide) rfl (fun ls hl => ?_)
            refine lv_iload hx hb dX6_bestWoman_48 (lv_at hl 1 rfl) ?_
            refine lv_istore_n (lv' := [(2, .int 0), (1, .int x3), (4, .int 0), (0, .ref (qa 0)), (3, .int x3)]) hx hb dX6_bestWoman_50 rfl hl (by decide) rfl (fun ls hl => ?_)
            refine lv_iinc (v := (x3 + 1)) (lv' := [(3, .int (x3 + 1)), (2, .int 0), (1, .int x3), (4, .int 0), (0, .ref (qa 0))]) hx hb dX6_bestWoman_51 hl (k := 4) rfl rfl (by decide) rfl (fun ls hl => ?_)
            refine lv_goto (tgt := 7) hx hb dX6_bestWoman_54 (by decide) ?_
            exact ih7 x3 0 (x3 + 1) _ _ _ hG hP hS (lv_sub hl [4, 2, 1, 0] rfl)
  unfold gX6_bestWoman at hG
  refine lv_bipush (v := (-9)) hx hb dX6_bestWoman_0 (by decide) ?_
  refine lv_istore_n (lv' := [(1, .int (-9)), (0, .ref (qa 0))]) hx hb dX6_bestWoman_2 rfl hl (by decide) rfl (fun ls hl => ?_)
  refine lv_iconst (v := 0) hx hb dX6_bestWoman_3 (by decide) ?_
  refine lv_istore_n (lv' := [(2, .int 0), (1, .int (-9)), (0, .ref (qa 0))]) hx hb dX6_bestWoman_4 rfl hl (by decide) rfl (fun ls hl => ?_)
  refine lv_iconst (v := 0) hx hb dX6_bestWoman_5 (by decide) ?_
  refine lv_istore_n (lv' := [(3, .int 0), (2, .int 0), (1, .int (-9)), (0, .ref (qa 0))]) hx hb dX6_bestWoman_6 rfl hl (by decide) rfl (fun ls hl => ?_)
  exact hL7  1000 (-9) 0 0 _ _ _ hG hP hS (lv_sub hl [3, 2, 1, 0] rfl)

theorem hdV_X6_now : yX6_now.cls = RX6 ∧ yX6_now.cls ≠ "java/lang/invoke/MethodHandle" ∧ yX6_now.cls ≠ "java/lang/invoke/VarHandle" ∧ (parseMethodDescriptor yX6_now.desc).map (fun d => d.parameters.length) = some 1 := by decide +kernel
set_option maxHeartbeats 4000000 in
set_option maxRecDepth 100000 in
theorem C_X6_now (l : Launch) (dC : Nat → ClassId) (dI : Nat → Nat → Nat) (cI cJ cZ : ClassId) (qa : Nat → Nat) (sz : Nat) (r_images : Nat → Int64) (r_asked : Int64) (n_likings : Nat → Int32) (n_day : Int32) (n_trust : Int32) (n_ill : Int32) (n_done : Int32) (p_befores : Nat → Int64) (p_known : Int32) (t_tears : Nat → Int32) (t_gains : Nat → Int32) (t_likings : Nat → Int32) (t_settings : Nat → Int32) (t_goodbyes : Int32) (t_women : Int32) (a1 : Int32) (r0 : Int32) (hG : gX6_now n_likings n_day n_trust n_ill n_done p_known t_tears t_settings t_goodbyes t_women a1 = some r0) : Met l yX6_now wsX6_now ({ frames := 6, cells := 0, slots := 0, locals := 135 } : Room) (va_Pc [.ref (qa 0), .int a1] (wq_pp (dC, dI) [(cI, .int), (cJ, .long), (cZ, .boolean)] (wcRNPT qa cI cJ cZ r_images r_asked n_likings n_day n_trust n_ill n_done p_befores p_known t_tears t_gains t_likings t_settings t_goodbyes t_women) sz)) (wq_Qi r0 wq_tr (va_A [] sz)) 0 0 (va_A [] sz) := by
  refine Met.ofW (cc := cX6_now) (maxL := 2) (ret := (some .int)) (by decide) rfl ?_
  intro p e s m args below meth c s₁ B hml hv
  obtain ⟨rfl, hsz, hP, hK, hE⟩ := hv
  have hx := B.exec
  have hb := B.bytes
  have hr := B.returns
  have hts := atoms_spec (ws := wsX6_now) B.pre
  have hown : s.vm.findClass RX6 = some m.cls := findClass_of_methodNamed B.named
  have hlocks := B.notSynchronized
  subst hsz
  generalize hAe : va_A [] s.heap.size = A at hE ⊢
  have hA : ∀ q : Nat, s.heap.size ≤ q → A q := fun q h => by rw [← hAe]; exact Or.inr h
  have hS : va_S A s.heap s.heap [] := va_S.rf
  have hinX6 : ∀ w ∈ u_ws RX6 TX6 9, w ∈ wsX6_now := by decide +kernel
  have hinX0 : ∀ w ∈ u_ws RX0 TX0 5, w ∈ wsX6_now := by decide +kernel
  have hinX2 : ∀ w ∈ u_ws RX2 TX2 2, w ∈ wsX6_now := by decide +kernel
  have k1 := hts (.fieldLink RX6 19 "DoorMornings" "today" "LDoorMornings$Now;") (by decide +kernel)
  have k2 := hts (.fieldLink RX6 109 "DoorMornings$Now" "day" "I") (by decide +kernel)
  have k3 := hts (.fieldLink RX6 113 "DoorMornings$Now" "trust" "I") (by decide +kernel)
  have k4 := hts (.fieldLink RX6 116 "DoorMornings$Now" "done" "Z") (by decide +kernel)
  have k5 := hts (.fieldLink RX6 122 "DoorMornings$Now" "ill" "I") (by decide +kernel)
  have k6 := hts (.fieldLink RX6 26 "DoorMornings" "past" "LDoorMornings$Past;") (by decide +kernel)
  have k7 := hts (.fieldLink RX6 125 "DoorMornings$Past" "known" "I") (by decide +kernel)
  have hl := lv_entry ([.ref (qa 0), .int a1]) (n := 2) (Nat.le_of_ble_eq_true rfl)
  rw [lg_entry_eq]
  generalize (lg_sl ([.ref (qa 0), .int a1]) ++ List.replicate (2 - (lg_sl ([.ref (qa 0), .int a1])).length) Slot.unset).toArray = ls at hl ⊢
  have hl : lv_has ls 2 [(0, .ref (qa 0)), (1, .int a1)] := hl
  unfold gX6_now at hG
  refine lv_iload_n hx hb dX6_now_0 rfl (lv_at hl 1 rfl) ?_
  by_cases c1 : a1 = 0
  · replace hG := wq_t c1 hG
    refine lv_tableIn (off := 39) (tgt := 40) hx hb dX6_now_1 (by rw [c1]; decide) (by rw [c1]; decide) (by rw [c1]; decide) (by decide) ?_
    refine lv_aload_n hx hb dX6_now_40 rfl (lv_at hl 0 rfl) ?_
    refine va_get (D := (dC, dI)) (ci := 6) (v := .ref (qa 3)) (C := RX6) (T := TX6) (N := 9) hx hb hts hinX6 hown hK hP 0 rfl rfl 1 (by decide) k1 (fun _ h9 => h9) rfl dX6_now_41 ?_
    refine va_get (D := (dC, dI)) (ci := 0) (v := .int n_day) (C := RX0) (T := TX0) (N := 5) hx hb hts hinX0 hown hK hP 2 rfl rfl 1 (by decide) k2 (fun _ h9 => h9) rfl dX6_now_44 ?_
    exact W.iret (v := n_day) hx hb hr (fun t ht hW => ⟨⟨n_day, (), rfl, ⟨Option.some.inj hG, trivial⟩, trivial⟩, hS.F ht⟩) hS.2.2 dX6_now_47
  · replace hG := wq_f c1 hG
    by_cases c2 : a1 = 1
    · replace hG := wq_t c2 hG
      refine lv_tableIn (off := 47) (tgt := 48) hx hb dX6_now_1 (by rw [c2]; decide) (by rw [c2]; decide) (by rw [c2]; decide) (by decide) ?_
      refine lv_aload_n hx hb dX6_now_48 rfl (lv_at hl 0 rfl) ?_
      refine va_get (D := (dC, dI)) (ci := 6) (v := .ref (qa 3)) (C := RX6) (T := TX6) (N := 9) hx hb hts hinX6 hown hK hP 0 rfl rfl 1 (by decide) k1 (fun _ h9 => h9) rfl dX6_now_49 ?_
      refine va_get (D := (dC, dI)) (ci := 0) (v := .int n_trust) (C := RX0) (T := TX0) (N := 5) hx hb hts hinX0 hown hK hP 2 rfl rfl 2 (by decide) k3 (fun _ h9 => h9) rfl dX6_now_52 ?_
      exact W.iret (v := n_trust) hx hb hr (fun t ht hW => ⟨⟨n_trust, (), rfl, ⟨Option.some.inj hG, trivial⟩, trivial⟩, hS.F ht⟩) hS.2.2 dX6_now_55
    · replace hG := wq_f c2 hG
      by_cases c3 : a1 = 2
      · replace hG := wq_t c3 hG
        refine lv_tableIn (off := 55) (tgt := 56) hx hb dX6_now_1 (by rw [c3]; decide) (by rw [c3]; decide) (by rw [c3]; decide) (by decide) ?_
        refine lv_aload_n hx hb dX6_now_56 rfl (lv_at hl 0 rfl) ?_
        refine va_get (D := (dC, dI)) (ci := 6) (v := .ref (qa 3)) (C := RX6) (T := TX6) (N := 9) hx hb hts hinX6 hown hK hP 0 rfl rfl 1 (by decide) k1 (fun _ h9 => h9) rfl dX6_now_57 ?_
        refine va_get (D := (dC, dI)) (ci := 0) (v := .int n_done) (C := RX0) (T := TX0) (N := 5) hx hb hts hinX0 hown hK hP 2 rfl rfl 4 (by decide) k4 (fun _ h9 => h9) rfl dX6_now_60 ?_
        refine lv_if_eq (tgt := 70) hx hb dX6_now_63 (by decide) (fun c4 => ?_) (fun c4 => ?_)
        · replace hG := wq_t c4 hG
          refine lv_iconst (v := 0) hx hb dX6_now_70 (by decide) ?_
          exact W.iret (v := 0) hx hb hr (fun t ht hW => ⟨⟨0, (), rfl, ⟨Option.some.inj hG, trivial⟩, trivial⟩, hS.F ht⟩) hS.2.2 dX6_now_71
        · replace hG := wq_f c4 hG
          refine lv_iconst (v := 1) hx hb dX6_now_66 (by decide) ?_
          refine lv_goto (tgt := 71) hx hb dX6_now_67 (by decide) ?_
          exact W.iret (v := 1) hx hb hr (fun t ht hW => ⟨⟨1, (), rfl, ⟨Option.some.inj hG, trivial⟩, trivial⟩, hS.F ht⟩) hS.2.2 dX6_now_71
      · replace hG := wq_f c3 hG
        by_cases c5 : a1 = 3
        · replace hG := wq_t c5 hG
          refine lv_tableIn (off := 71) (tgt := 72) hx hb dX6_now_1 (by rw [c5]; decide) (by rw [c5]; decide) (by rw [c5]; decide) (by decide) ?_
          refine lv_aload_n hx hb dX6_now_72 rfl (lv_at hl 0 rfl) ?_
          obtain ⟨v7, g6, hG⟩ := wq_b1_s hG
          refine wq_ci (v := v7) (B := wq_tr) (va_runV (As := []) (rest := []) ⟨hx, hb, hml, hown, hts⟩ (C_X6_bestWoman l dC dI cI cJ cZ qa s.heap.size r_images r_asked n_likings n_day n_trust n_ill n_done t_tears t_gains t_likings t_settings t_goodbyes t_women  v7 g6) (cwV 0 hts gX6_now_X6_bestWoman rfl rfl rfl hdV_X6_bestWoman ⟨Nat.le_of_ble_eq_true rfl, Nat.le_of_ble_eq_true rfl⟩) (wq_ppV hK (hP.sub (ws' := wcRNT qa cI cJ cZ r_images r_asked n_likings n_day n_trust n_ill n_done t_tears t_gains t_likings t_settings t_goodbyes t_women) [0, 1, 2, 3, 6, 7, 8, 9, 10] rfl) hE hS hA (ci := 6) (q0 := 0) rfl rfl) rfl rfl hl.1 rfl (lv_room (Nat.le_of_ble_eq_true rfl)) dX6_now_73 ⟨Nat.zero_le _, Nat.zero_le _⟩) hS hA (fun H locs b8 hk hS => ?_)
          replace hP := wq_kp hP hk
          clear hk
          exact W.iret (v := v7) hx hb hr (fun t ht hW => ⟨⟨v7, (), rfl, ⟨Option.some.inj hG, trivial⟩, trivial⟩, hS.F ht⟩) hS.2.2 dX6_now_76
        · replace hG := wq_f c5 hG
          by_cases c9 : a1 = 4
          · replace hG := wq_t c9 hG
            refine lv_tableIn (off := 76) (tgt := 77) hx hb dX6_now_1 (by rw [c9]; decide) (by rw [c9]; decide) (by rw [c9]; decide) (by decide) ?_
            refine lv_aload_n hx hb dX6_now_77 rfl (lv_at hl 0 rfl) ?_
            refine va_get (D := (dC, dI)) (ci := 6) (v := .ref (qa 3)) (C := RX6) (T := TX6) (N := 9) hx hb hts hinX6 hown hK hP 0 rfl rfl 1 (by decide) k1 (fun _ h9 => h9) rfl dX6_now_78 ?_
            refine va_get (D := (dC, dI)) (ci := 0) (v := .int n_ill) (C := RX0) (T := TX0) (N := 5) hx hb hts hinX0 hown hK hP 2 rfl rfl 3 (by decide) k5 (fun _ h9 => h9) rfl dX6_now_81 ?_
            exact W.iret (v := n_ill) hx hb hr (fun t ht hW => ⟨⟨n_ill, (), rfl, ⟨Option.some.inj hG, trivial⟩, trivial⟩, hS.F ht⟩) hS.2.2 dX6_now_84
          · replace hG := wq_f c9 hG
            by_cases c10 : a1 = 5
            · replace hG := wq_t c10 hG
              refine lv_tableIn (off := 84) (tgt := 85) hx hb dX6_now_1 (by rw [c10]; decide) (by rw [c10]; decide) (by rw [c10]; decide) (by decide) ?_
              refine lv_aload_n hx hb dX6_now_85 rfl (lv_at hl 0 rfl) ?_
              refine va_get (D := (dC, dI)) (ci := 6) (v := .ref (qa 5)) (C := RX6) (T := TX6) (N := 9) hx hb hts hinX6 hown hK hP 0 rfl rfl 2 (by decide) k6 (fun _ h9 => h9) rfl dX6_now_86 ?_
              refine va_get (D := (dC, dI)) (ci := 2) (v := .int p_known) (C := RX2) (T := TX2) (N := 2) hx hb hts hinX2 hown hK hP 4 rfl rfl 1 (by decide) k7 (fun _ h9 => h9) rfl dX6_now_89 ?_
              exact W.iret (v := p_known) hx hb hr (fun t ht hW => ⟨⟨p_known, (), rfl, ⟨Option.some.inj hG, trivial⟩, trivial⟩, hS.F ht⟩) hS.2.2 dX6_now_92
            · replace hG := wq_f c10 hG
              refine lv_tableOut (tgt := 93) hx hb dX6_now_1 (by have e0 := lv_neT c1 (a := 0) (by decide); have e1 := lv_neT c2 (a := 1) (by decide); have e2 := lv_neT c3 (a := 2) (by decide); have e3 := lv_neT c5 (a := 3) (by decide); have e4 := lv_neT c9 (a := 4) (by decide); have e5 := lv_neT c10 (a := 5) (by decide); omega) (by decide) ?_
              refine lv_iconst (v := (-1)) hx hb dX6_now_93 (by decide) ?_
              exact W.iret (v := (-1)) hx hb hr (fun t ht hW => ⟨⟨(-1), (), rfl, ⟨Option.some.inj hG, trivial⟩, trivial⟩, hS.F ht⟩) hS.2.2 dX6_now_94

theorem hdS_X6_isLength : yX6_isLength.cls ≠ "java/lang/invoke/MethodHandle" ∧ yX6_isLength.cls ≠ "java/lang/invoke/VarHandle" ∧ (parseMethodDescriptor yX6_isLength.desc).map (fun d => d.parameters.length) = some 1 := by decide +kernel
set_option maxHeartbeats 4000000 in
set_option maxRecDepth 100000 in
theorem C_X6_isLength (l : Launch) (dC : Nat → ClassId) (dI : Nat → Nat → Nat) (cI cJ cZ : ClassId) (qa : Nat → Nat) (sz : Nat) (a0 : Int32) (r0 : Int32) (hG : gX6_isLength a0 = some r0) : Met l yX6_isLength wsX6_isLength ({ frames := 0, cells := 0, slots := 0, locals := 0 } : Room) (va_Pc [.int a0] (wq_pp (dC, dI) [(cI, .int), (cJ, .long), (cZ, .boolean)] ([]) sz)) (wq_Qi r0 wq_Z1 (va_A [] sz)) 0 0 (va_A [] sz) := by
  refine Met.ofW (cc := cX6_isLength) (maxL := 1) (ret := (some .boolean)) (by decide) rfl ?_
  intro p e s m args below meth c s₁ B hml hv
  obtain ⟨rfl, hsz, hP, hK, hE⟩ := hv
  have hx := B.exec
  have hb := B.bytes
  have hr := B.returns
  have hts := atoms_spec (ws := wsX6_isLength) B.pre
  have hown : s.vm.findClass RX6 = some m.cls := findClass_of_methodNamed B.named
  have hlocks := B.notSynchronized
  subst hsz
  generalize hAe : va_A [] s.heap.size = A at hE ⊢
  have hA : ∀ q : Nat, s.heap.size ≤ q → A q := fun q h => by rw [← hAe]; exact Or.inr h
  have hS : va_S A s.heap s.heap [] := va_S.rf
  have hl := lv_entry ([.int a0]) (n := 1) (Nat.le_of_ble_eq_true rfl)
  rw [lg_entry_eq]
  generalize (lg_sl ([.int a0]) ++ List.replicate (1 - (lg_sl ([.int a0])).length) Slot.unset).toArray = ls at hl ⊢
  have hl : lv_has ls 1 [(0, .int a0)] := hl
  unfold gX6_isLength at hG
  refine lv_iload_n hx hb dX6_isLength_0 rfl (lv_at hl 0 rfl) ?_
  refine lv_iconst (v := 1) hx hb dX6_isLength_1 (by decide) ?_
  refine lv_icmp_lt (tgt := 15) hx hb dX6_isLength_2 (by decide) (fun c1 => ?_) (fun c1 => ?_)
  · replace hG := wq_t c1 hG
    refine lv_iconst (v := 0) hx hb dX6_isLength_15 (by decide) ?_
    exact W.zret (v := 0) hx hb hr (wq_Z1_n (Or.inl rfl)) (fun t ht hW => ⟨⟨0, (), rfl, ⟨Option.some.inj hG, (Or.inl rfl)⟩, trivial⟩, hS.F ht⟩) hS.2.2 dX6_isLength_16
  · replace hG := wq_f c1 hG
    refine lv_iload_n hx hb dX6_isLength_5 rfl (lv_at hl 0 rfl) ?_
    refine lv_bipush (v := 96) hx hb dX6_isLength_6 (by decide) ?_
    refine lv_icmp_gt (tgt := 15) hx hb dX6_isLength_8 (by decide) (fun c2 => ?_) (fun c2 => ?_)
    · replace hG := wq_t c2 hG
      refine lv_iconst (v := 0) hx hb dX6_isLength_15 (by decide) ?_
      exact W.zret (v := 0) hx hb hr (wq_Z1_n (Or.inl rfl)) (fun t ht hW => ⟨⟨0, (), rfl, ⟨Option.some.inj hG, (Or.inl rfl)⟩, trivial⟩, hS.F ht⟩) hS.2.2 dX6_isLength_16
    · replace hG := wq_f c2 hG
      refine lv_iconst (v := 1) hx hb dX6_isLength_11 (by decide) ?_
      refine lv_goto (tgt := 16) hx hb dX6_isLength_12 (by decide) ?_
      exact W.zret (v := 1) hx hb hr (wq_Z1_n (Or.inr rfl)) (fun t ht hW => ⟨⟨1, (), rfl, ⟨Option.some.inj hG, (Or.inr rfl)⟩, trivial⟩, hS.F ht⟩) hS.2.2 dX6_isLength_16

theorem hdV_X6_isMorning : yX6_isMorning.cls = RX6 ∧ yX6_isMorning.cls ≠ "java/lang/invoke/MethodHandle" ∧ yX6_isMorning.cls ≠ "java/lang/invoke/VarHandle" ∧ (parseMethodDescriptor yX6_isMorning.desc).map (fun d => d.parameters.length) = some 3 := by decide +kernel
set_option maxHeartbeats 4000000 in
set_option maxRecDepth 100000 in
theorem C_X6_isMorning (l : Launch) (dC : Nat → ClassId) (dI : Nat → Nat → Nat) (cI cJ cZ : ClassId) (qa : Nat → Nat) (sz : Nat) (r_images : Nat → Int64) (r_asked : Int64) (t_tears : Nat → Int32) (t_gains : Nat → Int32) (t_likings : Nat → Int32) (t_settings : Nat → Int32) (t_goodbyes : Int32) (t_women : Int32) (a1 : Int32) (a2 : Int32) (a3 : Int32) (r0 : Int32) (hG : gX6_isMorning t_goodbyes t_women a1 a2 a3 = some r0) : Met l yX6_isMorning wsX6_isMorning ({ frames := 1, cells := 0, slots := 0, locals := 21 } : Room) (va_Pc [.ref (qa 0), .int a1, .int a2, .int a3] (wq_pp (dC, dI) [(cI, .int), (cJ, .long), (cZ, .boolean)] (wcRT qa cI cJ cZ r_images r_asked t_tears t_gains t_likings t_settings t_goodbyes t_women) sz)) (wq_Qi r0 wq_Z1 (va_A [] sz)) 0 0 (va_A [] sz) := by
  refine Met.ofW (cc := cX6_isMorning) (maxL := 4) (ret := (some .boolean)) (by decide) rfl ?_
  intro p e s m args below meth c s₁ B hml hv
  obtain ⟨rfl, hsz, hP, hK, hE⟩ := hv
  have hx := B.exec
  have hb := B.bytes
  have hr := B.returns
  have hts := atoms_spec (ws := wsX6_isMorning) B.pre
  have hown : s.vm.findClass RX6 = some m.cls := findClass_of_methodNamed B.named
  have hlocks := B.notSynchronized
  subst hsz
  generalize hAe : va_A [] s.heap.size = A at hE ⊢
  have hA : ∀ q : Nat, s.heap.size ≤ q → A q := fun q h => by rw [← hAe]; exact Or.inr h
  have hS : va_S A s.heap s.heap [] := va_S.rf
  have hinX6 : ∀ w ∈ u_ws RX6 TX6 9, w ∈ wsX6_isMorning := by decide +kernel
  have k1 := hts (.fieldLink RX6 53 "DoorMornings" "told" "LDoorMornings$Told;") (by decide +kernel)
  have hl := lv_entry ([.ref (qa 0), .int a1, .int a2, .int a3]) (n := 4) (Nat.le_of_ble_eq_true rfl)
  rw [lg_entry_eq]
  generalize (lg_sl ([.ref (qa 0), .int a1, .int a2, .int a3]) ++ List.replicate (4 - (lg_sl ([.ref (qa 0), .int a1, .int a2, .int a3])).length) Slot.unset).toArray = ls at hl ⊢
  have hl : lv_has ls 4 [(0, .ref (qa 0)), (1, .int a1), (2, .int a2), (3, .int a3)] := hl
  unfold gX6_isMorning at hG
  refine lv_aload_n hx hb dX6_isMorning_0 rfl (lv_at hl 0 rfl) ?_
  refine va_get (D := (dC, dI)) (ci := 6) (v := .ref (qa 16)) (C := RX6) (T := TX6) (N := 9) hx hb hts hinX6 hown hK hP 0 rfl rfl 6 (by decide) k1 (fun _ h9 => h9) rfl dX6_isMorning_1 ?_
  refine lv_iload_n hx hb dX6_isMorning_4 rfl (lv_at hl 1 rfl) ?_
  obtain ⟨v2, g1, hG⟩ := wq_b1_s hG
  refine wq_ci (v := v2) (B := wq_Z1) (va_runV (As := [.int a1]) (rest := []) ⟨hx, hb, hml, hown, hts⟩ (C_X5_hasGoodbye l dC dI cI cJ cZ qa s.heap.size t_tears t_gains t_likings t_settings t_goodbyes t_women a1 v2 g1) (cwV 1 hts gX6_isMorning_X5_hasGoodbye rfl rfl rfl hdV_X5_hasGoodbye ⟨Nat.le_of_ble_eq_true rfl, Nat.le_of_ble_eq_true rfl⟩) (wq_ppV hK (hP.sub (ws' := wcT qa cI cJ cZ t_tears t_gains t_likings t_settings t_goodbyes t_women) [2, 3, 4, 5, 6] rfl) hE hS hA (ci := 5) (q0 := 0) rfl rfl) rfl rfl hl.1 rfl (lv_room (Nat.le_of_ble_eq_true rfl)) dX6_isMorning_5 ⟨Nat.zero_le _, Nat.zero_le _⟩) hS hA (fun H locs b3 hk hS => ?_)
  replace hP := wq_kp hP hk
  clear hk
  refine lv_if_eq (tgt := 33) hx hb dX6_isMorning_8 (by decide) (fun c4 => ?_) (fun c4 => ?_)
  · replace hG := wq_t c4 hG
    refine lv_iconst (v := 0) hx hb dX6_isMorning_33 (by decide) ?_
    exact W.zret (v := 0) hx hb hr (wq_Z1_n (Or.inl rfl)) (fun t ht hW => ⟨⟨0, (), rfl, ⟨Option.some.inj hG, (Or.inl rfl)⟩, trivial⟩, hS.F ht⟩) hS.2.2 dX6_isMorning_34
  · replace hG := wq_f c4 hG
    refine lv_iload_n hx hb dX6_isMorning_11 rfl (lv_at hl 2 rfl) ?_
    obtain ⟨v6, g5, hG⟩ := wq_b1_s hG
    refine wq_ci (v := v6) (B := wq_Z1) (va_runS (As := [.int a2]) (rest := []) ⟨hx, hb, hml, hown, hts⟩ (C_X6_isLength l dC dI cI cJ cZ qa H.size  a2 v6 g5) (va_cwS 1 hts gX6_isMorning_X6_isLength rfl rfl rfl hdS_X6_isLength ⟨Nat.le_of_ble_eq_true rfl, Nat.le_of_ble_eq_true rfl⟩) (wq_ppS hK (hP.sub (ws' := []) [] rfl) hE hS hA) rfl rfl hl.1 rfl (lv_room (Nat.le_of_ble_eq_true rfl)) dX6_isMorning_12 ⟨Nat.zero_le _, Nat.zero_le _⟩) hS hA (fun H locs b7 hk hS => ?_)
    replace hP := wq_kp hP hk
    clear hk
    refine lv_if_eq (tgt := 33) hx hb dX6_isMorning_15 (by decide) (fun c8 => ?_) (fun c8 => ?_)
    · replace hG := wq_t c8 hG
      refine lv_iconst (v := 0) hx hb dX6_isMorning_33 (by decide) ?_
      exact W.zret (v := 0) hx hb hr (wq_Z1_n (Or.inl rfl)) (fun t ht hW => ⟨⟨0, (), rfl, ⟨Option.some.inj hG, (Or.inl rfl)⟩, trivial⟩, hS.F ht⟩) hS.2.2 dX6_isMorning_34
    · replace hG := wq_f c8 hG
      refine lv_aload_n hx hb dX6_isMorning_18 rfl (lv_at hl 0 rfl) ?_
      refine va_get (D := (dC, dI)) (ci := 6) (v := .ref (qa 16)) (C := RX6) (T := TX6) (N := 9) hx hb hts hinX6 hown hK hP 0 rfl rfl 6 (by decide) k1 (fun _ h9 => h9) rfl dX6_isMorning_19 ?_
      refine lv_iload_n hx hb dX6_isMorning_22 rfl (lv_at hl 3 rfl) ?_
      obtain ⟨v10, g9, hG⟩ := wq_b1_s hG
      refine wq_ci (v := v10) (B := wq_Z1) (va_runV (As := [.int a3]) (rest := []) ⟨hx, hb, hml, hown, hts⟩ (C_X5_hasWoman l dC dI cI cJ cZ qa H.size t_tears t_gains t_likings t_settings t_goodbyes t_women a3 v10 g9) (cwV 1 hts gX6_isMorning_X5_hasWoman rfl rfl rfl hdV_X5_hasWoman ⟨Nat.le_of_ble_eq_true rfl, Nat.le_of_ble_eq_true rfl⟩) (wq_ppV hK (hP.sub (ws' := wcT qa cI cJ cZ t_tears t_gains t_likings t_settings t_goodbyes t_women) [2, 3, 4, 5, 6] rfl) hE hS hA (ci := 5) (q0 := 0) rfl rfl) rfl rfl hl.1 rfl (lv_room (Nat.le_of_ble_eq_true rfl)) dX6_isMorning_23 ⟨Nat.zero_le _, Nat.zero_le _⟩) hS hA (fun H locs b11 hk hS => ?_)
      replace hP := wq_kp hP hk
      clear hk
      refine lv_if_eq (tgt := 33) hx hb dX6_isMorning_26 (by decide) (fun c12 => ?_) (fun c12 => ?_)
      · replace hG := wq_t c12 hG
        refine lv_iconst (v := 0) hx hb dX6_isMorning_33 (by decide) ?_
        exact W.zret (v := 0) hx hb hr (wq_Z1_n (Or.inl rfl)) (fun t ht hW => ⟨⟨0, (), rfl, ⟨Option.some.inj hG, (Or.inl rfl)⟩, trivial⟩, hS.F ht⟩) hS.2.2 dX6_isMorning_34
      · replace hG := wq_f c12 hG
        refine lv_iconst (v := 1) hx hb dX6_isMorning_29 (by decide) ?_
        refine lv_goto (tgt := 34) hx hb dX6_isMorning_30 (by decide) ?_
        exact W.zret (v := 1) hx hb hr (wq_Z1_n (Or.inr rfl)) (fun t ht hW => ⟨⟨1, (), rfl, ⟨Option.some.inj hG, (Or.inr rfl)⟩, trivial⟩, hS.F ht⟩) hS.2.2 dX6_isMorning_34

theorem hdV_X0_folded : yX0_folded.cls = RX0 ∧ yX0_folded.cls ≠ "java/lang/invoke/MethodHandle" ∧ yX0_folded.cls ≠ "java/lang/invoke/VarHandle" ∧ (parseMethodDescriptor yX0_folded.desc).map (fun d => d.parameters.length) = some 0 := by decide +kernel
set_option maxHeartbeats 4000000 in
set_option maxRecDepth 100000 in
theorem C_X0_folded (l : Launch) (dC : Nat → ClassId) (dI : Nat → Nat → Nat) (cI cJ cZ : ClassId) (qa : Nat → Nat) (sz : Nat) (n_likings : Nat → Int32) (n_day : Int32) (n_trust : Int32) (n_ill : Int32) (n_done : Int32) (r0 : Int64) (hG : gX0_folded n_likings n_day n_trust n_ill n_done = some r0) : Met l yX0_folded wsX0_folded ({ frames := 0, cells := 0, slots := 0, locals := 0 } : Room) (va_Pc [.ref (qa 3)] (wq_pp (dC, dI) [(cI, .int), (cJ, .long), (cZ, .boolean)] (wcN qa cI cJ cZ n_likings n_day n_trust n_ill n_done) sz)) (wq_Ql r0 (va_A [] sz)) 0 0 (va_A [] sz) := by
  refine Met.ofW (cc := cX0_folded) (maxL := 4) (ret := (some .long)) (by decide) rfl ?_
  intro p e s m args below meth c s₁ B hml hv
  obtain ⟨rfl, hsz, hP, hK, hE⟩ := hv
  have hx := B.exec
  have hb := B.bytes
  have hr := B.returns
  have hts := atoms_spec (ws := wsX0_folded) B.pre
  have hown : s.vm.findClass RX0 = some m.cls := findClass_of_methodNamed B.named
  have hlocks := B.notSynchronized
  subst hsz
  generalize hAe : va_A [] s.heap.size = A at hE ⊢
  have hA : ∀ q : Nat, s.heap.size ≤ q → A q := fun q h => by rw [← hAe]; exact Or.inr h
  have hS : va_S A s.heap s.heap [] := va_S.rf
  have hinX0 : ∀ w ∈ u_ws RX0 TX0 5, w ∈ wsX0_folded := by decide +kernel
  have k1 := hts (.fieldLink RX0 22 "DoorMornings$Now" "ill" "I") (by decide +kernel)
  have k2 := hts (.fieldLink RX0 25 "DoorMornings$Now" "done" "Z") (by decide +kernel)
  have k3 := hts (.fieldLink RX0 9 "DoorMornings$Now" "likings" "[I") (by decide +kernel)
  have k4 := hts (.fieldLink RX0 15 "DoorMornings$Now" "day" "I") (by decide +kernel)
  have k5 := hts (.fieldLink RX0 19 "DoorMornings$Now" "trust" "I") (by decide +kernel)
  have hl := lv_entry ([.ref (qa 3)]) (n := 4) (Nat.le_of_ble_eq_true rfl)
  rw [lg_entry_eq]
  generalize (lg_sl ([.ref (qa 3)]) ++ List.replicate (4 - (lg_sl ([.ref (qa 3)])).length) Slot.unset).toArray = ls at hl ⊢
  have hl : lv_has ls 4 [(0, .ref (qa 3))] := hl
  have hL18 : ∀  (n : Nat) (x1 : Int64) (x3 : Int32) (H : Heap) (locs : List Loc) (ls : Array Slot), gX0_folded_L18 n_likings n_ill n_done n x1 x3 = some r0 → va_P (dC, dI) vwCl (wcN qa cI cJ cZ n_likings n_day n_trust n_ill n_done) H → va_S A s.heap H locs → lv_has ls 4 [(0, .ref (qa 3)), (1, .long x1), (3, .int x3)] → W p l e (headSpec wsX0_folded ({ frames := 0, cells := 0, slots := 0, locals := 0 } : Room)).room s m ([.ref (qa 3)] : List Value).toArray below meth c H locs 0 0 (MQ below (wq_Ql r0 A) ([.ref (qa 3)] : List Value).toArray s 0 0 A) (F0 m 18 ls []) := by
    intro  n
    induction n with
    | zero =>
      intro x1 x3 H locs ls hG
      exact absurd (show (none : Option (Int64)) = some r0 from hG) (by intro h9; cases h9)
    | succ n ih18 =>
      intro x1 x3 H locs ls hG hP hS hl
      rw [gX0_folded_L18] at hG
      refine lv_iload_n hx hb dX0_folded_18 rfl (lv_at hl 2 rfl) ?_
      refine lv_iconst (v := 4) hx hb dX0_folded_19 (by decide) ?_
      refine lv_icmp_ge (tgt := 41) hx hb dX0_folded_20 (by decide) (fun c1 => ?_) (fun c1 => ?_)
      · replace hG := wq_t c1 hG
        refine lv_lload_n hx hb dX0_folded_41 rfl (lv_at hl 1 rfl) ?_
        refine lv_iconst (v := 4) hx hb dX0_folded_42 (by decide) ?_
        refine lv_lshl hx hb dX0_folded_43 rfl ?_
        refine lv_aload_n hx hb dX0_folded_44 rfl (lv_at hl 0 rfl) ?_
        refine va_get (D := (dC, dI)) (ci := 0) (v := .int n_ill) (C := RX0) (T := TX0) (N := 5) hx hb hts hinX0 hown hK hP 0 rfl rfl 3 (by decide) k1 (fun _ h9 => h9) rfl dX0_folded_45 ?_
        refine lv_i2l hx hb dX0_folded_48 rfl ?_
        refine lv_lor hx hb dX0_folded_49 ?_
        refine lv_lstore_n (lv' := [(1, .long ((x1 <<< (Int32.toInt64 4 &&& 63)) ||| (Int32.toInt64 n_ill))), (0, .ref (qa 3)), (3, .int x3)]) hx hb dX0_folded_50 rfl hl (by decide) rfl (fun ls hl => ?_)
        refine lv_lload_n hx hb dX0_folded_51 rfl (lv_at hl 0 rfl) ?_
        refine lv_iconst (v := 1) hx hb dX0_folded_52 (by decide) ?_
        refine lv_lshl hx hb dX0_folded_53 rfl ?_
        refine lv_aload_n hx hb dX0_folded_54 rfl (lv_at hl 1 rfl) ?_
        refine va_get (D := (dC, dI)) (ci := 0) (v := .int n_done) (C := RX0) (T := TX0) (N := 5) hx hb hts hinX0 hown hK hP 0 rfl rfl 4 (by decide) k2 (fun _ h9 => h9) rfl dX0_folded_55 ?_
        refine lv_if_eq (tgt := 65) hx hb dX0_folded_58 (by decide) (fun c2 => ?_) (fun c2 => ?_)
        · replace hG := wq_t c2 hG
          refine lv_iconst (v := 0) hx hb dX0_folded_65 (by decide) ?_
          refine lv_i2l hx hb dX0_folded_66 rfl ?_
          refine lv_lor hx hb dX0_folded_67 ?_
          exact W.lret (v := ((((x1 <<< (Int32.toInt64 4 &&& 63)) ||| (Int32.toInt64 n_ill)) <<< (Int32.toInt64 1 &&& 63)) ||| (Int32.toInt64 0))) hx hb hr (fun t ht hW => ⟨⟨((((x1 <<< (Int32.toInt64 4 &&& 63)) ||| (Int32.toInt64 n_ill)) <<< (Int32.toInt64 1 &&& 63)) ||| (Int32.toInt64 0)), (), rfl, Option.some.inj hG, trivial⟩, hS.F ht⟩) hS.2.2 dX0_folded_68
        · replace hG := wq_f c2 hG
          refine lv_iconst (v := 1) hx hb dX0_folded_61 (by decide) ?_
          refine lv_goto (tgt := 66) hx hb dX0_folded_62 (by decide) ?_
          refine lv_i2l hx hb dX0_folded_66 rfl ?_
          refine lv_lor hx hb dX0_folded_67 ?_
          exact W.lret (v := ((((x1 <<< (Int32.toInt64 4 &&& 63)) ||| (Int32.toInt64 n_ill)) <<< (Int32.toInt64 1 &&& 63)) ||| (Int32.toInt64 1))) hx hb hr (fun t ht hW => ⟨⟨((((x1 <<< (Int32.toInt64 4 &&& 63)) ||| (Int32.toInt64 n_ill)) <<< (Int32.toInt64 1 &&& 63)) ||| (Int32.toInt64 1)), (), rfl, Option.some.inj hG, trivial⟩, hS.F ht⟩) hS.2.2 dX0_folded_68
      · replace hG := wq_f c1 hG
        refine lv_lload_n hx hb dX0_folded_23 rfl (lv_at hl 1 rfl) ?_
        refine lv_iconst (v := 4) hx hb dX0_folded_24 (by decide) ?_
        refine lv_lshl hx hb dX0_folded_25 rfl ?_
        refine lv_aload_n hx hb dX0_folded_26 rfl (lv_at hl 0 rfl) ?_
        refine va_get (D := (dC, dI)) (ci := 0) (v := .ref (qa 4)) (C := RX0) (T := TX0) (N := 5) hx hb hts hinX0 hown hK hP 0 rfl rfl 0 (by decide) k3 (fun _ h9 => h9) rfl dX0_folded_27 ?_
        refine lv_iload_n hx hb dX0_folded_30 rfl (lv_at hl 2 rfl) ?_
        obtain ⟨h3, hG⟩ := wq_chk_s hG
        refine wq_iald (D := (dC, dI)) hx hb hK hP 1 0 rfl rfl h3 (Int32.toNatClampNeg x3) rfl dX0_folded_31 ?_
        refine lv_i2l hx hb dX0_folded_32 rfl ?_
        refine lv_lor hx hb dX0_folded_33 ?_
        refine lv_lstore_n (lv' := [(1, .long ((x1 <<< (Int32.toInt64 4 &&& 63)) ||| (Int32.toInt64 (n_likings (Int32.toNatClampNeg x3))))), (0, .ref (qa 3)), (3, .int x3)]) hx hb dX0_folded_34 rfl hl (by decide) rfl (fun ls hl => ?_)
        refine lv_iinc (v := (x3 + 1)) (lv' := [(3, .int (x3 + 1)), (1, .long ((x1 <<< (Int32.toInt64 4 &&& 63)) ||| (Int32.toInt64 (n_likings (Int32.toNatClampNeg x3))))), (0, .ref (qa 3))]) hx hb dX0_folded_35 hl (k := 2) rfl rfl (by decide) rfl (fun ls hl => ?_)
        refine lv_goto (tgt := 18) hx hb dX0_folded_38 (by decide) ?_
        exact ih18 ((x1 <<< (Int32.toInt64 4 &&& 63)) ||| (Int32.toInt64 (n_likings (Int32.toNatClampNeg x3)))) (x3 + 1) _ _ _ hG hP hS (lv_sub hl [2, 1, 0] rfl)
  unfold gX0_folded at hG
  refine lv_aload_n hx hb dX0_folded_0 rfl (lv_at hl 0 rfl) ?_
  refine va_get (D := (dC, dI)) (ci := 0) (v := .int n_day) (C := RX0) (T := TX0) (N := 5) hx hb hts hinX0 hown hK hP 0 rfl rfl 1 (by decide) k4 (fun _ h9 => h9) rfl dX0_folded_1 ?_
  refine lv_i2l hx hb dX0_folded_4 rfl ?_
  refine lv_lstore_n (lv' := [(1, .long (Int32.toInt64 n_day)), (0, .ref (qa 3))]) hx hb dX0_folded_5 rfl hl (by decide) rfl (fun ls hl => ?_)
  refine lv_lload_n hx hb dX0_folded_6 rfl (lv_at hl 0 rfl) ?_
  refine lv_iconst (v := 5) hx hb dX0_folded_7 (by decide) ?_
  refine lv_lshl hx hb dX0_folded_8 rfl ?_
  refine lv_aload_n hx hb dX0_folded_9 rfl (lv_at hl 1 rfl) ?_
  refine va_get (D := (dC, dI)) (ci := 0) (v := .int n_trust) (C := RX0) (T := TX0) (N := 5) hx hb hts hinX0 hown hK hP 0 rfl rfl 2 (by decide) k5 (fun _ h9 => h9) rfl dX0_folded_10 ?_
  refine lv_i2l hx hb dX0_folded_13 rfl ?_
  refine lv_lor hx hb dX0_folded_14 ?_
  refine lv_lstore_n (lv' := [(1, .long (((Int32.toInt64 n_day) <<< (Int32.toInt64 5 &&& 63)) ||| (Int32.toInt64 n_trust))), (0, .ref (qa 3))]) hx hb dX0_folded_15 rfl hl (by decide) rfl (fun ls hl => ?_)
  refine lv_iconst (v := 0) hx hb dX0_folded_16 (by decide) ?_
  refine lv_istore_n (lv' := [(3, .int 0), (1, .long (((Int32.toInt64 n_day) <<< (Int32.toInt64 5 &&& 63)) ||| (Int32.toInt64 n_trust))), (0, .ref (qa 3))]) hx hb dX0_folded_17 rfl hl (by decide) rfl (fun ls hl => ?_)
  exact hL18  1000 (((Int32.toInt64 n_day) <<< (Int32.toInt64 5 &&& 63)) ||| (Int32.toInt64 n_trust)) 0 _ _ _ hG hP hS (lv_sub hl [2, 1, 0] rfl)

