theorem hdV_X7_nursery : yX7_nursery.cls = RX7 ∧ yX7_nursery.cls ≠ "java/lang/invoke/MethodHandle" ∧ yX7_nursery.cls ≠ "java/lang/invoke/VarHandle" ∧ (parseMethodDescriptor yX7_nursery.desc).map (fun d => d.parameters.length) = some 0 := by decide +kernel
set_option maxHeartbeats 4000000 in
set_option maxRecDepth 100000 in
theorem C_X7_nursery (l : Launch) (dC : Nat → ClassId) (dI : Nat → Nat → Nat) (cI cJ cZ : ClassId) (qa : Nat → Nat) (sz : Nat) (m_trace : Int64) (m_text : Nat → Int32) (m_typed : Int32) (m_told : Nat → Int32) (m_draft : Nat → Int32) (m_s : Nat → Int32) (m_past : Nat → Int32) (m_known : Int32) (m_images : Nat → Int32) (m_kept : Nat → Int32) (m_notes : Nat → Int32) (m_noted : Int32) (m_at : Int32) (m_sort : Int32) (m_start : Int32) (m_value : Int32) (m_steps : Nat → Int32) (m_rows : Nat → Int32) (m_held : Nat → Int32) (r0 : Int32) (r_m_typed : Int32) (r_m_told : Nat → Int32) (r_m_draft : Nat → Int32) (r_m_s : Nat → Int32) (r_m_known : Int32) (r_m_kept : Nat → Int32) (r_m_noted : Int32) (r_m_at : Int32) (r_m_sort : Int32) (r_m_start : Int32) (r_m_value : Int32) (hG : gX7_nursery m_text m_typed m_told m_draft m_s m_known m_kept m_noted m_at m_sort m_start m_value = some (r0, r_m_typed, r_m_told, r_m_draft, r_m_s, r_m_known, r_m_kept, r_m_noted, r_m_at, r_m_sort, r_m_start, r_m_value)) : Met l yX7_nursery wsX7_nursery ({ frames := 7, cells := 0, slots := 0, locals := 153 } : Room) (va_Pc [.ref (qa 0)] (wq_pw (dC, dI) [(cI, .int), (cJ, .long), (cZ, .boolean)] (wcM qa cI cJ cZ m_trace m_text m_typed m_told m_draft m_s m_past m_known m_images m_kept m_notes m_noted m_at m_sort m_start m_value m_steps m_rows m_held) sz)) (wq_Wi (dC, dI) r0 wq_tr (wcM qa cI cJ cZ m_trace m_text r_m_typed r_m_told r_m_draft r_m_s m_past r_m_known m_images r_m_kept m_notes r_m_noted r_m_at r_m_sort r_m_start r_m_value m_steps m_rows m_held) (va_A (wcM qa cI cJ cZ m_trace m_text m_typed m_told m_draft m_s m_past m_known m_images m_kept m_notes m_noted m_at m_sort m_start m_value m_steps m_rows m_held) sz)) 0 0 (va_A (wcM qa cI cJ cZ m_trace m_text m_typed m_told m_draft m_s m_past m_known m_images m_kept m_notes m_noted m_at m_sort m_start m_value m_steps m_rows m_held) sz) := by
  refine Met.ofW (cc := cX7_nursery) (maxL := 1) (ret := (some .int)) (by decide) rfl ?_
  intro p e s m args below meth c s₁ B hml hv
  obtain ⟨rfl, hsz, hP, hK, hD0, hE⟩ := hv
  have hx := B.exec
  have hb := B.bytes
  have hr := B.returns
  have hts := atoms_spec (ws := wsX7_nursery) B.pre
  have hown : s.vm.findClass RX7 = some m.cls := findClass_of_methodNamed B.named
  have hlocks := B.notSynchronized
  subst hsz
  have hD := hD0.self (sz := s.heap.size)
  generalize hAe : va_A (wcM qa cI cJ cZ m_trace m_text m_typed m_told m_draft m_s m_past m_known m_images m_kept m_notes m_noted m_at m_sort m_start m_value m_steps m_rows m_held) s.heap.size = A at hD hE ⊢
  have hA : ∀ q : Nat, s.heap.size ≤ q → A q := fun q h => by rw [← hAe]; exact Or.inr h
  have hS : va_S A s.heap s.heap [] := va_S.rf
  have hinX7 : ∀ w ∈ u_ws RX7 TX7 19, w ∈ wsX7_nursery := by decide +kernel
  have k1 := hts (.fieldLink RX7 55 "DoorMorningsModel" "typed" "I") (by decide +kernel)
  have k2 := hts (.fieldLink RX7 13 "DoorMorningsModel" "told" "[I") (by decide +kernel)
  have k3 := hts (.fieldLink RX7 66 "DoorMorningsModel" "start" "I") (by decide +kernel)
  have hl := lv_entry ([.ref (qa 0)]) (n := 1) (Nat.le_of_ble_eq_true rfl)
  rw [lg_entry_eq]
  generalize (lg_sl ([.ref (qa 0)]) ++ List.replicate (1 - (lg_sl ([.ref (qa 0)])).length) Slot.unset).toArray = ls at hl ⊢
  have hl : lv_has ls 1 [(0, .ref (qa 0))] := hl
  unfold gX7_nursery at hG
  refine lv_aload_n hx hb dX7_nursery_0 rfl (lv_at hl 0 rfl) ?_
  obtain ⟨v2, w3, w4, w5, w6, w7, g1, hG⟩ := wq_b6_s hG
  have hFc := va_free (wc := wcM qa cI cJ cZ m_trace m_text m_typed m_told m_draft m_s m_past m_known m_images m_kept m_notes m_noted m_at m_sort m_start m_value m_steps m_rows m_held) hD hS hA [0, 1, 2, 3, 4, 5, 6, 7, 8, 9, 10, 11] rfl
  refine wq_di (D := (dC, dI)) (v := v2) (B := wq_Z1) (wr := []) (w1 := wcM qa cI cJ cZ m_trace m_text m_typed m_told w3 m_s m_past m_known m_images m_kept m_notes m_noted w4 w5 w6 w7 m_steps m_rows m_held) (w2 := wcM qa cI cJ cZ m_trace m_text m_typed m_told w3 m_s m_past m_known m_images m_kept m_notes m_noted w4 w5 w6 w7 m_steps m_rows m_held) (va_runV (As := []) (rest := []) ⟨hx, hb, hml, hown, hts⟩ (C_X7_reads l dC dI cI cJ cZ qa s.heap.size m_trace m_text m_typed m_told m_draft m_s m_past m_known m_images m_kept m_notes m_noted m_at m_sort m_start m_value m_steps m_rows m_held  v2 w3 w4 w5 w6 w7 g1) (cwV 0 hts gX7_nursery_X7_reads rfl rfl rfl hdV_X7_reads ⟨Nat.le_of_ble_eq_true rfl, Nat.le_of_ble_eq_true rfl⟩) (wq_pwV hK hP hD hE hS hFc (ci := 7) (q0 := 0) rfl rfl) rfl rfl hl.1 rfl (lv_room (Nat.le_of_ble_eq_true rfl)) dX7_nursery_1 ⟨Nat.zero_le _, Nat.zero_le _⟩) hP hD hS hFc [0, 1, 2, 3, 4, 5, 6, 7, 8, 9, 10, 11] [] [0, 1, 2, 3, 4, 5, 6, 7, 8, 9, 10, 11] rfl rfl (by decide) (by decide) (by decide) rfl (fun H locs b8 hP hD hS => ?_)
  clear hFc
  refine lv_if_ne (tgt := 15) hx hb dX7_nursery_4 (by decide) (fun c9 => ?_) (fun c9 => ?_)
  · replace hG := wq_f c9 hG
    refine lv_aload_n hx hb dX7_nursery_15 rfl (lv_at hl 0 rfl) ?_
    obtain ⟨w11, w12, w13, w14, w15, g10, hG⟩ := wq_b5_s hG
    have hFc := va_free (wc := wcM qa cI cJ cZ m_trace m_text m_typed m_told w3 m_s m_past m_known m_images m_kept m_notes m_noted w4 w5 w6 w7 m_steps m_rows m_held) hD hS hA [0, 1, 2, 3, 4, 5, 6, 7, 8, 9, 10, 11] rfl
    refine wq_dv (D := (dC, dI)) (wr := []) (w1 := wcM qa cI cJ cZ m_trace m_text m_typed w11 w3 w12 m_past w13 m_images w14 m_notes w15 w4 w5 w6 w7 m_steps m_rows m_held) (w2 := wcM qa cI cJ cZ m_trace m_text m_typed w11 w3 w12 m_past w13 m_images w14 m_notes w15 w4 w5 w6 w7 m_steps m_rows m_held) (va_runV (As := []) (rest := []) ⟨hx, hb, hml, hown, hts⟩ (C_X7_begins l dC dI cI cJ cZ qa H.size m_trace m_text m_typed m_told w3 m_s m_past m_known m_images m_kept m_notes m_noted w4 w5 w6 w7 m_steps m_rows m_held  w11 w12 w13 w14 w15 g10) (cwV 0 hts gX7_nursery_X7_begins rfl rfl rfl hdV_X7_begins ⟨Nat.le_of_ble_eq_true rfl, Nat.le_of_ble_eq_true rfl⟩) (wq_pwV hK hP hD hE hS hFc (ci := 7) (q0 := 0) rfl rfl) rfl rfl hl.1 rfl (lv_room (Nat.le_of_ble_eq_true rfl)) dX7_nursery_16 ⟨Nat.zero_le _, Nat.zero_le _⟩) hP hD hS hFc [0, 1, 2, 3, 4, 5, 6, 7, 8, 9, 10, 11] [] [0, 1, 2, 3, 4, 5, 6, 7, 8, 9, 10, 11] rfl rfl (by decide) (by decide) (by decide) rfl (fun H locs hP hD hS => ?_)
    clear hFc
    refine lv_aload_n hx hb dX7_nursery_19 rfl (lv_at hl 0 rfl) ?_
    refine lv_iconst (v := 0) hx hb dX7_nursery_20 (by decide) ?_
    refine va_put (D := (dC, dI)) (ci := 7) (v := .int 0) (ty := tyX7 2) (C := RX7) (T := TX7) (N := 19) hx hb hts hinX7 tyX7 tyX7_ok nmX7 hown hK hP hD hS 0 rfl rfl 2 (by decide) k1 (fun _ h9 => h9) rfl (tyX7_ok 2 (by decide)) rfl rfl (Nat.le_of_ble_eq_true rfl) dX7_nursery_21 (fun H locs hP hD hS => ?_)
    replace hP : va_P (dC, dI) vwCl (wcM qa cI cJ cZ m_trace m_text 0 w11 w3 w12 m_past w13 m_images w14 m_notes w15 w4 w5 w6 w7 m_steps m_rows m_held) H := hP
    replace hD : va_D A (wcM qa cI cJ cZ m_trace m_text 0 w11 w3 w12 m_past w13 m_images w14 m_notes w15 w4 w5 w6 w7 m_steps m_rows m_held) := hD
    refine lv_aload_n hx hb dX7_nursery_24 rfl (lv_at hl 0 rfl) ?_
    refine va_get (D := (dC, dI)) (ci := 7) (v := .ref (qa 2)) (C := RX7) (T := TX7) (N := 19) hx hb hts hinX7 hown hK hP 0 rfl rfl 3 (by decide) k2 (fun _ h9 => h9) rfl dX7_nursery_25 ?_
    refine lv_bipush (v := 6) hx hb dX7_nursery_28 (by decide) ?_
    refine wq_iald (D := (dC, dI)) hx hb hK hP 2 0 rfl rfl (wq_lit (by decide)) 6 rfl dX7_nursery_30 ?_
    obtain ⟨e0, e1, e2, e3, e4, e5, e6, e7, e8, e9, e10, e11⟩ := wq_j12 hG
    subst e0
    subst e1
    subst e2
    subst e3
    subst e4
    subst e5
    subst e6
    subst e7
    subst e8
    subst e9
    subst e10
    subst e11
    exact W.iret hx hb hr (fun t ht hW => ⟨⟨_, (), rfl, ⟨rfl, trivial⟩, by rw [ht]; exact hP, hD⟩, hS.F ht⟩) hS.2.2 dX7_nursery_31
  · replace hG := wq_t c9 hG
    refine lv_bipush (v := (-10)) hx hb dX7_nursery_7 (by decide) ?_
    refine lv_aload_n hx hb dX7_nursery_9 rfl (lv_at hl 0 rfl) ?_
    refine va_get (D := (dC, dI)) (ci := 7) (v := .int w6) (C := RX7) (T := TX7) (N := 19) hx hb hts hinX7 hown hK hP 0 rfl rfl 14 (by decide) k3 (fun _ h9 => h9) rfl dX7_nursery_10 ?_
    refine lv_isub hx hb dX7_nursery_13 ?_
    obtain ⟨e0, e1, e2, e3, e4, e5, e6, e7, e8, e9, e10, e11⟩ := wq_j12 hG
    subst e0
    subst e1
    subst e2
    subst e3
    subst e4
    subst e5
    subst e6
    subst e7
    subst e8
    subst e9
    subst e10
    subst e11
    exact W.iret hx hb hr (fun t ht hW => ⟨⟨_, (), rfl, ⟨rfl, trivial⟩, by rw [ht]; exact hP, hD⟩, hS.F ht⟩) hS.2.2 dX7_nursery_14

theorem hdV_X7_goodbye : yX7_goodbye.cls = RX7 ∧ yX7_goodbye.cls ≠ "java/lang/invoke/MethodHandle" ∧ yX7_goodbye.cls ≠ "java/lang/invoke/VarHandle" ∧ (parseMethodDescriptor yX7_goodbye.desc).map (fun d => d.parameters.length) = some 2 := by decide +kernel
set_option maxHeartbeats 4000000 in
set_option maxRecDepth 100000 in
theorem C_X7_goodbye (l : Launch) (dC : Nat → ClassId) (dI : Nat → Nat → Nat) (cI cJ cZ : ClassId) (qa : Nat → Nat) (sz : Nat) (m_trace : Int64) (m_text : Nat → Int32) (m_typed : Int32) (m_told : Nat → Int32) (m_draft : Nat → Int32) (m_s : Nat → Int32) (m_past : Nat → Int32) (m_known : Int32) (m_images : Nat → Int32) (m_kept : Nat → Int32) (m_notes : Nat → Int32) (m_noted : Int32) (m_at : Int32) (m_sort : Int32) (m_start : Int32) (m_value : Int32) (m_steps : Nat → Int32) (m_rows : Nat → Int32) (m_held : Nat → Int32) (a1 : Int32) (a2 : Int32) (r0 : Int32) (hG : gX7_goodbye m_told a1 a2 = some r0) : Met l yX7_goodbye wsX7_goodbye ({ frames := 2, cells := 0, slots := 0, locals := 43 } : Room) (va_Pc [.ref (qa 0), .int a1, .int a2] (wq_pp (dC, dI) [(cI, .int), (cJ, .long), (cZ, .boolean)] (wcM qa cI cJ cZ m_trace m_text m_typed m_told m_draft m_s m_past m_known m_images m_kept m_notes m_noted m_at m_sort m_start m_value m_steps m_rows m_held) sz)) (wq_Qi r0 wq_tr (va_A [] sz)) 0 0 (va_A [] sz) := by
  refine Met.ofW (cc := cX7_goodbye) (maxL := 3) (ret := (some .int)) (by decide) rfl ?_
  intro p e s m args below meth c s₁ B hml hv
  obtain ⟨rfl, hsz, hP, hK, hE⟩ := hv
  have hx := B.exec
  have hb := B.bytes
  have hr := B.returns
  have hts := atoms_spec (ws := wsX7_goodbye) B.pre
  have hown : s.vm.findClass RX7 = some m.cls := findClass_of_methodNamed B.named
  have hlocks := B.notSynchronized
  subst hsz
  generalize hAe : va_A [] s.heap.size = A at hE ⊢
  have hA : ∀ q : Nat, s.heap.size ≤ q → A q := fun q h => by rw [← hAe]; exact Or.inr h
  have hS : va_S A s.heap s.heap [] := va_S.rf
  have hinX7 : ∀ w ∈ u_ws RX7 TX7 19, w ∈ wsX7_goodbye := by decide +kernel
  have k1 := hts (.fieldLink RX7 13 "DoorMorningsModel" "told" "[I") (by decide +kernel)
  have hl := lv_entry ([.ref (qa 0), .int a1, .int a2]) (n := 3) (Nat.le_of_ble_eq_true rfl)
  rw [lg_entry_eq]
  generalize (lg_sl ([.ref (qa 0), .int a1, .int a2]) ++ List.replicate (3 - (lg_sl ([.ref (qa 0), .int a1, .int a2])).length) Slot.unset).toArray = ls at hl ⊢
  have hl : lv_has ls 3 [(0, .ref (qa 0)), (1, .int a1), (2, .int a2)] := hl
  unfold gX7_goodbye at hG
  refine lv_aload_n hx hb dX7_goodbye_0 rfl (lv_at hl 0 rfl) ?_
  refine lv_iload_n hx hb dX7_goodbye_1 rfl (lv_at hl 1 rfl) ?_
  obtain ⟨v2, g1, hG⟩ := wq_b1_s hG
  refine wq_ci (v := v2) (B := wq_Z1) (va_runV (As := [.int a1]) (rest := []) ⟨hx, hb, hml, hown, hts⟩ (C_X7_isGoodbye l dC dI cI cJ cZ qa s.heap.size m_trace m_text m_typed m_told m_draft m_s m_past m_known m_images m_kept m_notes m_noted m_at m_sort m_start m_value m_steps m_rows m_held a1 v2 g1) (cwV 1 hts gX7_goodbye_X7_isGoodbye rfl rfl rfl hdV_X7_isGoodbye ⟨Nat.le_of_ble_eq_true rfl, Nat.le_of_ble_eq_true rfl⟩) (wq_ppV hK hP hE hS hA (ci := 7) (q0 := 0) rfl rfl) rfl rfl hl.1 rfl (lv_room (Nat.le_of_ble_eq_true rfl)) dX7_goodbye_2 ⟨Nat.zero_le _, Nat.zero_le _⟩) hS hA (fun H locs b3 hk hS => ?_)
  replace hP := wq_kp hP hk
  clear hk
  refine lv_if_eq (tgt := 17) hx hb dX7_goodbye_5 (by decide) (fun c4 => ?_) (fun c4 => ?_)
  · replace hG := wq_t c4 hG
    refine lv_iconst (v := (-1)) hx hb dX7_goodbye_17 (by decide) ?_
    refine lv_goto (tgt := 39) hx hb dX7_goodbye_18 (by decide) ?_
    exact W.iret (v := (-1)) hx hb hr (fun t ht hW => ⟨⟨(-1), (), rfl, ⟨Option.some.inj hG, trivial⟩, trivial⟩, hS.F ht⟩) hS.2.2 dX7_goodbye_39
  · replace hG := wq_f c4 hG
    refine lv_iload_n hx hb dX7_goodbye_8 rfl (lv_at hl 2 rfl) ?_
    refine lv_iconst (v := 0) hx hb dX7_goodbye_9 (by decide) ?_
    refine lv_iconst (v := 1) hx hb dX7_goodbye_10 (by decide) ?_
    obtain ⟨v6, g5, hG⟩ := wq_b1_s hG
    refine wq_ci (v := v6) (B := wq_Z1) (va_runS (As := [.int a2, .int 0, .int 1]) (rest := []) ⟨hx, hb, hml, hown, hts⟩ (C_X7_in l dC dI cI cJ cZ qa H.size  a2 0 1 v6 g5) (va_cwS 3 hts gX7_goodbye_X7_in rfl rfl rfl hdS_X7_in ⟨Nat.le_of_ble_eq_true rfl, Nat.le_of_ble_eq_true rfl⟩) (wq_ppS hK (hP.sub (ws' := []) [] rfl) hE hS hA) rfl rfl hl.1 rfl (lv_room (Nat.le_of_ble_eq_true rfl)) dX7_goodbye_11 ⟨Nat.zero_le _, Nat.zero_le _⟩) hS hA (fun H locs b7 hk hS => ?_)
    replace hP := wq_kp hP hk
    clear hk
    refine lv_if_ne (tgt := 21) hx hb dX7_goodbye_14 (by decide) (fun c8 => ?_) (fun c8 => ?_)
    · replace hG := wq_f c8 hG
      refine lv_aload_n hx hb dX7_goodbye_21 rfl (lv_at hl 0 rfl) ?_
      refine va_get (D := (dC, dI)) (ci := 7) (v := .ref (qa 2)) (C := RX7) (T := TX7) (N := 19) hx hb hts hinX7 hown hK hP 0 rfl rfl 3 (by decide) k1 (fun _ h9 => h9) rfl dX7_goodbye_22 ?_
      refine lv_iload_n hx hb dX7_goodbye_25 rfl (lv_at hl 2 rfl) ?_
      refine lv_if_ne (tgt := 34) hx hb dX7_goodbye_26 (by decide) (fun c9 => ?_) (fun c9 => ?_)
      · replace hG := wq_f c9 hG
        refine lv_bipush (v := 13) hx hb dX7_goodbye_34 (by decide) ?_
        refine lv_iload_n hx hb dX7_goodbye_36 rfl (lv_at hl 1 rfl) ?_
        refine lv_iadd hx hb dX7_goodbye_37 ?_
        obtain ⟨h10, hG⟩ := wq_chk_s hG
        refine wq_iald (D := (dC, dI)) hx hb hK hP 2 0 rfl rfl h10 (Int32.toNatClampNeg (13 + a1)) rfl dX7_goodbye_38 ?_
        exact W.iret (v := (m_told (Int32.toNatClampNeg (13 + a1)))) hx hb hr (fun t ht hW => ⟨⟨(m_told (Int32.toNatClampNeg (13 + a1))), (), rfl, ⟨Option.some.inj hG, trivial⟩, trivial⟩, hS.F ht⟩) hS.2.2 dX7_goodbye_39
      · replace hG := wq_t c9 hG
        refine lv_bipush (v := 8) hx hb dX7_goodbye_29 (by decide) ?_
        refine lv_goto (tgt := 36) hx hb dX7_goodbye_31 (by decide) ?_
        refine lv_iload_n hx hb dX7_goodbye_36 rfl (lv_at hl 1 rfl) ?_
        refine lv_iadd hx hb dX7_goodbye_37 ?_
        obtain ⟨h11, hG⟩ := wq_chk_s hG
        refine wq_iald (D := (dC, dI)) hx hb hK hP 2 0 rfl rfl h11 (Int32.toNatClampNeg (8 + a1)) rfl dX7_goodbye_38 ?_
        exact W.iret (v := (m_told (Int32.toNatClampNeg (8 + a1)))) hx hb hr (fun t ht hW => ⟨⟨(m_told (Int32.toNatClampNeg (8 + a1))), (), rfl, ⟨Option.some.inj hG, trivial⟩, trivial⟩, hS.F ht⟩) hS.2.2 dX7_goodbye_39
    · replace hG := wq_t c8 hG
      refine lv_iconst (v := (-1)) hx hb dX7_goodbye_17 (by decide) ?_
      refine lv_goto (tgt := 39) hx hb dX7_goodbye_18 (by decide) ?_
      exact W.iret (v := (-1)) hx hb hr (fun t ht hW => ⟨⟨(-1), (), rfl, ⟨Option.some.inj hG, trivial⟩, trivial⟩, hS.F ht⟩) hS.2.2 dX7_goodbye_39

theorem hdS_X7_ones : yX7_ones.cls ≠ "java/lang/invoke/MethodHandle" ∧ yX7_ones.cls ≠ "java/lang/invoke/VarHandle" ∧ (parseMethodDescriptor yX7_ones.desc).map (fun d => d.parameters.length) = some 1 := by decide +kernel
set_option maxHeartbeats 4000000 in
set_option maxRecDepth 100000 in
theorem C_X7_ones (l : Launch) (dC : Nat → ClassId) (dI : Nat → Nat → Nat) (cI cJ cZ : ClassId) (qa : Nat → Nat) (sz : Nat) (a0 : Int32) (r0 : Int32) (hG : gX7_ones a0 = some r0) : Met l yX7_ones wsX7_ones ({ frames := 0, cells := 0, slots := 0, locals := 0 } : Room) (va_Pc [.int a0] (wq_pp (dC, dI) [(cI, .int), (cJ, .long), (cZ, .boolean)] ([]) sz)) (wq_Qi r0 wq_tr (va_A [] sz)) 0 0 (va_A [] sz) := by
  refine Met.ofW (cc := cX7_ones) (maxL := 3) (ret := (some .int)) (by decide) rfl ?_
  intro p e s m args below meth c s₁ B hml hv
  obtain ⟨rfl, hsz, hP, hK, hE⟩ := hv
  have hx := B.exec
  have hb := B.bytes
  have hr := B.returns
  have hts := atoms_spec (ws := wsX7_ones) B.pre
  have hown : s.vm.findClass RX7 = some m.cls := findClass_of_methodNamed B.named
  have hlocks := B.notSynchronized
  subst hsz
  generalize hAe : va_A [] s.heap.size = A at hE ⊢
  have hA : ∀ q : Nat, s.heap.size ≤ q → A q := fun q h => by rw [← hAe]; exact Or.inr h
  have hS : va_S A s.heap s.heap [] := va_S.rf
  have hl := lv_entry ([.int a0]) (n := 3) (Nat.le_of_ble_eq_true rfl)
  rw [lg_entry_eq]
  generalize (lg_sl ([.int a0]) ++ List.replicate (3 - (lg_sl ([.int a0])).length) Slot.unset).toArray = ls at hl ⊢
  have hl : lv_has ls 3 [(0, .int a0)] := hl
  have hL4 : ∀  (n : Nat) (x1 : Int32) (x2 : Int32) (H : Heap) (locs : List Loc) (ls : Array Slot), gX7_ones_L4 a0 n x1 x2 = some r0 → va_P (dC, dI) vwCl ([]) H → va_S A s.heap H locs → lv_has ls 3 [(0, .int a0), (1, .int x1), (2, .int x2)] → W p l e (headSpec wsX7_ones ({ frames := 0, cells := 0, slots := 0, locals := 0 } : Room)).room s m ([.int a0] : List Value).toArray below meth c H locs 0 0 (MQ below (wq_Qi r0 wq_tr A) ([.int a0] : List Value).toArray s 0 0 A) (F0 m 4 ls []) := by
    intro  n
    induction n with
    | zero =>
      intro x1 x2 H locs ls hG
      exact absurd (show (none : Option (Int32)) = some r0 from hG) (by intro h9; cases h9)
    | succ n ih4 =>
      intro x1 x2 H locs ls hG hP hS hl
      rw [gX7_ones_L4] at hG
      refine lv_iload_n hx hb dX7_ones_4 rfl (lv_at hl 2 rfl) ?_
      refine lv_iconst (v := 4) hx hb dX7_ones_5 (by decide) ?_
      refine lv_icmp_ge (tgt := 23) hx hb dX7_ones_6 (by decide) (fun c1 => ?_) (fun c1 => ?_)
      · replace hG := wq_t c1 hG
        refine lv_iload_n hx hb dX7_ones_23 rfl (lv_at hl 1 rfl) ?_
        exact W.iret (v := x1) hx hb hr (fun t ht hW => ⟨⟨x1, (), rfl, ⟨Option.some.inj hG, trivial⟩, trivial⟩, hS.F ht⟩) hS.2.2 dX7_ones_24
      · replace hG := wq_f c1 hG
        refine lv_iload_n hx hb dX7_ones_9 rfl (lv_at hl 1 rfl) ?_
        refine lv_iload_n hx hb dX7_ones_10 rfl (lv_at hl 0 rfl) ?_
        refine lv_iload_n hx hb dX7_ones_11 rfl (lv_at hl 2 rfl) ?_
        refine lv_ishr hx hb dX7_ones_12 ?_
        refine lv_iconst (v := 1) hx hb dX7_ones_13 (by decide) ?_
        refine lv_iand hx hb dX7_ones_14 ?_
        refine lv_iadd hx hb dX7_ones_15 ?_
        refine lv_istore_n (lv' := [(1, .int (x1 + ((a0 >>> (x2 &&& 31)) &&& 1))), (0, .int a0), (2, .int x2)]) hx hb dX7_ones_16 rfl hl (by decide) rfl (fun ls hl => ?_)
        refine lv_iinc (v := (x2 + 1)) (lv' := [(2, .int (x2 + 1)), (1, .int (x1 + ((a0 >>> (x2 &&& 31)) &&& 1))), (0, .int a0)]) hx hb dX7_ones_17 hl (k := 2) rfl rfl (by decide) rfl (fun ls hl => ?_)
        refine lv_goto (tgt := 4) hx hb dX7_ones_20 (by decide) ?_
        exact ih4 (x1 + ((a0 >>> (x2 &&& 31)) &&& 1)) (x2 + 1) _ _ _ hG hP hS (lv_sub hl [2, 1, 0] rfl)
  unfold gX7_ones at hG
  refine lv_iconst (v := 0) hx hb dX7_ones_0 (by decide) ?_
  refine lv_istore_n (lv' := [(1, .int 0), (0, .int a0)]) hx hb dX7_ones_1 rfl hl (by decide) rfl (fun ls hl => ?_)
  refine lv_iconst (v := 0) hx hb dX7_ones_2 (by decide) ?_
  refine lv_istore_n (lv' := [(2, .int 0), (1, .int 0), (0, .int a0)]) hx hb dX7_ones_3 rfl hl (by decide) rfl (fun ls hl => ?_)
  exact hL4  1000 0 0 _ _ _ hG hP hS (lv_sub hl [2, 1, 0] rfl)

theorem hdV_X7_isIll : yX7_isIll.cls = RX7 ∧ yX7_isIll.cls ≠ "java/lang/invoke/MethodHandle" ∧ yX7_isIll.cls ≠ "java/lang/invoke/VarHandle" ∧ (parseMethodDescriptor yX7_isIll.desc).map (fun d => d.parameters.length) = some 1 := by decide +kernel
set_option maxHeartbeats 4000000 in
set_option maxRecDepth 100000 in
theorem C_X7_isIll (l : Launch) (dC : Nat → ClassId) (dI : Nat → Nat → Nat) (cI cJ cZ : ClassId) (qa : Nat → Nat) (sz : Nat) (m_trace : Int64) (m_text : Nat → Int32) (m_typed : Int32) (m_told : Nat → Int32) (m_draft : Nat → Int32) (m_s : Nat → Int32) (m_past : Nat → Int32) (m_known : Int32) (m_images : Nat → Int32) (m_kept : Nat → Int32) (m_notes : Nat → Int32) (m_noted : Int32) (m_at : Int32) (m_sort : Int32) (m_start : Int32) (m_value : Int32) (m_steps : Nat → Int32) (m_rows : Nat → Int32) (m_held : Nat → Int32) (a1 : Int32) (r0 : Int32) (hG : gX7_isIll m_s a1 = some r0) : Met l yX7_isIll wsX7_isIll ({ frames := 0, cells := 0, slots := 0, locals := 0 } : Room) (va_Pc [.ref (qa 0), .int a1] (wq_pp (dC, dI) [(cI, .int), (cJ, .long), (cZ, .boolean)] (wcM qa cI cJ cZ m_trace m_text m_typed m_told m_draft m_s m_past m_known m_images m_kept m_notes m_noted m_at m_sort m_start m_value m_steps m_rows m_held) sz)) (wq_Qi r0 wq_Z1 (va_A [] sz)) 0 0 (va_A [] sz) := by
  refine Met.ofW (cc := cX7_isIll) (maxL := 2) (ret := (some .boolean)) (by decide) rfl ?_
  intro p e s m args below meth c s₁ B hml hv
  obtain ⟨rfl, hsz, hP, hK, hE⟩ := hv
  have hx := B.exec
  have hb := B.bytes
  have hr := B.returns
  have hts := atoms_spec (ws := wsX7_isIll) B.pre
  have hown : s.vm.findClass RX7 = some m.cls := findClass_of_methodNamed B.named
  have hlocks := B.notSynchronized
  subst hsz
  generalize hAe : va_A [] s.heap.size = A at hE ⊢
  have hA : ∀ q : Nat, s.heap.size ≤ q → A q := fun q h => by rw [← hAe]; exact Or.inr h
  have hS : va_S A s.heap s.heap [] := va_S.rf
  have hinX7 : ∀ w ∈ u_ws RX7 TX7 19, w ∈ wsX7_isIll := by decide +kernel
  have k1 := hts (.fieldLink RX7 19 "DoorMorningsModel" "s" "[I") (by decide +kernel)
  have hl := lv_entry ([.ref (qa 0), .int a1]) (n := 2) (Nat.le_of_ble_eq_true rfl)
  rw [lg_entry_eq]
  generalize (lg_sl ([.ref (qa 0), .int a1]) ++ List.replicate (2 - (lg_sl ([.ref (qa 0), .int a1])).length) Slot.unset).toArray = ls at hl ⊢
  have hl : lv_has ls 2 [(0, .ref (qa 0)), (1, .int a1)] := hl
  unfold gX7_isIll at hG
  refine lv_aload_n hx hb dX7_isIll_0 rfl (lv_at hl 0 rfl) ?_
  refine va_get (D := (dC, dI)) (ci := 7) (v := .ref (qa 4)) (C := RX7) (T := TX7) (N := 19) hx hb hts hinX7 hown hK hP 0 rfl rfl 5 (by decide) k1 (fun _ h9 => h9) rfl dX7_isIll_1 ?_
  refine lv_iconst (v := 3) hx hb dX7_isIll_4 (by decide) ?_
  refine wq_iald (D := (dC, dI)) hx hb hK hP 4 0 rfl rfl (wq_lit (by decide)) 3 rfl dX7_isIll_5 ?_
  refine lv_iload_n hx hb dX7_isIll_6 rfl (lv_at hl 1 rfl) ?_
  refine lv_ishr hx hb dX7_isIll_7 ?_
  refine lv_iconst (v := 1) hx hb dX7_isIll_8 (by decide) ?_
  refine lv_iand hx hb dX7_isIll_9 ?_
  refine lv_iconst (v := 1) hx hb dX7_isIll_10 (by decide) ?_
  refine lv_icmp_ne (tgt := 18) hx hb dX7_isIll_11 (by decide) (fun c1 => ?_) (fun c1 => ?_)
  · replace hG := wq_f c1 hG
    refine lv_iconst (v := 0) hx hb dX7_isIll_18 (by decide) ?_
    exact W.zret (v := 0) hx hb hr (wq_Z1_n (Or.inl rfl)) (fun t ht hW => ⟨⟨0, (), rfl, ⟨Option.some.inj hG, (Or.inl rfl)⟩, trivial⟩, hS.F ht⟩) hS.2.2 dX7_isIll_19
  · replace hG := wq_t c1 hG
    refine lv_iconst (v := 1) hx hb dX7_isIll_14 (by decide) ?_
    refine lv_goto (tgt := 19) hx hb dX7_isIll_15 (by decide) ?_
    exact W.zret (v := 1) hx hb hr (wq_Z1_n (Or.inr rfl)) (fun t ht hW => ⟨⟨1, (), rfl, ⟨Option.some.inj hG, (Or.inr rfl)⟩, trivial⟩, hS.F ht⟩) hS.2.2 dX7_isIll_19

theorem hdV_X7_calmTo : yX7_calmTo.cls = RX7 ∧ yX7_calmTo.cls ≠ "java/lang/invoke/MethodHandle" ∧ yX7_calmTo.cls ≠ "java/lang/invoke/VarHandle" ∧ (parseMethodDescriptor yX7_calmTo.desc).map (fun d => d.parameters.length) = some 3 := by decide +kernel
set_option maxHeartbeats 4000000 in
set_option maxRecDepth 100000 in
theorem C_X7_calmTo (l : Launch) (dC : Nat → ClassId) (dI : Nat → Nat → Nat) (cI cJ cZ : ClassId) (qa : Nat → Nat) (sz : Nat) (m_trace : Int64) (m_text : Nat → Int32) (m_typed : Int32) (m_told : Nat → Int32) (m_draft : Nat → Int32) (m_s : Nat → Int32) (m_past : Nat → Int32) (m_known : Int32) (m_images : Nat → Int32) (m_kept : Nat → Int32) (m_notes : Nat → Int32) (m_noted : Int32) (m_at : Int32) (m_sort : Int32) (m_start : Int32) (m_value : Int32) (m_steps : Nat → Int32) (m_rows : Nat → Int32) (m_held : Nat → Int32) (a1 : Int32) (a2 : Int32) (a3 : Int32) (r0 : Int32) (hG : gX7_calmTo m_told a1 a2 a3 = some r0) : Met l yX7_calmTo wsX7_calmTo ({ frames := 0, cells := 0, slots := 0, locals := 0 } : Room) (va_Pc [.ref (qa 0), .int a1, .int a2, .int a3] (wq_pp (dC, dI) [(cI, .int), (cJ, .long), (cZ, .boolean)] (wcM qa cI cJ cZ m_trace m_text m_typed m_told m_draft m_s m_past m_known m_images m_kept m_notes m_noted m_at m_sort m_start m_value m_steps m_rows m_held) sz)) (wq_Qi r0 wq_tr (va_A [] sz)) 0 0 (va_A [] sz) := by
  refine Met.ofW (cc := cX7_calmTo) (maxL := 6) (ret := (some .int)) (by decide) rfl ?_
  intro p e s m args below meth c s₁ B hml hv
  obtain ⟨rfl, hsz, hP, hK, hE⟩ := hv
  have hx := B.exec
  have hb := B.bytes
  have hr := B.returns
  have hts := atoms_spec (ws := wsX7_calmTo) B.pre
  have hown : s.vm.findClass RX7 = some m.cls := findClass_of_methodNamed B.named
  have hlocks := B.notSynchronized
  subst hsz
  generalize hAe : va_A [] s.heap.size = A at hE ⊢
  have hA : ∀ q : Nat, s.heap.size ≤ q → A q := fun q h => by rw [← hAe]; exact Or.inr h
  have hS : va_S A s.heap s.heap [] := va_S.rf
  have hinX7 : ∀ w ∈ u_ws RX7 TX7 19, w ∈ wsX7_calmTo := by decide +kernel
  have k1 := hts (.fieldLink RX7 13 "DoorMorningsModel" "told" "[I") (by decide +kernel)
  have hl := lv_entry ([.ref (qa 0), .int a1, .int a2, .int a3]) (n := 6) (Nat.le_of_ble_eq_true rfl)
  rw [lg_entry_eq]
  generalize (lg_sl ([.ref (qa 0), .int a1, .int a2, .int a3]) ++ List.replicate (6 - (lg_sl ([.ref (qa 0), .int a1, .int a2, .int a3])).length) Slot.unset).toArray = ls at hl ⊢
  have hl : lv_has ls 6 [(0, .ref (qa 0)), (1, .int a1), (2, .int a2), (3, .int a3)] := hl
  unfold gX7_calmTo at hG
  refine lv_aload_n hx hb dX7_calmTo_0 rfl (lv_at hl 0 rfl) ?_
  refine va_get (D := (dC, dI)) (ci := 7) (v := .ref (qa 2)) (C := RX7) (T := TX7) (N := 19) hx hb hts hinX7 hown hK hP 0 rfl rfl 3 (by decide) k1 (fun _ h9 => h9) rfl dX7_calmTo_1 ?_
  refine lv_iconst (v := 3) hx hb dX7_calmTo_4 (by decide) ?_
  refine wq_iald (D := (dC, dI)) hx hb hK hP 2 0 rfl rfl (wq_lit (by decide)) 3 rfl dX7_calmTo_5 ?_
  refine lv_iload_n hx hb dX7_calmTo_6 rfl (lv_at hl 3 rfl) ?_
  refine lv_iadd hx hb dX7_calmTo_7 ?_
  refine lv_aload_n hx hb dX7_calmTo_8 rfl (lv_at hl 0 rfl) ?_
  refine va_get (D := (dC, dI)) (ci := 7) (v := .ref (qa 2)) (C := RX7) (T := TX7) (N := 19) hx hb hts hinX7 hown hK hP 0 rfl rfl 3 (by decide) k1 (fun _ h9 => h9) rfl dX7_calmTo_9 ?_
  refine lv_bipush (v := 8) hx hb dX7_calmTo_12 (by decide) ?_
  refine lv_iload_n hx hb dX7_calmTo_14 rfl (lv_at hl 1 rfl) ?_
  refine lv_iadd hx hb dX7_calmTo_15 ?_
  obtain ⟨h1, hG⟩ := wq_chk_s hG
  refine wq_iald (D := (dC, dI)) hx hb hK hP 2 0 rfl rfl h1 (Int32.toNatClampNeg (8 + a1)) rfl dX7_calmTo_16 ?_
  refine lv_isub hx hb dX7_calmTo_17 ?_
  refine lv_istore (lv' := [(4, .int (((m_told 3) + a3) - (m_told (Int32.toNatClampNeg (8 + a1))))), (0, .ref (qa 0)), (1, .int a1), (2, .int a2), (3, .int a3)]) hx hb dX7_calmTo_18 hl (by decide) rfl (fun ls hl => ?_)
  refine lv_iload hx hb dX7_calmTo_20 (lv_at hl 0 rfl) ?_
  refine lv_if_ge (tgt := 29) hx hb dX7_calmTo_22 (by decide) (fun c2 => ?_) (fun c2 => ?_)
  · replace hG := wq_t c2 hG
    refine lv_iconst (v := 2) hx hb dX7_calmTo_29 (by decide) ?_
    refine lv_iload_n hx hb dX7_calmTo_30 rfl (lv_at hl 3 rfl) ?_
    refine lv_imul hx hb dX7_calmTo_31 ?_
    refine lv_iload hx hb dX7_calmTo_32 (lv_at hl 0 rfl) ?_
    refine lv_aload_n hx hb dX7_calmTo_34 rfl (lv_at hl 1 rfl) ?_
    refine va_get (D := (dC, dI)) (ci := 7) (v := .ref (qa 2)) (C := RX7) (T := TX7) (N := 19) hx hb hts hinX7 hown hK hP 0 rfl rfl 3 (by decide) k1 (fun _ h9 => h9) rfl dX7_calmTo_35 ?_
    refine lv_iconst (v := 2) hx hb dX7_calmTo_38 (by decide) ?_
    refine wq_iald (D := (dC, dI)) hx hb hK hP 2 0 rfl rfl (wq_lit (by decide)) 2 rfl dX7_calmTo_39 ?_
    obtain ⟨z3, hG⟩ := wq_nz_s hG
    refine lv_idiv hx hb dX7_calmTo_40 z3 ?_
    refine lv_iadd hx hb dX7_calmTo_41 ?_
    refine lv_istore (lv' := [(5, .int ((2 * a2) + ((((m_told 3) + a3) - (m_told (Int32.toNatClampNeg (8 + a1)))) / (m_told 2)))), (4, .int (((m_told 3) + a3) - (m_told (Int32.toNatClampNeg (8 + a1))))), (0, .ref (qa 0)), (1, .int a1), (2, .int a2), (3, .int a3)]) hx hb dX7_calmTo_42 hl (by decide) rfl (fun ls hl => ?_)
    refine lv_iload hx hb dX7_calmTo_44 (lv_at hl 0 rfl) ?_
    refine lv_bipush (v := 96) hx hb dX7_calmTo_46 (by decide) ?_
    refine lv_icmp_le (tgt := 56) hx hb dX7_calmTo_48 (by decide) (fun c4 => ?_) (fun c4 => ?_)
    · replace hG := wq_t c4 hG
      refine lv_iload hx hb dX7_calmTo_56 (lv_at hl 0 rfl) ?_
      exact W.iret (v := ((2 * a2) + ((((m_told 3) + a3) - (m_told (Int32.toNatClampNeg (8 + a1)))) / (m_told 2)))) hx hb hr (fun t ht hW => ⟨⟨((2 * a2) + ((((m_told 3) + a3) - (m_told (Int32.toNatClampNeg (8 + a1)))) / (m_told 2))), (), rfl, ⟨Option.some.inj hG, trivial⟩, trivial⟩, hS.F ht⟩) hS.2.2 dX7_calmTo_58
    · replace hG := wq_f c4 hG
      refine lv_bipush (v := 96) hx hb dX7_calmTo_51 (by decide) ?_
      refine lv_goto (tgt := 58) hx hb dX7_calmTo_53 (by decide) ?_
      exact W.iret (v := 96) hx hb hr (fun t ht hW => ⟨⟨96, (), rfl, ⟨Option.some.inj hG, trivial⟩, trivial⟩, hS.F ht⟩) hS.2.2 dX7_calmTo_58
  · replace hG := wq_f c2 hG
    refine lv_iconst (v := 0) hx hb dX7_calmTo_25 (by decide) ?_
    refine lv_goto (tgt := 42) hx hb dX7_calmTo_26 (by decide) ?_
    refine lv_istore (lv' := [(5, .int 0), (4, .int (((m_told 3) + a3) - (m_told (Int32.toNatClampNeg (8 + a1))))), (0, .ref (qa 0)), (1, .int a1), (2, .int a2), (3, .int a3)]) hx hb dX7_calmTo_42 hl (by decide) rfl (fun ls hl => ?_)
    refine lv_iload hx hb dX7_calmTo_44 (lv_at hl 0 rfl) ?_
    refine lv_bipush (v := 96) hx hb dX7_calmTo_46 (by decide) ?_
    refine lv_icmp_le (tgt := 56) hx hb dX7_calmTo_48 (by decide) (fun c5 => ?_) (fun c5 => absurd (by decide) c5)
    refine lv_iload hx hb dX7_calmTo_56 (lv_at hl 0 rfl) ?_
    exact W.iret (v := 0) hx hb hr (fun t ht hW => ⟨⟨0, (), rfl, ⟨Option.some.inj hG, trivial⟩, trivial⟩, hS.F ht⟩) hS.2.2 dX7_calmTo_58

theorem hdV_X7_wildFrom : yX7_wildFrom.cls = RX7 ∧ yX7_wildFrom.cls ≠ "java/lang/invoke/MethodHandle" ∧ yX7_wildFrom.cls ≠ "java/lang/invoke/VarHandle" ∧ (parseMethodDescriptor yX7_wildFrom.desc).map (fun d => d.parameters.length) = some 3 := by decide +kernel
set_option maxHeartbeats 4000000 in
set_option maxRecDepth 100000 in
theorem C_X7_wildFrom (l : Launch) (dC : Nat → ClassId) (dI : Nat → Nat → Nat) (cI cJ cZ : ClassId) (qa : Nat → Nat) (sz : Nat) (m_trace : Int64) (m_text : Nat → Int32) (m_typed : Int32) (m_told : Nat → Int32) (m_draft : Nat → Int32) (m_s : Nat → Int32) (m_past : Nat → Int32) (m_known : Int32) (m_images : Nat → Int32) (m_kept : Nat → Int32) (m_notes : Nat → Int32) (m_noted : Int32) (m_at : Int32) (m_sort : Int32) (m_start : Int32) (m_value : Int32) (m_steps : Nat → Int32) (m_rows : Nat → Int32) (m_held : Nat → Int32) (a1 : Int32) (a2 : Int32) (a3 : Int32) (r0 : Int32) (hG : gX7_wildFrom m_told a1 a2 a3 = some r0) : Met l yX7_wildFrom wsX7_wildFrom ({ frames := 0, cells := 0, slots := 0, locals := 0 } : Room) (va_Pc [.ref (qa 0), .int a1, .int a2, .int a3] (wq_pp (dC, dI) [(cI, .int), (cJ, .long), (cZ, .boolean)] (wcM qa cI cJ cZ m_trace m_text m_typed m_told m_draft m_s m_past m_known m_images m_kept m_notes m_noted m_at m_sort m_start m_value m_steps m_rows m_held) sz)) (wq_Qi r0 wq_tr (va_A [] sz)) 0 0 (va_A [] sz) := by
  refine Met.ofW (cc := cX7_wildFrom) (maxL := 5) (ret := (some .int)) (by decide) rfl ?_
  intro p e s m args below meth c s₁ B hml hv
  obtain ⟨rfl, hsz, hP, hK, hE⟩ := hv
  have hx := B.exec
  have hb := B.bytes
  have hr := B.returns
  have hts := atoms_spec (ws := wsX7_wildFrom) B.pre
  have hown : s.vm.findClass RX7 = some m.cls := findClass_of_methodNamed B.named
  have hlocks := B.notSynchronized
  subst hsz
  generalize hAe : va_A [] s.heap.size = A at hE ⊢
  have hA : ∀ q : Nat, s.heap.size ≤ q → A q := fun q h => by rw [← hAe]; exact Or.inr h
  have hS : va_S A s.heap s.heap [] := va_S.rf
  have hinX7 : ∀ w ∈ u_ws RX7 TX7 19, w ∈ wsX7_wildFrom := by decide +kernel
  have k1 := hts (.fieldLink RX7 13 "DoorMorningsModel" "told" "[I") (by decide +kernel)
  have hl := lv_entry ([.ref (qa 0), .int a1, .int a2, .int a3]) (n := 5) (Nat.le_of_ble_eq_true rfl)
  rw [lg_entry_eq]
  generalize (lg_sl ([.ref (qa 0), .int a1, .int a2, .int a3]) ++ List.replicate (5 - (lg_sl ([.ref (qa 0), .int a1, .int a2, .int a3])).length) Slot.unset).toArray = ls at hl ⊢
  have hl : lv_has ls 5 [(0, .ref (qa 0)), (1, .int a1), (2, .int a2), (3, .int a3)] := hl
  unfold gX7_wildFrom at hG
  refine lv_aload_n hx hb dX7_wildFrom_0 rfl (lv_at hl 0 rfl) ?_
  refine va_get (D := (dC, dI)) (ci := 7) (v := .ref (qa 2)) (C := RX7) (T := TX7) (N := 19) hx hb hts hinX7 hown hK hP 0 rfl rfl 3 (by decide) k1 (fun _ h9 => h9) rfl dX7_wildFrom_1 ?_
  refine lv_iconst (v := 4) hx hb dX7_wildFrom_4 (by decide) ?_
  refine wq_iald (D := (dC, dI)) hx hb hK hP 2 0 rfl rfl (wq_lit (by decide)) 4 rfl dX7_wildFrom_5 ?_
  refine lv_iload_n hx hb dX7_wildFrom_6 rfl (lv_at hl 3 rfl) ?_
  refine lv_iadd hx hb dX7_wildFrom_7 ?_
  refine lv_aload_n hx hb dX7_wildFrom_8 rfl (lv_at hl 0 rfl) ?_
  refine va_get (D := (dC, dI)) (ci := 7) (v := .ref (qa 2)) (C := RX7) (T := TX7) (N := 19) hx hb hts hinX7 hown hK hP 0 rfl rfl 3 (by decide) k1 (fun _ h9 => h9) rfl dX7_wildFrom_9 ?_
  refine lv_bipush (v := 8) hx hb dX7_wildFrom_12 (by decide) ?_
  refine lv_iload_n hx hb dX7_wildFrom_14 rfl (lv_at hl 1 rfl) ?_
  refine lv_iadd hx hb dX7_wildFrom_15 ?_
  obtain ⟨h1, hG⟩ := wq_chk_s hG
  refine wq_iald (D := (dC, dI)) hx hb hK hP 2 0 rfl rfl h1 (Int32.toNatClampNeg (8 + a1)) rfl dX7_wildFrom_16 ?_
  refine lv_isub hx hb dX7_wildFrom_17 ?_
  refine lv_istore (lv' := [(4, .int (((m_told 4) + a3) - (m_told (Int32.toNatClampNeg (8 + a1))))), (0, .ref (qa 0)), (1, .int a1), (2, .int a2), (3, .int a3)]) hx hb dX7_wildFrom_18 hl (by decide) rfl (fun ls hl => ?_)
  refine lv_iload hx hb dX7_wildFrom_20 (lv_at hl 0 rfl) ?_
  refine lv_if_gt (tgt := 29) hx hb dX7_wildFrom_22 (by decide) (fun c2 => ?_) (fun c2 => ?_)
  · replace hG := wq_t c2 hG
    refine lv_iconst (v := 2) hx hb dX7_wildFrom_29 (by decide) ?_
    refine lv_iload_n hx hb dX7_wildFrom_30 rfl (lv_at hl 3 rfl) ?_
    refine lv_imul hx hb dX7_wildFrom_31 ?_
    refine lv_iload hx hb dX7_wildFrom_32 (lv_at hl 0 rfl) ?_
    refine lv_aload_n hx hb dX7_wildFrom_34 rfl (lv_at hl 1 rfl) ?_
    refine va_get (D := (dC, dI)) (ci := 7) (v := .ref (qa 2)) (C := RX7) (T := TX7) (N := 19) hx hb hts hinX7 hown hK hP 0 rfl rfl 3 (by decide) k1 (fun _ h9 => h9) rfl dX7_wildFrom_35 ?_
    refine lv_iconst (v := 2) hx hb dX7_wildFrom_38 (by decide) ?_
    refine wq_iald (D := (dC, dI)) hx hb hK hP 2 0 rfl rfl (wq_lit (by decide)) 2 rfl dX7_wildFrom_39 ?_
    refine lv_iadd hx hb dX7_wildFrom_40 ?_
    refine lv_iconst (v := 1) hx hb dX7_wildFrom_41 (by decide) ?_
    refine lv_isub hx hb dX7_wildFrom_42 ?_
    refine lv_aload_n hx hb dX7_wildFrom_43 rfl (lv_at hl 1 rfl) ?_
    refine va_get (D := (dC, dI)) (ci := 7) (v := .ref (qa 2)) (C := RX7) (T := TX7) (N := 19) hx hb hts hinX7 hown hK hP 0 rfl rfl 3 (by decide) k1 (fun _ h9 => h9) rfl dX7_wildFrom_44 ?_
    refine lv_iconst (v := 2) hx hb dX7_wildFrom_47 (by decide) ?_
    refine wq_iald (D := (dC, dI)) hx hb hK hP 2 0 rfl rfl (wq_lit (by decide)) 2 rfl dX7_wildFrom_48 ?_
    obtain ⟨z3, hG⟩ := wq_nz_s hG
    refine lv_idiv hx hb dX7_wildFrom_49 z3 ?_
    refine lv_iadd hx hb dX7_wildFrom_50 ?_
    exact W.iret (v := ((2 * a2) + ((((((m_told 4) + a3) - (m_told (Int32.toNatClampNeg (8 + a1)))) + (m_told 2)) - 1) / (m_told 2)))) hx hb hr (fun t ht hW => ⟨⟨((2 * a2) + ((((((m_told 4) + a3) - (m_told (Int32.toNatClampNeg (8 + a1)))) + (m_told 2)) - 1) / (m_told 2))), (), rfl, ⟨Option.some.inj hG, trivial⟩, trivial⟩, hS.F ht⟩) hS.2.2 dX7_wildFrom_51
  · replace hG := wq_f c2 hG
    refine lv_iconst (v := 1) hx hb dX7_wildFrom_25 (by decide) ?_
    refine lv_goto (tgt := 51) hx hb dX7_wildFrom_26 (by decide) ?_
    exact W.iret (v := 1) hx hb hr (fun t ht hW => ⟨⟨1, (), rfl, ⟨Option.some.inj hG, trivial⟩, trivial⟩, hS.F ht⟩) hS.2.2 dX7_wildFrom_51

theorem hdV_X7_bestWith : yX7_bestWith.cls = RX7 ∧ yX7_bestWith.cls ≠ "java/lang/invoke/MethodHandle" ∧ yX7_bestWith.cls ≠ "java/lang/invoke/VarHandle" ∧ (parseMethodDescriptor yX7_bestWith.desc).map (fun d => d.parameters.length) = some 1 := by decide +kernel
set_option maxHeartbeats 4000000 in
set_option maxRecDepth 100000 in
theorem C_X7_bestWith (l : Launch) (dC : Nat → ClassId) (dI : Nat → Nat → Nat) (cI cJ cZ : ClassId) (qa : Nat → Nat) (sz : Nat) (m_trace : Int64) (m_text : Nat → Int32) (m_typed : Int32) (m_told : Nat → Int32) (m_draft : Nat → Int32) (m_s : Nat → Int32) (m_past : Nat → Int32) (m_known : Int32) (m_images : Nat → Int32) (m_kept : Nat → Int32) (m_notes : Nat → Int32) (m_noted : Int32) (m_at : Int32) (m_sort : Int32) (m_start : Int32) (m_value : Int32) (m_steps : Nat → Int32) (m_rows : Nat → Int32) (m_held : Nat → Int32) (a1 : Int32) (r0 : Int32) (hG : gX7_bestWith m_told m_s a1 = some r0) : Met l yX7_bestWith wsX7_bestWith ({ frames := 1, cells := 0, slots := 0, locals := 25 } : Room) (va_Pc [.ref (qa 0), .int a1] (wq_pp (dC, dI) [(cI, .int), (cJ, .long), (cZ, .boolean)] (wcM qa cI cJ cZ m_trace m_text m_typed m_told m_draft m_s m_past m_known m_images m_kept m_notes m_noted m_at m_sort m_start m_value m_steps m_rows m_held) sz)) (wq_Qi r0 wq_tr (va_A [] sz)) 0 0 (va_A [] sz) := by
  refine Met.ofW (cc := cX7_bestWith) (maxL := 6) (ret := (some .int)) (by decide) rfl ?_
  intro p e s m args below meth c s₁ B hml hv
  obtain ⟨rfl, hsz, hP, hK, hE⟩ := hv
  have hx := B.exec
  have hb := B.bytes
  have hr := B.returns
  have hts := atoms_spec (ws := wsX7_bestWith) B.pre
  have hown : s.vm.findClass RX7 = some m.cls := findClass_of_methodNamed B.named
  have hlocks := B.notSynchronized
  subst hsz
  generalize hAe : va_A [] s.heap.size = A at hE ⊢
  have hA : ∀ q : Nat, s.heap.size ≤ q → A q := fun q h => by rw [← hAe]; exact Or.inr h
  have hS : va_S A s.heap s.heap [] := va_S.rf
  have hinX7 : ∀ w ∈ u_ws RX7 TX7 19, w ∈ wsX7_bestWith := by decide +kernel
  have k1 := hts (.fieldLink RX7 13 "DoorMorningsModel" "told" "[I") (by decide +kernel)
  have k2 := hts (.fieldLink RX7 19 "DoorMorningsModel" "s" "[I") (by decide +kernel)
  have hl := lv_entry ([.ref (qa 0), .int a1]) (n := 6) (Nat.le_of_ble_eq_true rfl)
  rw [lg_entry_eq]
  generalize (lg_sl ([.ref (qa 0), .int a1]) ++ List.replicate (6 - (lg_sl ([.ref (qa 0), .int a1])).length) Slot.unset).toArray = ls at hl ⊢
  have hl : lv_has ls 6 [(0, .ref (qa 0)), (1, .int a1)] := hl
  have hL8 : ∀  (n : Nat) (x2 : Int32) (x3 : Int32) (x4 : Int32) (H : Heap) (locs : List Loc) (ls : Array Slot), gX7_bestWith_L8 m_told m_s a1 n x2 x3 x4 = some r0 → va_P (dC, dI) vwCl (wcM qa cI cJ cZ m_trace m_text m_typed m_told m_draft m_s m_past m_known m_images m_kept m_notes m_noted m_at m_sort m_start m_value m_steps m_rows m_held) H → va_S A s.heap H locs → lv_has ls 6 [(0, .ref (qa 0)), (1, .int a1), (2, .int x2), (3, .int x3), (4, .int x4)] → W p l e (headSpec wsX7_bestWith ({ frames := 1, cells := 0, slots := 0, locals := 25 } : Room)).room s m ([.ref (qa 0), .int a1] : List Value).toArray below meth c H locs 0 0 (MQ below (wq_Qi r0 wq_tr A) ([.ref (qa 0), .int a1] : List Value).toArray s 0 0 A) (F0 m 8 ls []) := by
    intro  n
    induction n with
    | zero =>
      intro x2 x3 x4 H locs ls hG
      exact absurd (show (none : Option (Int32)) = some r0 from hG) (by intro h9; cases h9)
    | succ n ih8 =>
      intro x2 x3 x4 H locs ls hG hP hS hl
      rw [gX7_bestWith_L8] at hG
      refine lv_iload hx hb dX7_bestWith_8 (lv_at hl 4 rfl) ?_
      refine lv_aload_n hx hb dX7_bestWith_10 rfl (lv_at hl 0 rfl) ?_
      refine va_get (D := (dC, dI)) (ci := 7) (v := .ref (qa 2)) (C := RX7) (T := TX7) (N := 19) hx hb hts hinX7 hown hK hP 0 rfl rfl 3 (by decide) k1 (fun _ h9 => h9) rfl dX7_bestWith_11 ?_
      refine lv_iconst (v := 0) hx hb dX7_bestWith_14 (by decide) ?_
      refine wq_iald (D := (dC, dI)) hx hb hK hP 2 0 rfl rfl (wq_lit (by decide)) 0 rfl dX7_bestWith_15 ?_
      refine lv_icmp_ge (tgt := 92) hx hb dX7_bestWith_16 (by decide) (fun c1 => ?_) (fun c1 => ?_)
      · replace hG := wq_t c1 hG
        refine lv_iload_n hx hb dX7_bestWith_92 rfl (lv_at hl 2 rfl) ?_
        exact W.iret (v := x2) hx hb hr (fun t ht hW => ⟨⟨x2, (), rfl, ⟨Option.some.inj hG, trivial⟩, trivial⟩, hS.F ht⟩) hS.2.2 dX7_bestWith_93
      · replace hG := wq_f c1 hG
        refine lv_aload_n hx hb dX7_bestWith_19 rfl (lv_at hl 0 rfl) ?_
        refine lv_iload hx hb dX7_bestWith_20 (lv_at hl 4 rfl) ?_
        refine lv_aload_n hx hb dX7_bestWith_22 rfl (lv_at hl 0 rfl) ?_
        refine va_get (D := (dC, dI)) (ci := 7) (v := .ref (qa 4)) (C := RX7) (T := TX7) (N := 19) hx hb hts hinX7 hown hK hP 0 rfl rfl 5 (by decide) k2 (fun _ h9 => h9) rfl dX7_bestWith_23 ?_
        refine lv_iconst (v := 1) hx hb dX7_bestWith_26 (by decide) ?_
        refine wq_iald (D := (dC, dI)) hx hb hK hP 4 0 rfl rfl (wq_lit (by decide)) 1 rfl dX7_bestWith_27 ?_
        refine lv_aload_n hx hb dX7_bestWith_28 rfl (lv_at hl 0 rfl) ?_
        refine va_get (D := (dC, dI)) (ci := 7) (v := .ref (qa 4)) (C := RX7) (T := TX7) (N := 19) hx hb hts hinX7 hown hK hP 0 rfl rfl 5 (by decide) k2 (fun _ h9 => h9) rfl dX7_bestWith_29 ?_
        refine lv_iconst (v := 4) hx hb dX7_bestWith_32 (by decide) ?_
        refine lv_iload_n hx hb dX7_bestWith_33 rfl (lv_at hl 1 rfl) ?_
        refine lv_iadd hx hb dX7_bestWith_34 ?_
        obtain ⟨h2, hG⟩ := wq_chk_s hG
        refine wq_iald (D := (dC, dI)) hx hb hK hP 4 0 rfl rfl h2 (Int32.toNatClampNeg (4 + a1)) rfl dX7_bestWith_35 ?_
        obtain ⟨v4, g3, hG⟩ := wq_b1_s hG
        refine wq_ci (v := v4) (B := wq_tr) (va_runV (As := [.int x4, .int (m_s 1), .int (m_s (Int32.toNatClampNeg (4 + a1)))]) (rest := []) ⟨hx, hb, hml, hown, hts⟩ (C_X7_calmTo l dC dI cI cJ cZ qa H.size m_trace m_text m_typed m_told m_draft m_s m_past m_known m_images m_kept m_notes m_noted m_at m_sort m_start m_value m_steps m_rows m_held x4 (m_s 1) (m_s (Int32.toNatClampNeg (4 + a1))) v4 g3) (cwV 3 hts gX7_bestWith_X7_calmTo rfl rfl rfl hdV_X7_calmTo ⟨Nat.le_of_ble_eq_true rfl, Nat.le_of_ble_eq_true rfl⟩) (wq_ppV hK hP hE hS hA (ci := 7) (q0 := 0) rfl rfl) rfl rfl hl.1 rfl (lv_room (Nat.le_of_ble_eq_true rfl)) dX7_bestWith_36 ⟨Nat.zero_le _, Nat.zero_le _⟩) hS hA (fun H locs b5 hk hS => ?_)
        replace hP := wq_kp hP hk
        clear hk
        refine lv_istore (lv' := [(5, .int v4), (0, .ref (qa 0)), (1, .int a1), (2, .int x2), (3, .int x3), (4, .int x4)]) hx hb dX7_bestWith_39 hl (by decide) rfl (fun ls hl => ?_)
        refine lv_iload hx hb dX7_bestWith_41 (lv_at hl 0 rfl) ?_
        refine lv_iload_n hx hb dX7_bestWith_43 rfl (lv_at hl 4 rfl) ?_
        refine lv_icmp_gt (tgt := 80) hx hb dX7_bestWith_44 (by decide) (fun c6 => ?_) (fun c6 => ?_)
        · replace hG := wq_t c6 hG
          refine lv_iload hx hb dX7_bestWith_80 (lv_at hl 5 rfl) ?_
          refine lv_istore_n (lv' := [(2, .int x4), (5, .int v4), (0, .ref (qa 0)), (1, .int a1), (3, .int x3), (4, .int x4)]) hx hb dX7_bestWith_82 rfl hl (by decide) rfl (fun ls hl => ?_)
          refine lv_iload hx hb dX7_bestWith_83 (lv_at hl 1 rfl) ?_
          refine lv_istore_n (lv' := [(3, .int v4), (2, .int x4), (5, .int v4), (0, .ref (qa 0)), (1, .int a1), (4, .int x4)]) hx hb dX7_bestWith_85 rfl hl (by decide) rfl (fun ls hl => ?_)
          refine lv_iinc (v := (x4 + 1)) (lv' := [(4, .int (x4 + 1)), (3, .int v4), (2, .int x4), (5, .int v4), (0, .ref (qa 0)), (1, .int a1)]) hx hb dX7_bestWith_86 hl (k := 5) rfl rfl (by decide) rfl (fun ls hl => ?_)
          refine lv_goto (tgt := 8) hx hb dX7_bestWith_89 (by decide) ?_
          exact ih8 x4 v4 (x4 + 1) _ _ _ hG hP hS (lv_sub hl [4, 5, 2, 1, 0] rfl)
        · replace hG := wq_f c6 hG
          refine lv_iload hx hb dX7_bestWith_47 (lv_at hl 0 rfl) ?_
          refine lv_if_le (tgt := 86) hx hb dX7_bestWith_49 (by decide) (fun c7 => ?_) (fun c7 => ?_)
          · replace hG := wq_t c7 hG
            refine lv_iinc (v := (x4 + 1)) (lv' := [(4, .int (x4 + 1)), (5, .int v4), (0, .ref (qa 0)), (1, .int a1), (2, .int x2), (3, .int x3)]) hx hb dX7_bestWith_86 hl (k := 5) rfl rfl (by decide) rfl (fun ls hl => ?_)
            refine lv_goto (tgt := 8) hx hb dX7_bestWith_89 (by decide) ?_
            exact ih8 x2 x3 (x4 + 1) _ _ _ hG hP hS (lv_sub hl [2, 3, 4, 5, 0] rfl)
          · replace hG := wq_f c7 hG
            refine lv_iload hx hb dX7_bestWith_52 (lv_at hl 0 rfl) ?_
            refine lv_iload_n hx hb dX7_bestWith_54 rfl (lv_at hl 4 rfl) ?_
            refine lv_icmp_ne (tgt := 86) hx hb dX7_bestWith_55 (by decide) (fun c8 => ?_) (fun c8 => ?_)
            · replace hG := wq_f c8 hG
              refine lv_iinc (v := (x4 + 1)) (lv' := [(4, .int (x4 + 1)), (5, .int v4), (0, .ref (qa 0)), (1, .int a1), (2, .int x2), (3, .int x3)]) hx hb dX7_bestWith_86 hl (k := 5) rfl rfl (by decide) rfl (fun ls hl => ?_)
              refine lv_goto (tgt := 8) hx hb dX7_bestWith_89 (by decide) ?_
              exact ih8 x2 x3 (x4 + 1) _ _ _ hG hP hS (lv_sub hl [2, 3, 4, 5, 0] rfl)
            · replace hG := wq_t c8 hG
              refine lv_aload_n hx hb dX7_bestWith_58 rfl (lv_at hl 1 rfl) ?_
              refine va_get (D := (dC, dI)) (ci := 7) (v := .ref (qa 2)) (C := RX7) (T := TX7) (N := 19) hx hb hts hinX7 hown hK hP 0 rfl rfl 3 (by decide) k1 (fun _ h9 => h9) rfl dX7_bestWith_59 ?_
              refine lv_bipush (v := 13) hx hb dX7_bestWith_62 (by decide) ?_
              refine lv_iload hx hb dX7_bestWith_64 (lv_at hl 5 rfl) ?_
              refine lv_iadd hx hb dX7_bestWith_66 ?_
              obtain ⟨h9, hG⟩ := wq_chk_s hG
              refine wq_iald (D := (dC, dI)) hx hb hK hP 2 0 rfl rfl h9 (Int32.toNatClampNeg (13 + x4)) rfl dX7_bestWith_67 ?_
              refine lv_aload_n hx hb dX7_bestWith_68 rfl (lv_at hl 1 rfl) ?_
              refine va_get (D := (dC, dI)) (ci := 7) (v := .ref (qa 2)) (C := RX7) (T := TX7) (N := 19) hx hb hts hinX7 hown hK hP 0 rfl rfl 3 (by decide) k1 (fun _ h9 => h9) rfl dX7_bestWith_69 ?_
              refine lv_bipush (v := 13) hx hb dX7_bestWith_72 (by decide) ?_
              refine lv_iload_n hx hb dX7_bestWith_74 rfl (lv_at hl 3 rfl) ?_
              refine lv_iadd hx hb dX7_bestWith_75 ?_
              obtain ⟨h10, hG⟩ := wq_chk_s hG
              refine wq_iald (D := (dC, dI)) hx hb hK hP 2 0 rfl rfl h10 (Int32.toNatClampNeg (13 + x2)) rfl dX7_bestWith_76 ?_
              refine lv_icmp_le (tgt := 86) hx hb dX7_bestWith_77 (by decide) (fun c11 => ?_) (fun c11 => ?_)
              · replace hG := wq_t c11 hG
                refine lv_iinc (v := (x4 + 1)) (lv' := [(4, .int (x4 + 1)), (5, .int v4), (0, .ref (qa 0)), (1, .int a1), (2, .int x2), (3, .int x3)]) hx hb dX7_bestWith_86 hl (k := 5) rfl rfl (by decide) rfl (fun ls hl => ?_)
                refine lv_goto (tgt := 8) hx hb dX7_bestWith_89 (by decide) ?_
                exact ih8 x2 x3 (x4 + 1) _ _ _ hG hP hS (lv_sub hl [2, 3, 4, 5, 0] rfl)
              · replace hG := wq_f c11 hG
                refine lv_iload hx hb dX7_bestWith_80 (lv_at hl 5 rfl) ?_
                refine lv_istore_n (lv' := [(2, .int x4), (5, .int v4), (0, .ref (qa 0)), (1, .int a1), (3, .int x3), (4, .int x4)]) hx hb dX7_bestWith_82 rfl hl (by decide) rfl (fun ls hl => ?_)
                refine lv_iload hx hb dX7_bestWith_83 (lv_at hl 1 rfl) ?_
                refine lv_istore_n (lv' := [(3, .int v4), (2, .int x4), (5, .int v4), (0, .ref (qa 0)), (1, .int a1), (4, .int x4)]) hx hb dX7_bestWith_85 rfl hl (by decide) rfl (fun ls hl => ?_)
                refine lv_iinc (v := (x4 + 1)) (lv' := [(4, .int (x4 + 1)), (3, .int v4), (2, .int x4), (5, .int v4), (0, .ref (qa 0)), (1, .int a1)]) hx hb dX7_bestWith_86 hl (k := 5) rfl rfl (by decide) rfl (fun ls hl => ?_)
                refine lv_goto (tgt := 8) hx hb dX7_bestWith_89 (by decide) ?_
                exact ih8 x4 v4 (x4 + 1) _ _ _ hG hP hS (lv_sub hl [4, 5, 2, 1, 0] rfl)
  unfold gX7_bestWith at hG
  refine lv_bipush (v := (-9)) hx hb dX7_bestWith_0 (by decide) ?_
  refine lv_istore_n (lv' := [(2, .int (-9)), (0, .ref (qa 0)), (1, .int a1)]) hx hb dX7_bestWith_2 rfl hl (by decide) rfl (fun ls hl => ?_)
  refine lv_iconst (v := 0) hx hb dX7_bestWith_3 (by decide) ?_
  refine lv_istore_n (lv' := [(3, .int 0), (2, .int (-9)), (0, .ref (qa 0)), (1, .int a1)]) hx hb dX7_bestWith_4 rfl hl (by decide) rfl (fun ls hl => ?_)
  refine lv_iconst (v := 0) hx hb dX7_bestWith_5 (by decide) ?_
  refine lv_istore (lv' := [(4, .int 0), (3, .int 0), (2, .int (-9)), (0, .ref (qa 0)), (1, .int a1)]) hx hb dX7_bestWith_6 hl (by decide) rfl (fun ls hl => ?_)
  exact hL8  1000 (-9) 0 0 _ _ _ hG hP hS (lv_sub hl [3, 4, 2, 1, 0] rfl)

theorem hdV_X7_woman : yX7_woman.cls = RX7 ∧ yX7_woman.cls ≠ "java/lang/invoke/MethodHandle" ∧ yX7_woman.cls ≠ "java/lang/invoke/VarHandle" ∧ (parseMethodDescriptor yX7_woman.desc).map (fun d => d.parameters.length) = some 2 := by decide +kernel
set_option maxHeartbeats 4000000 in
set_option maxRecDepth 100000 in
theorem C_X7_woman (l : Launch) (dC : Nat → ClassId) (dI : Nat → Nat → Nat) (cI cJ cZ : ClassId) (qa : Nat → Nat) (sz : Nat) (m_trace : Int64) (m_text : Nat → Int32) (m_typed : Int32) (m_told : Nat → Int32) (m_draft : Nat → Int32) (m_s : Nat → Int32) (m_past : Nat → Int32) (m_known : Int32) (m_images : Nat → Int32) (m_kept : Nat → Int32) (m_notes : Nat → Int32) (m_noted : Int32) (m_at : Int32) (m_sort : Int32) (m_start : Int32) (m_value : Int32) (m_steps : Nat → Int32) (m_rows : Nat → Int32) (m_held : Nat → Int32) (a1 : Int32) (a2 : Int32) (r0 : Int32) (hG : gX7_woman m_told m_s a1 a2 = some r0) : Met l yX7_woman wsX7_woman ({ frames := 2, cells := 0, slots := 0, locals := 50 } : Room) (va_Pc [.ref (qa 0), .int a1, .int a2] (wq_pp (dC, dI) [(cI, .int), (cJ, .long), (cZ, .boolean)] (wcM qa cI cJ cZ m_trace m_text m_typed m_told m_draft m_s m_past m_known m_images m_kept m_notes m_noted m_at m_sort m_start m_value m_steps m_rows m_held) sz)) (wq_Qi r0 wq_tr (va_A [] sz)) 0 0 (va_A [] sz) := by
  refine Met.ofW (cc := cX7_woman) (maxL := 3) (ret := (some .int)) (by decide) rfl ?_
  intro p e s m args below meth c s₁ B hml hv
  obtain ⟨rfl, hsz, hP, hK, hE⟩ := hv
  have hx := B.exec
  have hb := B.bytes
  have hr := B.returns
  have hts := atoms_spec (ws := wsX7_woman) B.pre
  have hown : s.vm.findClass RX7 = some m.cls := findClass_of_methodNamed B.named
  have hlocks := B.notSynchronized
  subst hsz
  generalize hAe : va_A [] s.heap.size = A at hE ⊢
  have hA : ∀ q : Nat, s.heap.size ≤ q → A q := fun q h => by rw [← hAe]; exact Or.inr h
  have hS : va_S A s.heap s.heap [] := va_S.rf
  have hinX7 : ∀ w ∈ u_ws RX7 TX7 19, w ∈ wsX7_woman := by decide +kernel
  have k1 := hts (.fieldLink RX7 19 "DoorMorningsModel" "s" "[I") (by decide +kernel)
  have hl := lv_entry ([.ref (qa 0), .int a1, .int a2]) (n := 3) (Nat.le_of_ble_eq_true rfl)
  rw [lg_entry_eq]
  generalize (lg_sl ([.ref (qa 0), .int a1, .int a2]) ++ List.replicate (3 - (lg_sl ([.ref (qa 0), .int a1, .int a2])).length) Slot.unset).toArray = ls at hl ⊢
  have hl : lv_has ls 3 [(0, .ref (qa 0)), (1, .int a1), (2, .int a2)] := hl
  unfold gX7_woman at hG
  refine lv_aload_n hx hb dX7_woman_0 rfl (lv_at hl 0 rfl) ?_
  refine lv_iload_n hx hb dX7_woman_1 rfl (lv_at hl 1 rfl) ?_
  obtain ⟨v2, g1, hG⟩ := wq_b1_s hG
  refine wq_ci (v := v2) (B := wq_Z1) (va_runV (As := [.int a1]) (rest := []) ⟨hx, hb, hml, hown, hts⟩ (C_X7_isWoman l dC dI cI cJ cZ qa s.heap.size m_trace m_text m_typed m_told m_draft m_s m_past m_known m_images m_kept m_notes m_noted m_at m_sort m_start m_value m_steps m_rows m_held a1 v2 g1) (cwV 1 hts gX7_woman_X7_isWoman rfl rfl rfl hdV_X7_isWoman ⟨Nat.le_of_ble_eq_true rfl, Nat.le_of_ble_eq_true rfl⟩) (wq_ppV hK hP hE hS hA (ci := 7) (q0 := 0) rfl rfl) rfl rfl hl.1 rfl (lv_room (Nat.le_of_ble_eq_true rfl)) dX7_woman_2 ⟨Nat.zero_le _, Nat.zero_le _⟩) hS hA (fun H locs b3 hk hS => ?_)
  replace hP := wq_kp hP hk
  clear hk
  refine lv_if_ne (tgt := 10) hx hb dX7_woman_5 (by decide) (fun c4 => ?_) (fun c4 => ?_)
  · replace hG := wq_f c4 hG
    refine lv_iload_n hx hb dX7_woman_10 rfl (lv_at hl 2 rfl) ?_
    by_cases c5 : a2 = 0
    · replace hG := wq_t c5 hG
      refine lv_tableIn (off := 25) (tgt := 36) hx hb dX7_woman_11 (by rw [c5]; decide) (by rw [c5]; decide) (by rw [c5]; decide) (by decide) ?_
      refine lv_aload_n hx hb dX7_woman_36 rfl (lv_at hl 0 rfl) ?_
      refine va_get (D := (dC, dI)) (ci := 7) (v := .ref (qa 4)) (C := RX7) (T := TX7) (N := 19) hx hb hts hinX7 hown hK hP 0 rfl rfl 5 (by decide) k1 (fun _ h9 => h9) rfl dX7_woman_37 ?_
      refine lv_iconst (v := 4) hx hb dX7_woman_40 (by decide) ?_
      refine lv_iload_n hx hb dX7_woman_41 rfl (lv_at hl 1 rfl) ?_
      refine lv_iadd hx hb dX7_woman_42 ?_
      obtain ⟨h6, hG⟩ := wq_chk_s hG
      refine wq_iald (D := (dC, dI)) hx hb hK hP 4 0 rfl rfl h6 (Int32.toNatClampNeg (4 + a1)) rfl dX7_woman_43 ?_
      exact W.iret (v := (m_s (Int32.toNatClampNeg (4 + a1)))) hx hb hr (fun t ht hW => ⟨⟨(m_s (Int32.toNatClampNeg (4 + a1))), (), rfl, ⟨Option.some.inj hG, trivial⟩, trivial⟩, hS.F ht⟩) hS.2.2 dX7_woman_44
    · replace hG := wq_f c5 hG
      by_cases c7 : a2 = 1
      · replace hG := wq_t c7 hG
        refine lv_tableIn (off := 34) (tgt := 45) hx hb dX7_woman_11 (by rw [c7]; decide) (by rw [c7]; decide) (by rw [c7]; decide) (by decide) ?_
        refine lv_aload_n hx hb dX7_woman_45 rfl (lv_at hl 0 rfl) ?_
        refine lv_iload_n hx hb dX7_woman_46 rfl (lv_at hl 1 rfl) ?_
        obtain ⟨v9, g8, hG⟩ := wq_b1_s hG
        refine wq_ci (v := v9) (B := wq_Z1) (va_runV (As := [.int a1]) (rest := []) ⟨hx, hb, hml, hown, hts⟩ (C_X7_isIll l dC dI cI cJ cZ qa H.size m_trace m_text m_typed m_told m_draft m_s m_past m_known m_images m_kept m_notes m_noted m_at m_sort m_start m_value m_steps m_rows m_held a1 v9 g8) (cwV 1 hts gX7_woman_X7_isIll rfl rfl rfl hdV_X7_isIll ⟨Nat.le_of_ble_eq_true rfl, Nat.le_of_ble_eq_true rfl⟩) (wq_ppV hK hP hE hS hA (ci := 7) (q0 := 0) rfl rfl) rfl rfl hl.1 rfl (lv_room (Nat.le_of_ble_eq_true rfl)) dX7_woman_47 ⟨Nat.zero_le _, Nat.zero_le _⟩) hS hA (fun H locs b10 hk hS => ?_)
        replace hP := wq_kp hP hk
        clear hk
        refine lv_if_eq (tgt := 57) hx hb dX7_woman_50 (by decide) (fun c11 => ?_) (fun c11 => ?_)
        · replace hG := wq_t c11 hG
          refine lv_iconst (v := 0) hx hb dX7_woman_57 (by decide) ?_
          exact W.iret (v := 0) hx hb hr (fun t ht hW => ⟨⟨0, (), rfl, ⟨Option.some.inj hG, trivial⟩, trivial⟩, hS.F ht⟩) hS.2.2 dX7_woman_58
        · replace hG := wq_f c11 hG
          refine lv_iconst (v := 1) hx hb dX7_woman_53 (by decide) ?_
          refine lv_goto (tgt := 58) hx hb dX7_woman_54 (by decide) ?_
          exact W.iret (v := 1) hx hb hr (fun t ht hW => ⟨⟨1, (), rfl, ⟨Option.some.inj hG, trivial⟩, trivial⟩, hS.F ht⟩) hS.2.2 dX7_woman_58
      · replace hG := wq_f c7 hG
        by_cases c12 : a2 = 2
        · replace hG := wq_t c12 hG
          refine lv_tableIn (off := 48) (tgt := 59) hx hb dX7_woman_11 (by rw [c12]; decide) (by rw [c12]; decide) (by rw [c12]; decide) (by decide) ?_
          refine lv_aload_n hx hb dX7_woman_59 rfl (lv_at hl 0 rfl) ?_
          refine lv_iload_n hx hb dX7_woman_60 rfl (lv_at hl 1 rfl) ?_
          obtain ⟨v14, g13, hG⟩ := wq_b1_s hG
          refine wq_ci (v := v14) (B := wq_tr) (va_runV (As := [.int a1]) (rest := []) ⟨hx, hb, hml, hown, hts⟩ (C_X7_bestWith l dC dI cI cJ cZ qa H.size m_trace m_text m_typed m_told m_draft m_s m_past m_known m_images m_kept m_notes m_noted m_at m_sort m_start m_value m_steps m_rows m_held a1 v14 g13) (cwV 1 hts gX7_woman_X7_bestWith rfl rfl rfl hdV_X7_bestWith ⟨Nat.le_of_ble_eq_true rfl, Nat.le_of_ble_eq_true rfl⟩) (wq_ppV hK hP hE hS hA (ci := 7) (q0 := 0) rfl rfl) rfl rfl hl.1 rfl (lv_room (Nat.le_of_ble_eq_true rfl)) dX7_woman_61 ⟨Nat.zero_le _, Nat.zero_le _⟩) hS hA (fun H locs b15 hk hS => ?_)
          replace hP := wq_kp hP hk
          clear hk
          exact W.iret (v := v14) hx hb hr (fun t ht hW => ⟨⟨v14, (), rfl, ⟨Option.some.inj hG, trivial⟩, trivial⟩, hS.F ht⟩) hS.2.2 dX7_woman_64
        · replace hG := wq_f c12 hG
          refine lv_tableOut (tgt := 65) hx hb dX7_woman_11 (by have e0 := lv_neT c5 (a := 0) (by decide); have e1 := lv_neT c7 (a := 1) (by decide); have e2 := lv_neT c12 (a := 2) (by decide); omega) (by decide) ?_
          refine lv_iconst (v := (-1)) hx hb dX7_woman_65 (by decide) ?_
          exact W.iret (v := (-1)) hx hb hr (fun t ht hW => ⟨⟨(-1), (), rfl, ⟨Option.some.inj hG, trivial⟩, trivial⟩, hS.F ht⟩) hS.2.2 dX7_woman_66
  · replace hG := wq_t c4 hG
    refine lv_iconst (v := (-1)) hx hb dX7_woman_8 (by decide) ?_
    exact W.iret (v := (-1)) hx hb hr (fun t ht hW => ⟨⟨(-1), (), rfl, ⟨Option.some.inj hG, trivial⟩, trivial⟩, hS.F ht⟩) hS.2.2 dX7_woman_9

theorem hdV_X7_with : yX7_with.cls = RX7 ∧ yX7_with.cls ≠ "java/lang/invoke/MethodHandle" ∧ yX7_with.cls ≠ "java/lang/invoke/VarHandle" ∧ (parseMethodDescriptor yX7_with.desc).map (fun d => d.parameters.length) = some 0 := by decide +kernel
set_option maxHeartbeats 4000000 in
set_option maxRecDepth 100000 in
theorem C_X7_with (l : Launch) (dC : Nat → ClassId) (dI : Nat → Nat → Nat) (cI cJ cZ : ClassId) (qa : Nat → Nat) (sz : Nat) (m_trace : Int64) (m_text : Nat → Int32) (m_typed : Int32) (m_told : Nat → Int32) (m_draft : Nat → Int32) (m_s : Nat → Int32) (m_past : Nat → Int32) (m_known : Int32) (m_images : Nat → Int32) (m_kept : Nat → Int32) (m_notes : Nat → Int32) (m_noted : Int32) (m_at : Int32) (m_sort : Int32) (m_start : Int32) (m_value : Int32) (m_steps : Nat → Int32) (m_rows : Nat → Int32) (m_held : Nat → Int32) (r0 : Int32) (hG : gX7_with m_told m_s = some r0) : Met l yX7_with wsX7_with ({ frames := 2, cells := 0, slots := 0, locals := 50 } : Room) (va_Pc [.ref (qa 0)] (wq_pp (dC, dI) [(cI, .int), (cJ, .long), (cZ, .boolean)] (wcM qa cI cJ cZ m_trace m_text m_typed m_told m_draft m_s m_past m_known m_images m_kept m_notes m_noted m_at m_sort m_start m_value m_steps m_rows m_held) sz)) (wq_Qi r0 wq_tr (va_A [] sz)) 0 0 (va_A [] sz) := by
  refine Met.ofW (cc := cX7_with) (maxL := 6) (ret := (some .int)) (by decide) rfl ?_
  intro p e s m args below meth c s₁ B hml hv
  obtain ⟨rfl, hsz, hP, hK, hE⟩ := hv
  have hx := B.exec
  have hb := B.bytes
  have hr := B.returns
  have hts := atoms_spec (ws := wsX7_with) B.pre
  have hown : s.vm.findClass RX7 = some m.cls := findClass_of_methodNamed B.named
  have hlocks := B.notSynchronized
  subst hsz
  generalize hAe : va_A [] s.heap.size = A at hE ⊢
  have hA : ∀ q : Nat, s.heap.size ≤ q → A q := fun q h => by rw [← hAe]; exact Or.inr h
  have hS : va_S A s.heap s.heap [] := va_S.rf
  have hinX7 : ∀ w ∈ u_ws RX7 TX7 19, w ∈ wsX7_with := by decide +kernel
  have k1 := hts (.fieldLink RX7 13 "DoorMorningsModel" "told" "[I") (by decide +kernel)
  have k2 := hts (.fieldLink RX7 19 "DoorMorningsModel" "s" "[I") (by decide +kernel)
  have hl := lv_entry ([.ref (qa 0)]) (n := 6) (Nat.le_of_ble_eq_true rfl)
  rw [lg_entry_eq]
  generalize (lg_sl ([.ref (qa 0)]) ++ List.replicate (6 - (lg_sl ([.ref (qa 0)])).length) Slot.unset).toArray = ls at hl ⊢
  have hl : lv_has ls 6 [(0, .ref (qa 0))] := hl
  have hL7 : ∀  (n : Nat) (x1 : Int32) (x2 : Int32) (x3 : Int32) (H : Heap) (locs : List Loc) (ls : Array Slot), gX7_with_L7 m_told m_s n x1 x2 x3 = some r0 → va_P (dC, dI) vwCl (wcM qa cI cJ cZ m_trace m_text m_typed m_told m_draft m_s m_past m_known m_images m_kept m_notes m_noted m_at m_sort m_start m_value m_steps m_rows m_held) H → va_S A s.heap H locs → lv_has ls 6 [(0, .ref (qa 0)), (1, .int x1), (2, .int x2), (3, .int x3)] → W p l e (headSpec wsX7_with ({ frames := 2, cells := 0, slots := 0, locals := 50 } : Room)).room s m ([.ref (qa 0)] : List Value).toArray below meth c H locs 0 0 (MQ below (wq_Qi r0 wq_tr A) ([.ref (qa 0)] : List Value).toArray s 0 0 A) (F0 m 7 ls []) := by
    intro  n
    induction n with
    | zero =>
      intro x1 x2 x3 H locs ls hG
      exact absurd (show (none : Option (Int32)) = some r0 from hG) (by intro h9; cases h9)
    | succ n ih7 =>
      intro x1 x2 x3 H locs ls hG hP hS hl
      rw [gX7_with_L7] at hG
      refine lv_iload_n hx hb dX7_with_7 rfl (lv_at hl 3 rfl) ?_
      refine lv_aload_n hx hb dX7_with_8 rfl (lv_at hl 0 rfl) ?_
      refine va_get (D := (dC, dI)) (ci := 7) (v := .ref (qa 2)) (C := RX7) (T := TX7) (N := 19) hx hb hts hinX7 hown hK hP 0 rfl rfl 3 (by decide) k1 (fun _ h9 => h9) rfl dX7_with_9 ?_
      refine lv_iconst (v := 1) hx hb dX7_with_12 (by decide) ?_
      refine wq_iald (D := (dC, dI)) hx hb hK hP 2 0 rfl rfl (wq_lit (by decide)) 1 rfl dX7_with_13 ?_
      refine lv_icmp_ge (tgt := 96) hx hb dX7_with_14 (by decide) (fun c1 => ?_) (fun c1 => ?_)
      · replace hG := wq_t c1 hG
        refine lv_iload_n hx hb dX7_with_96 rfl (lv_at hl 1 rfl) ?_
        exact W.iret (v := x1) hx hb hr (fun t ht hW => ⟨⟨x1, (), rfl, ⟨Option.some.inj hG, trivial⟩, trivial⟩, hS.F ht⟩) hS.2.2 dX7_with_97
      · replace hG := wq_f c1 hG
        refine lv_aload_n hx hb dX7_with_17 rfl (lv_at hl 0 rfl) ?_
        refine lv_iload_n hx hb dX7_with_18 rfl (lv_at hl 3 rfl) ?_
        obtain ⟨v3, g2, hG⟩ := wq_b1_s hG
        refine wq_ci (v := v3) (B := wq_tr) (va_runV (As := [.int x3]) (rest := []) ⟨hx, hb, hml, hown, hts⟩ (C_X7_bestWith l dC dI cI cJ cZ qa H.size m_trace m_text m_typed m_told m_draft m_s m_past m_known m_images m_kept m_notes m_noted m_at m_sort m_start m_value m_steps m_rows m_held x3 v3 g2) (cwV 1 hts gX7_with_X7_bestWith rfl rfl rfl hdV_X7_bestWith ⟨Nat.le_of_ble_eq_true rfl, Nat.le_of_ble_eq_true rfl⟩) (wq_ppV hK hP hE hS hA (ci := 7) (q0 := 0) rfl rfl) rfl rfl hl.1 rfl (lv_room (Nat.le_of_ble_eq_true rfl)) dX7_with_19 ⟨Nat.zero_le _, Nat.zero_le _⟩) hS hA (fun H locs b4 hk hS => ?_)
        replace hP := wq_kp hP hk
        clear hk
        refine lv_istore (lv' := [(4, .int v3), (0, .ref (qa 0)), (1, .int x1), (2, .int x2), (3, .int x3)]) hx hb dX7_with_22 hl (by decide) rfl (fun ls hl => ?_)
        refine lv_iload hx hb dX7_with_24 (lv_at hl 0 rfl) ?_
        refine lv_bipush (v := (-9)) hx hb dX7_with_26 (by decide) ?_
        refine lv_icmp_eq (tgt := 39) hx hb dX7_with_28 (by decide) (fun c5 => ?_) (fun c5 => ?_)
        · replace hG := wq_t c5 hG
          refine lv_iconst (v := 0) hx hb dX7_with_39 (by decide) ?_
          refine lv_goto (tgt := 63) hx hb dX7_with_40 (by decide) ?_
          refine lv_istore (lv' := [(5, .int 0), (4, .int v3), (0, .ref (qa 0)), (1, .int x1), (2, .int x2), (3, .int x3)]) hx hb dX7_with_63 hl (by decide) rfl (fun ls hl => ?_)
          refine lv_iload hx hb dX7_with_65 (lv_at hl 0 rfl) ?_
          refine lv_iload_n hx hb dX7_with_67 rfl (lv_at hl 4 rfl) ?_
          refine lv_icmp_le (tgt := 75) hx hb dX7_with_68 (by decide) (fun c6 => ?_) (fun c6 => ?_)
          · replace hG := wq_t c6 hG
            refine lv_iload_n hx hb dX7_with_75 rfl (lv_at hl 3 rfl) ?_
            refine lv_istore_n (lv' := [(1, .int x1), (5, .int 0), (4, .int v3), (0, .ref (qa 0)), (2, .int x2), (3, .int x3)]) hx hb dX7_with_76 rfl hl (by decide) rfl (fun ls hl => ?_)
            refine lv_iload hx hb dX7_with_77 (lv_at hl 1 rfl) ?_
            refine lv_iload_n hx hb dX7_with_79 rfl (lv_at hl 4 rfl) ?_
            refine lv_icmp_le (tgt := 88) hx hb dX7_with_80 (by decide) (fun c7 => ?_) (fun c7 => absurd c6 c7)
            refine lv_iload_n hx hb dX7_with_88 rfl (lv_at hl 4 rfl) ?_
            refine lv_istore_n (lv' := [(2, .int x2), (1, .int x1), (5, .int 0), (4, .int v3), (0, .ref (qa 0)), (3, .int x3)]) hx hb dX7_with_89 rfl hl (by decide) rfl (fun ls hl => ?_)
            refine lv_iinc (v := (x3 + 1)) (lv' := [(3, .int (x3 + 1)), (2, .int x2), (1, .int x1), (5, .int 0), (4, .int v3), (0, .ref (qa 0))]) hx hb dX7_with_90 hl (k := 5) rfl rfl (by decide) rfl (fun ls hl => ?_)
            refine lv_goto (tgt := 7) hx hb dX7_with_93 (by decide) ?_
            exact ih7 x1 x2 (x3 + 1) _ _ _ hG hP hS (lv_sub hl [5, 2, 1, 0] rfl)
          · replace hG := wq_f c6 hG
            refine lv_iload_n hx hb dX7_with_71 rfl (lv_at hl 5 rfl) ?_
            refine lv_goto (tgt := 76) hx hb dX7_with_72 (by decide) ?_
            refine lv_istore_n (lv' := [(1, .int x3), (5, .int 0), (4, .int v3), (0, .ref (qa 0)), (2, .int x2), (3, .int x3)]) hx hb dX7_with_76 rfl hl (by decide) rfl (fun ls hl => ?_)
            refine lv_iload hx hb dX7_with_77 (lv_at hl 1 rfl) ?_
            refine lv_iload_n hx hb dX7_with_79 rfl (lv_at hl 4 rfl) ?_
            refine lv_icmp_le (tgt := 88) hx hb dX7_with_80 (by decide) (fun c8 => absurd c8 c6) (fun c8 => ?_)
            refine lv_iload hx hb dX7_with_83 (lv_at hl 1 rfl) ?_
            refine lv_goto (tgt := 89) hx hb dX7_with_85 (by decide) ?_
            refine lv_istore_n (lv' := [(2, .int 0), (1, .int x3), (5, .int 0), (4, .int v3), (0, .ref (qa 0)), (3, .int x3)]) hx hb dX7_with_89 rfl hl (by decide) rfl (fun ls hl => ?_)
            refine lv_iinc (v := (x3 + 1)) (lv' := [(3, .int (x3 + 1)), (2, .int 0), (1, .int x3), (5, .int 0), (4, .int v3), (0, .ref (qa 0))]) hx hb dX7_with_90 hl (k := 5) rfl rfl (by decide) rfl (fun ls hl => ?_)
            refine lv_goto (tgt := 7) hx hb dX7_with_93 (by decide) ?_
            exact ih7 x3 0 (x3 + 1) _ _ _ hG hP hS (lv_sub hl [5, 2, 1, 0] rfl)
        · replace hG := wq_f c5 hG
          refine lv_aload_n hx hb dX7_with_31 rfl (lv_at hl 1 rfl) ?_
          refine lv_iload_n hx hb dX7_with_32 rfl (lv_at hl 4 rfl) ?_
          obtain ⟨v10, g9, hG⟩ := wq_b1_s hG
          refine wq_ci (v := v10) (B := wq_Z1) (va_runV (As := [.int x3]) (rest := []) ⟨hx, hb, hml, hown, hts⟩ (C_X7_isIll l dC dI cI cJ cZ qa H.size m_trace m_text m_typed m_told m_draft m_s m_past m_known m_images m_kept m_notes m_noted m_at m_sort m_start m_value m_steps m_rows m_held x3 v10 g9) (cwV 1 hts gX7_with_X7_isIll rfl rfl rfl hdV_X7_isIll ⟨Nat.le_of_ble_eq_true rfl, Nat.le_of_ble_eq_true rfl⟩) (wq_ppV hK hP hE hS hA (ci := 7) (q0 := 0) rfl rfl) rfl rfl hl.1 rfl (lv_room (Nat.le_of_ble_eq_true rfl)) dX7_with_33 ⟨Nat.zero_le _, Nat.zero_le _⟩) hS hA (fun H locs b11 hk hS => ?_)
          replace hP := wq_kp hP hk
          clear hk
          refine lv_if_eq (tgt := 43) hx hb dX7_with_36 (by decide) (fun c12 => ?_) (fun c12 => ?_)
          · replace hG := wq_t c12 hG
            refine lv_aload_n hx hb dX7_with_43 rfl (lv_at hl 1 rfl) ?_
            refine lv_iload hx hb dX7_with_44 (lv_at hl 0 rfl) ?_
            refine lv_aload_n hx hb dX7_with_46 rfl (lv_at hl 1 rfl) ?_
            refine va_get (D := (dC, dI)) (ci := 7) (v := .ref (qa 4)) (C := RX7) (T := TX7) (N := 19) hx hb hts hinX7 hown hK hP 0 rfl rfl 5 (by decide) k2 (fun _ h9 => h9) rfl dX7_with_47 ?_
            refine lv_iconst (v := 1) hx hb dX7_with_50 (by decide) ?_
            refine wq_iald (D := (dC, dI)) hx hb hK hP 4 0 rfl rfl (wq_lit (by decide)) 1 rfl dX7_with_51 ?_
            refine lv_aload_n hx hb dX7_with_52 rfl (lv_at hl 1 rfl) ?_
            refine va_get (D := (dC, dI)) (ci := 7) (v := .ref (qa 4)) (C := RX7) (T := TX7) (N := 19) hx hb hts hinX7 hown hK hP 0 rfl rfl 5 (by decide) k2 (fun _ h9 => h9) rfl dX7_with_53 ?_
            refine lv_iconst (v := 4) hx hb dX7_with_56 (by decide) ?_
            refine lv_iload_n hx hb dX7_with_57 rfl (lv_at hl 4 rfl) ?_
            refine lv_iadd hx hb dX7_with_58 ?_
            obtain ⟨h13, hG⟩ := wq_chk_s hG
            refine wq_iald (D := (dC, dI)) hx hb hK hP 4 0 rfl rfl h13 (Int32.toNatClampNeg (4 + x3)) rfl dX7_with_59 ?_
            obtain ⟨v15, g14, hG⟩ := wq_b1_s hG
            refine wq_ci (v := v15) (B := wq_tr) (va_runV (As := [.int v3, .int (m_s 1), .int (m_s (Int32.toNatClampNeg (4 + x3)))]) (rest := []) ⟨hx, hb, hml, hown, hts⟩ (C_X7_calmTo l dC dI cI cJ cZ qa H.size m_trace m_text m_typed m_told m_draft m_s m_past m_known m_images m_kept m_notes m_noted m_at m_sort m_start m_value m_steps m_rows m_held v3 (m_s 1) (m_s (Int32.toNatClampNeg (4 + x3))) v15 g14) (cwV 3 hts gX7_with_X7_calmTo rfl rfl rfl hdV_X7_calmTo ⟨Nat.le_of_ble_eq_true rfl, Nat.le_of_ble_eq_true rfl⟩) (wq_ppV hK hP hE hS hA (ci := 7) (q0 := 0) rfl rfl) rfl rfl hl.1 rfl (lv_room (Nat.le_of_ble_eq_true rfl)) dX7_with_60 ⟨Nat.zero_le _, Nat.zero_le _⟩) hS hA (fun H locs b16 hk hS => ?_)
            replace hP := wq_kp hP hk
            clear hk
            refine lv_istore (lv' := [(5, .int v15), (4, .int v3), (0, .ref (qa 0)), (1, .int x1), (2, .int x2), (3, .int x3)]) hx hb dX7_with_63 hl (by decide) rfl (fun ls hl => ?_)
            refine lv_iload hx hb dX7_with_65 (lv_at hl 0 rfl) ?_
            refine lv_iload_n hx hb dX7_with_67 rfl (lv_at hl 4 rfl) ?_
            refine lv_icmp_le (tgt := 75) hx hb dX7_with_68 (by decide) (fun c17 => ?_) (fun c17 => ?_)
            · replace hG := wq_t c17 hG
              refine lv_iload_n hx hb dX7_with_75 rfl (lv_at hl 3 rfl) ?_
              refine lv_istore_n (lv' := [(1, .int x1), (5, .int v15), (4, .int v3), (0, .ref (qa 0)), (2, .int x2), (3, .int x3)]) hx hb dX7_with_76 rfl hl (by decide) rfl (fun ls hl => ?_)
              refine lv_iload hx hb dX7_with_77 (lv_at hl 1 rfl) ?_
              refine lv_iload_n hx hb dX7_with_79 rfl (lv_at hl 4 rfl) ?_
              refine lv_icmp_le (tgt := 88) hx hb dX7_with_80 (by decide) (fun c18 => ?_) (fun c18 => absurd c17 c18)
              refine lv_iload_n hx hb dX7_with_88 rfl (lv_at hl 4 rfl) ?_
              refine lv_istore_n (lv' := [(2, .int x2), (1, .int x1), (5, .int v15), (4, .int v3), (0, .ref (qa 0)), (3, .int x3)]) hx hb dX7_with_89 rfl hl (by decide) rfl (fun ls hl => ?_)
              refine lv_iinc (v := (x3 + 1)) (lv' := [(3, .int (x3 + 1)), (2, .int x2), (1, .int x1), (5, .int v15), (4, .int v3), (0, .ref (qa 0))]) hx hb dX7_with_90 hl (k := 5) rfl rfl (by decide) rfl (fun ls hl => ?_)
              refine lv_goto (tgt := 7) hx hb dX7_with_93 (by decide) ?_
              exact ih7 x1 x2 (x3 + 1) _ _ _ hG hP hS (lv_sub hl [5, 2, 1, 0] rfl)
            · replace hG := wq_f c17 hG
              refine lv_iload_n hx hb dX7_with_71 rfl (lv_at hl 5 rfl) ?_
              refine lv_goto (tgt := 76) hx hb dX7_with_72 (by decide) ?_
              refine lv_istore_n (lv' := [(1, .int x3), (5, .int v15), (4, .int v3), (0, .ref (qa 0)), (2, .int x2), (3, .int x3)]) hx hb dX7_with_76 rfl hl (by decide) rfl (fun ls hl => ?_)
              refine lv_iload hx hb dX7_with_77 (lv_at hl 1 rfl) ?_
              refine lv_iload_n hx hb dX7_with_79 rfl (lv_at hl 4 rfl) ?_
              refine lv_icmp_le (tgt := 88) hx hb dX7_with_80 (by decide) (fun c19 => absurd c19 c17) (fun c19 => ?_)
              refine lv_iload hx hb dX7_with_83 (lv_at hl 1 rfl) ?_
              refine lv_goto (tgt := 89) hx hb dX7_with_85 (by decide) ?_
              refine lv_istore_n (lv' := [(2, .int v15), (1, .int x3), (5, .int v15), (4, .int v3), (0, .ref (qa 0)), (3, .int x3)]) hx hb dX7_with_89 rfl hl (by decide) rfl (fun ls hl => ?_)
              refine lv_iinc (v := (x3 + 1)) (lv' := [(3, .int (x3 + 1)), (2, .int v15), (1, .int x3), (5, .int v15), (4, .int v3), (0, .ref (qa 0))]) hx hb dX7_with_90 hl (k := 5) rfl rfl (by decide) rfl (fun ls hl => ?_)
              refine lv_goto (tgt := 7) hx hb dX7_with_93 (by decide) ?_
              exact ih7 x3 v15 (x3 + 1) _ _ _ hG hP hS (lv_sub hl [5, 2, 1, 0] rfl)
          · replace hG := wq_f c12 hG
            refine lv_iconst (v := 0) hx hb dX7_with_39 (by decide) ?_
            refine lv_goto (tgt := 63) hx hb dX7_with_40 (by decide) ?_
            refine lv_istore (lv' := [(5, .int 0), (4, .int v3), (0, .ref (qa 0)), (1, .int x1), (2, .int x2), (3, .int x3)]) hx hb dX7_with_63 hl (by decide) rfl (fun ls hl => ?_)
            refine lv_iload hx hb dX7_with_65 (lv_at hl 0 rfl) ?_
            refine lv_iload_n hx hb dX7_with_67 rfl (lv_at hl 4 rfl) ?_
            refine lv_icmp_le (tgt := 75) hx hb dX7_with_68 (by decide) (fun c20 => ?_) (fun c20 => ?_)
            · replace hG := wq_t c20 hG
              refine lv_iload_n hx hb dX7_with_75 rfl (lv_at hl 3 rfl) ?_
              refine lv_istore_n (lv' := [(1, .int x1), (5, .int 0), (4, .int v3), (0, .ref (qa 0)), (2, .int x2), (3, .int x3)]) hx hb dX7_with_76 rfl hl (by decide) rfl (fun ls hl => ?_)
              refine lv_iload hx hb dX7_with_77 (lv_at hl 1 rfl) ?_
              refine lv_iload_n hx hb dX7_with_79 rfl (lv_at hl 4 rfl) ?_
              refine lv_icmp_le (tgt := 88) hx hb dX7_with_80 (by decide) (fun c21 => ?_) (fun c21 => absurd c20 c21)
              refine lv_iload_n hx hb dX7_with_88 rfl (lv_at hl 4 rfl) ?_
              refine lv_istore_n (lv' := [(2, .int x2), (1, .int x1), (5, .int 0), (4, .int v3), (0, .ref (qa 0)), (3, .int x3)]) hx hb dX7_with_89 rfl hl (by decide) rfl (fun ls hl => ?_)
              refine lv_iinc (v := (x3 + 1)) (lv' := [(3, .int (x3 + 1)), (2, .int x2), (1, .int x1), (5, .int 0), (4, .int v3), (0, .ref (qa 0))]) hx hb dX7_with_90 hl (k := 5) rfl rfl (by decide) rfl (fun ls hl => ?_)
              refine lv_goto (tgt := 7) hx hb dX7_with_93 (by decide) ?_
              exact ih7 x1 x2 (x3 + 1) _ _ _ hG hP hS (lv_sub hl [5, 2, 1, 0] rfl)
            · replace hG := wq_f c20 hG
              refine lv_iload_n hx hb dX7_with_71 rfl (lv_at hl 5 rfl) ?_
              refine lv_goto (tgt := 76) hx hb dX7_with_72 (by decide) ?_
              refine lv_istore_n (lv' := [(1, .int x3), (5, .int 0), (4, .int v3), (0, .ref (qa 0)), (2, .int x2), (3, .int x3)]) hx hb dX7_with_76 rfl hl (by decide) rfl (fun ls hl => ?_)
              refine lv_iload hx hb dX7_with_77 (lv_at hl 1 rfl) ?_
              refine lv_iload_n hx hb dX7_with_79 rfl (lv_at hl 4 rfl) ?_
              refine lv_icmp_le (tgt := 88) hx hb dX7_with_80 (by decide) (fun c22 => absurd c22 c20) (fun c22 => ?_)
              refine lv_iload hx hb dX7_with_83 (lv_at hl 1 rfl) ?_
              refine lv_goto (tgt := 89) hx hb dX7_with_85 (by decide) ?_
              refine lv_istore_n (lv' := [(2, .int 0), (1, .int x3), (5, .int 0), (4, .int v3), (0, .ref (qa 0)), (3, .int x3)]) hx hb dX7_with_89 rfl hl (by decide) rfl (fun ls hl => ?_)
              refine lv_iinc (v := (x3 + 1)) (lv' := [(3, .int (x3 + 1)), (2, .int 0), (1, .int x3), (5, .int 0), (4, .int v3), (0, .ref (qa 0))]) hx hb dX7_with_90 hl (k := 5) rfl rfl (by decide) rfl (fun ls hl => ?_)
              refine lv_goto (tgt := 7) hx hb dX7_with_93 (by decide) ?_
              exact ih7 x3 0 (x3 + 1) _ _ _ hG hP hS (lv_sub hl [5, 2, 1, 0] rfl)
  unfold gX7_with at hG
  refine lv_bipush (v := (-9)) hx hb dX7_with_0 (by decide) ?_
  refine lv_istore_n (lv' := [(1, .int (-9)), (0, .ref (qa 0))]) hx hb dX7_with_2 rfl hl (by decide) rfl (fun ls hl => ?_)
  refine lv_iconst (v := 0) hx hb dX7_with_3 (by decide) ?_
  refine lv_istore_n (lv' := [(2, .int 0), (1, .int (-9)), (0, .ref (qa 0))]) hx hb dX7_with_4 rfl hl (by decide) rfl (fun ls hl => ?_)
  refine lv_iconst (v := 0) hx hb dX7_with_5 (by decide) ?_
  refine lv_istore_n (lv' := [(3, .int 0), (2, .int 0), (1, .int (-9)), (0, .ref (qa 0))]) hx hb dX7_with_6 rfl hl (by decide) rfl (fun ls hl => ?_)
  exact hL7  1000 (-9) 0 0 _ _ _ hG hP hS (lv_sub hl [3, 2, 1, 0] rfl)

theorem hdV_X7_now : yX7_now.cls = RX7 ∧ yX7_now.cls ≠ "java/lang/invoke/MethodHandle" ∧ yX7_now.cls ≠ "java/lang/invoke/VarHandle" ∧ (parseMethodDescriptor yX7_now.desc).map (fun d => d.parameters.length) = some 1 := by decide +kernel
set_option maxHeartbeats 4000000 in
set_option maxRecDepth 100000 in
theorem C_X7_now (l : Launch) (dC : Nat → ClassId) (dI : Nat → Nat → Nat) (cI cJ cZ : ClassId) (qa : Nat → Nat) (sz : Nat) (m_trace : Int64) (m_text : Nat → Int32) (m_typed : Int32) (m_told : Nat → Int32) (m_draft : Nat → Int32) (m_s : Nat → Int32) (m_past : Nat → Int32) (m_known : Int32) (m_images : Nat → Int32) (m_kept : Nat → Int32) (m_notes : Nat → Int32) (m_noted : Int32) (m_at : Int32) (m_sort : Int32) (m_start : Int32) (m_value : Int32) (m_steps : Nat → Int32) (m_rows : Nat → Int32) (m_held : Nat → Int32) (a1 : Int32) (r0 : Int32) (hG : gX7_now m_told m_s m_known a1 = some r0) : Met l yX7_now wsX7_now ({ frames := 3, cells := 0, slots := 0, locals := 75 } : Room) (va_Pc [.ref (qa 0), .int a1] (wq_pp (dC, dI) [(cI, .int), (cJ, .long), (cZ, .boolean)] (wcM qa cI cJ cZ m_trace m_text m_typed m_told m_draft m_s m_past m_known m_images m_kept m_notes m_noted m_at m_sort m_start m_value m_steps m_rows m_held) sz)) (wq_Qi r0 wq_tr (va_A [] sz)) 0 0 (va_A [] sz) := by
  refine Met.ofW (cc := cX7_now) (maxL := 2) (ret := (some .int)) (by decide) rfl ?_
  intro p e s m args below meth c s₁ B hml hv
  obtain ⟨rfl, hsz, hP, hK, hE⟩ := hv
  have hx := B.exec
  have hb := B.bytes
  have hr := B.returns
  have hts := atoms_spec (ws := wsX7_now) B.pre
  have hown : s.vm.findClass RX7 = some m.cls := findClass_of_methodNamed B.named
  have hlocks := B.notSynchronized
  subst hsz
  generalize hAe : va_A [] s.heap.size = A at hE ⊢
  have hA : ∀ q : Nat, s.heap.size ≤ q → A q := fun q h => by rw [← hAe]; exact Or.inr h
  have hS : va_S A s.heap s.heap [] := va_S.rf
  have hinX7 : ∀ w ∈ u_ws RX7 TX7 19, w ∈ wsX7_now := by decide +kernel
  have k1 := hts (.fieldLink RX7 19 "DoorMorningsModel" "s" "[I") (by decide +kernel)
  have k2 := hts (.fieldLink RX7 95 "DoorMorningsModel" "known" "I") (by decide +kernel)
  have hl := lv_entry ([.ref (qa 0), .int a1]) (n := 2) (Nat.le_of_ble_eq_true rfl)
  rw [lg_entry_eq]
  generalize (lg_sl ([.ref (qa 0), .int a1]) ++ List.replicate (2 - (lg_sl ([.ref (qa 0), .int a1])).length) Slot.unset).toArray = ls at hl ⊢
  have hl : lv_has ls 2 [(0, .ref (qa 0)), (1, .int a1)] := hl
  unfold gX7_now at hG
  refine lv_iload_n hx hb dX7_now_0 rfl (lv_at hl 1 rfl) ?_
  by_cases c1 : a1 = 0
  · replace hG := wq_t c1 hG
    refine lv_tableIn (off := 39) (tgt := 40) hx hb dX7_now_1 (by rw [c1]; decide) (by rw [c1]; decide) (by rw [c1]; decide) (by decide) ?_
    refine lv_aload_n hx hb dX7_now_40 rfl (lv_at hl 0 rfl) ?_
    refine va_get (D := (dC, dI)) (ci := 7) (v := .ref (qa 4)) (C := RX7) (T := TX7) (N := 19) hx hb hts hinX7 hown hK hP 0 rfl rfl 5 (by decide) k1 (fun _ h9 => h9) rfl dX7_now_41 ?_
    refine lv_iconst (v := 0) hx hb dX7_now_44 (by decide) ?_
    refine wq_iald (D := (dC, dI)) hx hb hK hP 4 0 rfl rfl (wq_lit (by decide)) 0 rfl dX7_now_45 ?_
    exact W.iret (v := (m_s 0)) hx hb hr (fun t ht hW => ⟨⟨(m_s 0), (), rfl, ⟨Option.some.inj hG, trivial⟩, trivial⟩, hS.F ht⟩) hS.2.2 dX7_now_46
  · replace hG := wq_f c1 hG
    by_cases c2 : a1 = 1
    · replace hG := wq_t c2 hG
      refine lv_tableIn (off := 46) (tgt := 47) hx hb dX7_now_1 (by rw [c2]; decide) (by rw [c2]; decide) (by rw [c2]; decide) (by decide) ?_
      refine lv_aload_n hx hb dX7_now_47 rfl (lv_at hl 0 rfl) ?_
      refine va_get (D := (dC, dI)) (ci := 7) (v := .ref (qa 4)) (C := RX7) (T := TX7) (N := 19) hx hb hts hinX7 hown hK hP 0 rfl rfl 5 (by decide) k1 (fun _ h9 => h9) rfl dX7_now_48 ?_
      refine lv_iconst (v := 1) hx hb dX7_now_51 (by decide) ?_
      refine wq_iald (D := (dC, dI)) hx hb hK hP 4 0 rfl rfl (wq_lit (by decide)) 1 rfl dX7_now_52 ?_
      exact W.iret (v := (m_s 1)) hx hb hr (fun t ht hW => ⟨⟨(m_s 1), (), rfl, ⟨Option.some.inj hG, trivial⟩, trivial⟩, hS.F ht⟩) hS.2.2 dX7_now_53
    · replace hG := wq_f c2 hG
      by_cases c3 : a1 = 2
      · replace hG := wq_t c3 hG
        refine lv_tableIn (off := 53) (tgt := 54) hx hb dX7_now_1 (by rw [c3]; decide) (by rw [c3]; decide) (by rw [c3]; decide) (by decide) ?_
        refine lv_aload_n hx hb dX7_now_54 rfl (lv_at hl 0 rfl) ?_
        refine va_get (D := (dC, dI)) (ci := 7) (v := .ref (qa 4)) (C := RX7) (T := TX7) (N := 19) hx hb hts hinX7 hown hK hP 0 rfl rfl 5 (by decide) k1 (fun _ h9 => h9) rfl dX7_now_55 ?_
        refine lv_iconst (v := 2) hx hb dX7_now_58 (by decide) ?_
        refine wq_iald (D := (dC, dI)) hx hb hK hP 4 0 rfl rfl (wq_lit (by decide)) 2 rfl dX7_now_59 ?_
        exact W.iret (v := (m_s 2)) hx hb hr (fun t ht hW => ⟨⟨(m_s 2), (), rfl, ⟨Option.some.inj hG, trivial⟩, trivial⟩, hS.F ht⟩) hS.2.2 dX7_now_60
      · replace hG := wq_f c3 hG
        by_cases c4 : a1 = 3
        · replace hG := wq_t c4 hG
          refine lv_tableIn (off := 60) (tgt := 61) hx hb dX7_now_1 (by rw [c4]; decide) (by rw [c4]; decide) (by rw [c4]; decide) (by decide) ?_
          refine lv_aload_n hx hb dX7_now_61 rfl (lv_at hl 0 rfl) ?_
          obtain ⟨v6, g5, hG⟩ := wq_b1_s hG
          refine wq_ci (v := v6) (B := wq_tr) (va_runV (As := []) (rest := []) ⟨hx, hb, hml, hown, hts⟩ (C_X7_with l dC dI cI cJ cZ qa s.heap.size m_trace m_text m_typed m_told m_draft m_s m_past m_known m_images m_kept m_notes m_noted m_at m_sort m_start m_value m_steps m_rows m_held  v6 g5) (cwV 0 hts gX7_now_X7_with rfl rfl rfl hdV_X7_with ⟨Nat.le_of_ble_eq_true rfl, Nat.le_of_ble_eq_true rfl⟩) (wq_ppV hK hP hE hS hA (ci := 7) (q0 := 0) rfl rfl) rfl rfl hl.1 rfl (lv_room (Nat.le_of_ble_eq_true rfl)) dX7_now_62 ⟨Nat.zero_le _, Nat.zero_le _⟩) hS hA (fun H locs b7 hk hS => ?_)
          replace hP := wq_kp hP hk
          clear hk
          exact W.iret (v := v6) hx hb hr (fun t ht hW => ⟨⟨v6, (), rfl, ⟨Option.some.inj hG, trivial⟩, trivial⟩, hS.F ht⟩) hS.2.2 dX7_now_65
        · replace hG := wq_f c4 hG
          by_cases c8 : a1 = 4
          · replace hG := wq_t c8 hG
            refine lv_tableIn (off := 65) (tgt := 66) hx hb dX7_now_1 (by rw [c8]; decide) (by rw [c8]; decide) (by rw [c8]; decide) (by decide) ?_
            refine lv_aload_n hx hb dX7_now_66 rfl (lv_at hl 0 rfl) ?_
            refine va_get (D := (dC, dI)) (ci := 7) (v := .ref (qa 4)) (C := RX7) (T := TX7) (N := 19) hx hb hts hinX7 hown hK hP 0 rfl rfl 5 (by decide) k1 (fun _ h9 => h9) rfl dX7_now_67 ?_
            refine lv_iconst (v := 3) hx hb dX7_now_70 (by decide) ?_
            refine wq_iald (D := (dC, dI)) hx hb hK hP 4 0 rfl rfl (wq_lit (by decide)) 3 rfl dX7_now_71 ?_
            exact W.iret (v := (m_s 3)) hx hb hr (fun t ht hW => ⟨⟨(m_s 3), (), rfl, ⟨Option.some.inj hG, trivial⟩, trivial⟩, hS.F ht⟩) hS.2.2 dX7_now_72
          · replace hG := wq_f c8 hG
            by_cases c9 : a1 = 5
            · replace hG := wq_t c9 hG
              refine lv_tableIn (off := 72) (tgt := 73) hx hb dX7_now_1 (by rw [c9]; decide) (by rw [c9]; decide) (by rw [c9]; decide) (by decide) ?_
              refine lv_aload_n hx hb dX7_now_73 rfl (lv_at hl 0 rfl) ?_
              refine va_get (D := (dC, dI)) (ci := 7) (v := .int m_known) (C := RX7) (T := TX7) (N := 19) hx hb hts hinX7 hown hK hP 0 rfl rfl 7 (by decide) k2 (fun _ h9 => h9) rfl dX7_now_74 ?_
              exact W.iret (v := m_known) hx hb hr (fun t ht hW => ⟨⟨m_known, (), rfl, ⟨Option.some.inj hG, trivial⟩, trivial⟩, hS.F ht⟩) hS.2.2 dX7_now_77
            · replace hG := wq_f c9 hG
              refine lv_tableOut (tgt := 78) hx hb dX7_now_1 (by have e0 := lv_neT c1 (a := 0) (by decide); have e1 := lv_neT c2 (a := 1) (by decide); have e2 := lv_neT c3 (a := 2) (by decide); have e3 := lv_neT c4 (a := 3) (by decide); have e4 := lv_neT c8 (a := 4) (by decide); have e5 := lv_neT c9 (a := 5) (by decide); omega) (by decide) ?_
              refine lv_iconst (v := (-1)) hx hb dX7_now_78 (by decide) ?_
              exact W.iret (v := (-1)) hx hb hr (fun t ht hW => ⟨⟨(-1), (), rfl, ⟨Option.some.inj hG, trivial⟩, trivial⟩, hS.F ht⟩) hS.2.2 dX7_now_79

