def gX7_morning (m_told : Nat → Int32) (m_s : Nat → Int32) (m_past : Nat → Int32) (m_known : Int32) (a1 : Int32) (a2 : Int32) (a3 : Int32) : Option (Int32 × (Nat → Int32) × (Nat → Int32) × Int32) :=
    wq_b1 (gX7_isMorning m_told a1 a2 a3) (fun v2 =>
    if v2 = 0 then
    some ((-1), m_s, m_past, m_known)
    else
    wq_b1 (gX7_isIll m_s a3) (fun v6 =>
    if v6 = 0 then
    (if (m_s 0) = 999 then
    some ((-2), m_s, m_past, m_known)
    else
    wq_b2 (gX7_keeps m_s m_past m_known) (fun w11 w12 =>
    wq_b2 (gX7_goes m_told m_s a1 a2 a3) (fun v14 w15 =>
    some (v14, w15, w11, w12))))
    else
    some ((-2), m_s, m_past, m_known)))
theorem hdV_X7_morning : yX7_morning.cls = RX7 ∧ yX7_morning.cls ≠ "java/lang/invoke/MethodHandle" ∧ yX7_morning.cls ≠ "java/lang/invoke/VarHandle" ∧ (parseMethodDescriptor yX7_morning.desc).map (fun d => d.parameters.length) = some 3 := by decide +kernel
set_option maxHeartbeats 4000000 in
set_option maxRecDepth 100000 in
theorem C_X7_morning (l : Launch) (dC : Nat → ClassId) (dI : Nat → Nat → Nat) (cI cJ cZ : ClassId) (qa : Nat → Nat) (sz : Nat) (m_trace : Int64) (m_text : Nat → Int32) (m_typed : Int32) (m_told : Nat → Int32) (m_draft : Nat → Int32) (m_s : Nat → Int32) (m_past : Nat → Int32) (m_known : Int32) (m_images : Nat → Int32) (m_kept : Nat → Int32) (m_notes : Nat → Int32) (m_noted : Int32) (m_at : Int32) (m_sort : Int32) (m_start : Int32) (m_value : Int32) (m_steps : Nat → Int32) (m_rows : Nat → Int32) (m_held : Nat → Int32) (a1 : Int32) (a2 : Int32) (a3 : Int32) (r0 : Int32) (r_m_s : Nat → Int32) (r_m_past : Nat → Int32) (r_m_known : Int32) (hG : gX7_morning m_told m_s m_past m_known a1 a2 a3 = some (r0, r_m_s, r_m_past, r_m_known)) : Met l yX7_morning wsX7_morning ({ frames := 4, cells := 0, slots := 0, locals := 94 } : Room) (va_Pc [.ref (qa 0), .int a1, .int a2, .int a3] (wq_pw (dC, dI) [(cI, .int), (cJ, .long), (cZ, .boolean)] (wcM qa cI cJ cZ m_trace m_text m_typed m_told m_draft m_s m_past m_known m_images m_kept m_notes m_noted m_at m_sort m_start m_value m_steps m_rows m_held) sz)) (wq_Wi (dC, dI) r0 wq_tr (wcM qa cI cJ cZ m_trace m_text m_typed m_told m_draft r_m_s r_m_past r_m_known m_images m_kept m_notes m_noted m_at m_sort m_start m_value m_steps m_rows m_held) (va_A (wcM qa cI cJ cZ m_trace m_text m_typed m_told m_draft m_s m_past m_known m_images m_kept m_notes m_noted m_at m_sort m_start m_value m_steps m_rows m_held) sz)) 0 0 (va_A (wcM qa cI cJ cZ m_trace m_text m_typed m_told m_draft m_s m_past m_known m_images m_kept m_notes m_noted m_at m_sort m_start m_value m_steps m_rows m_held) sz) := by
  refine Met.ofW (cc := cX7_morning) (maxL := 4) (ret := (some .int)) (by decide) rfl ?_
  intro p e s m args below meth c s₁ B hml hv
  obtain ⟨rfl, hsz, hP, hK, hD0, hE⟩ := hv
  have hx := B.exec
  have hb := B.bytes
  have hr := B.returns
  have hts := atoms_spec (ws := wsX7_morning) B.pre
  have hown : s.vm.findClass RX7 = some m.cls := findClass_of_methodNamed B.named
  have hlocks := B.notSynchronized
  subst hsz
  have hD := hD0.self (sz := s.heap.size)
  generalize hAe : va_A (wcM qa cI cJ cZ m_trace m_text m_typed m_told m_draft m_s m_past m_known m_images m_kept m_notes m_noted m_at m_sort m_start m_value m_steps m_rows m_held) s.heap.size = A at hD hE ⊢
  have hA : ∀ q : Nat, s.heap.size ≤ q → A q := fun q h => by rw [← hAe]; exact Or.inr h
  have hS : va_S A s.heap s.heap [] := va_S.rf
  have hinX7 : ∀ w ∈ u_ws RX7 TX7 19, w ∈ wsX7_morning := by decide +kernel
  have k1 := hts (.fieldLink RX7 19 "DoorMorningsModel" "s" "[I") (by decide +kernel)
  have hl := lv_entry ([.ref (qa 0), .int a1, .int a2, .int a3]) (n := 4) (Nat.le_of_ble_eq_true rfl)
  rw [lg_entry_eq]
  generalize (lg_sl ([.ref (qa 0), .int a1, .int a2, .int a3]) ++ List.replicate (4 - (lg_sl ([.ref (qa 0), .int a1, .int a2, .int a3])).length) Slot.unset).toArray = ls at hl ⊢
  have hl : lv_has ls 4 [(0, .ref (qa 0)), (1, .int a1), (2, .int a2), (3, .int a3)] := hl
  unfold gX7_morning at hG
  refine lv_aload_n hx hb dX7_morning_0 rfl (lv_at hl 0 rfl) ?_
  refine lv_iload_n hx hb dX7_morning_1 rfl (lv_at hl 1 rfl) ?_
  refine lv_iload_n hx hb dX7_morning_2 rfl (lv_at hl 2 rfl) ?_
  refine lv_iload_n hx hb dX7_morning_3 rfl (lv_at hl 3 rfl) ?_
  obtain ⟨v2, g1, hG⟩ := wq_b1_s hG
  refine wq_ci (v := v2) (B := wq_Z1) (va_runV (As := [.int a1, .int a2, .int a3]) (rest := []) ⟨hx, hb, hml, hown, hts⟩ (C_X7_isMorning l dC dI cI cJ cZ qa s.heap.size m_trace m_text m_typed m_told m_draft m_s m_past m_known m_images m_kept m_notes m_noted m_at m_sort m_start m_value m_steps m_rows m_held a1 a2 a3 v2 g1) (cwV 3 hts gX7_morning_X7_isMorning rfl rfl rfl hdV_X7_isMorning ⟨Nat.le_of_ble_eq_true rfl, Nat.le_of_ble_eq_true rfl⟩) (wq_ppV hK hP hE hS hA (ci := 7) (q0 := 0) rfl rfl) rfl rfl hl.1 rfl (lv_room (Nat.le_of_ble_eq_true rfl)) dX7_morning_4 ⟨Nat.zero_le _, Nat.zero_le _⟩) hS hA (fun H locs b3 hk hS => ?_)
  replace hP := wq_kp hP hk
  clear hk
  refine lv_if_ne (tgt := 12) hx hb dX7_morning_7 (by decide) (fun c4 => ?_) (fun c4 => ?_)
  · replace hG := wq_f c4 hG
    refine lv_aload_n hx hb dX7_morning_12 rfl (lv_at hl 0 rfl) ?_
    refine lv_iload_n hx hb dX7_morning_13 rfl (lv_at hl 3 rfl) ?_
    obtain ⟨v6, g5, hG⟩ := wq_b1_s hG
    refine wq_ci (v := v6) (B := wq_Z1) (va_runV (As := [.int a3]) (rest := []) ⟨hx, hb, hml, hown, hts⟩ (C_X7_isIll l dC dI cI cJ cZ qa H.size m_trace m_text m_typed m_told m_draft m_s m_past m_known m_images m_kept m_notes m_noted m_at m_sort m_start m_value m_steps m_rows m_held a3 v6 g5) (cwV 1 hts gX7_morning_X7_isIll rfl rfl rfl hdV_X7_isIll ⟨Nat.le_of_ble_eq_true rfl, Nat.le_of_ble_eq_true rfl⟩) (wq_ppV hK hP hE hS hA (ci := 7) (q0 := 0) rfl rfl) rfl rfl hl.1 rfl (lv_room (Nat.le_of_ble_eq_true rfl)) dX7_morning_14 ⟨Nat.zero_le _, Nat.zero_le _⟩) hS hA (fun H locs b7 hk hS => ?_)
    replace hP := wq_kp hP hk
    clear hk
    refine lv_if_ne (tgt := 32) hx hb dX7_morning_17 (by decide) (fun c8 => ?_) (fun c8 => ?_)
    · replace hG := wq_f c8 hG
      refine lv_bipush (v := (-2)) hx hb dX7_morning_32 (by decide) ?_
      cases hG
      exact W.iret hx hb hr (fun t ht hW => ⟨⟨_, (), rfl, ⟨rfl, trivial⟩, by rw [ht]; exact hP, hD⟩, hS.F ht⟩) hS.2.2 dX7_morning_34
    · replace hG := wq_t c8 hG
      refine lv_aload_n hx hb dX7_morning_20 rfl (lv_at hl 0 rfl) ?_
      refine va_get (D := (dC, dI)) (ci := 7) (v := .ref (qa 4)) (C := RX7) (T := TX7) (N := 19) hx hb hts hinX7 hown hK hP 0 rfl rfl 5 (by decide) k1 (fun _ h9 => h9) rfl dX7_morning_21 ?_
      refine lv_iconst (v := 0) hx hb dX7_morning_24 (by decide) ?_
      refine wq_iald (D := (dC, dI)) hx hb hK hP 4 0 rfl rfl (wq_lit (by decide)) 0 rfl dX7_morning_25 ?_
      refine lv_sipush (v := 999) hx hb dX7_morning_26 (by decide) ?_
      refine lv_icmp_ne (tgt := 35) hx hb dX7_morning_29 (by decide) (fun c9 => ?_) (fun c9 => ?_)
      · replace hG := wq_f c9 hG
        refine lv_aload_n hx hb dX7_morning_35 rfl (lv_at hl 0 rfl) ?_
        obtain ⟨w11, w12, g10, hG⟩ := wq_b2_s hG
        have hFc := va_free (wc := wcM qa cI cJ cZ m_trace m_text m_typed m_told m_draft m_s m_past m_known m_images m_kept m_notes m_noted m_at m_sort m_start m_value m_steps m_rows m_held) hD hS hA [0, 1, 2, 3, 4, 5, 6, 7, 8, 9, 10, 11] rfl
        refine wq_dv (D := (dC, dI)) (wr := []) (w1 := wcM qa cI cJ cZ m_trace m_text m_typed m_told m_draft m_s w11 w12 m_images m_kept m_notes m_noted m_at m_sort m_start m_value m_steps m_rows m_held) (w2 := wcM qa cI cJ cZ m_trace m_text m_typed m_told m_draft m_s w11 w12 m_images m_kept m_notes m_noted m_at m_sort m_start m_value m_steps m_rows m_held) (va_runV (As := []) (rest := []) ⟨hx, hb, hml, hown, hts⟩ (C_X7_keeps l dC dI cI cJ cZ qa H.size m_trace m_text m_typed m_told m_draft m_s m_past m_known m_images m_kept m_notes m_noted m_at m_sort m_start m_value m_steps m_rows m_held  w11 w12 g10) (cwV 0 hts gX7_morning_X7_keeps rfl rfl rfl hdV_X7_keeps ⟨Nat.le_of_ble_eq_true rfl, Nat.le_of_ble_eq_true rfl⟩) (wq_pwV hK hP hD hE hS hFc (ci := 7) (q0 := 0) rfl rfl) rfl rfl hl.1 rfl (lv_room (Nat.le_of_ble_eq_true rfl)) dX7_morning_36 ⟨Nat.zero_le _, Nat.zero_le _⟩) hP hD hS hFc [0, 1, 2, 3, 4, 5, 6, 7, 8, 9, 10, 11] [] [0, 1, 2, 3, 4, 5, 6, 7, 8, 9, 10, 11] rfl rfl (by decide) (by decide) (by decide) rfl (fun H locs hP hD hS => ?_)
        clear hFc
        refine lv_aload_n hx hb dX7_morning_39 rfl (lv_at hl 0 rfl) ?_
        refine lv_iload_n hx hb dX7_morning_40 rfl (lv_at hl 1 rfl) ?_
        refine lv_iload_n hx hb dX7_morning_41 rfl (lv_at hl 2 rfl) ?_
        refine lv_iload_n hx hb dX7_morning_42 rfl (lv_at hl 3 rfl) ?_
        obtain ⟨v14, w15, g13, hG⟩ := wq_b2_s hG
        have hFc := va_free (wc := wcM qa cI cJ cZ m_trace m_text m_typed m_told m_draft m_s w11 w12 m_images m_kept m_notes m_noted m_at m_sort m_start m_value m_steps m_rows m_held) hD hS hA [0, 1, 2, 3, 4, 5, 6, 7, 8, 9, 10, 11] rfl
        refine wq_di (D := (dC, dI)) (v := v14) (B := wq_tr) (wr := []) (w1 := wcM qa cI cJ cZ m_trace m_text m_typed m_told m_draft w15 w11 w12 m_images m_kept m_notes m_noted m_at m_sort m_start m_value m_steps m_rows m_held) (w2 := wcM qa cI cJ cZ m_trace m_text m_typed m_told m_draft w15 w11 w12 m_images m_kept m_notes m_noted m_at m_sort m_start m_value m_steps m_rows m_held) (va_runV (As := [.int a1, .int a2, .int a3]) (rest := []) ⟨hx, hb, hml, hown, hts⟩ (C_X7_goes l dC dI cI cJ cZ qa H.size m_trace m_text m_typed m_told m_draft m_s w11 w12 m_images m_kept m_notes m_noted m_at m_sort m_start m_value m_steps m_rows m_held a1 a2 a3 v14 w15 g13) (cwV 3 hts gX7_morning_X7_goes rfl rfl rfl hdV_X7_goes ⟨Nat.le_of_ble_eq_true rfl, Nat.le_of_ble_eq_true rfl⟩) (wq_pwV hK hP hD hE hS hFc (ci := 7) (q0 := 0) rfl rfl) rfl rfl hl.1 rfl (lv_room (Nat.le_of_ble_eq_true rfl)) dX7_morning_43 ⟨Nat.zero_le _, Nat.zero_le _⟩) hP hD hS hFc [0, 1, 2, 3, 4, 5, 6, 7, 8, 9, 10, 11] [] [0, 1, 2, 3, 4, 5, 6, 7, 8, 9, 10, 11] rfl rfl (by decide) (by decide) (by decide) rfl (fun H locs b16 hP hD hS => ?_)
        clear hFc
        cases hG
        exact W.iret hx hb hr (fun t ht hW => ⟨⟨_, (), rfl, ⟨rfl, trivial⟩, by rw [ht]; exact hP, hD⟩, hS.F ht⟩) hS.2.2 dX7_morning_46
      · replace hG := wq_t c9 hG
        refine lv_bipush (v := (-2)) hx hb dX7_morning_32 (by decide) ?_
        cases hG
        exact W.iret hx hb hr (fun t ht hW => ⟨⟨_, (), rfl, ⟨rfl, trivial⟩, by rw [ht]; exact hP, hD⟩, hS.F ht⟩) hS.2.2 dX7_morning_34
  · replace hG := wq_t c4 hG
    refine lv_iconst (v := (-1)) hx hb dX7_morning_10 (by decide) ?_
    cases hG
    exact W.iret hx hb hr (fun t ht hW => ⟨⟨_, (), rfl, ⟨rfl, trivial⟩, by rw [ht]; exact hP, hD⟩, hS.F ht⟩) hS.2.2 dX7_morning_11

def gX7_home (m_s : Nat → Int32) (m_past : Nat → Int32) (m_known : Int32) (a1 : Int32) : Option (Int32 × (Nat → Int32) × (Nat → Int32) × Int32) :=
    wq_b1 (gX7_in a1 1 9) (fun v2 =>
    if v2 = 0 then
    some ((-1), m_s, m_past, m_known)
    else
    (if ((m_s 0) + a1) ≤ 999 then
    wq_b2 (gX7_keeps m_s m_past m_known) (fun w7 w8 =>
    wq_b1 (gX7_bound (((upd m_s 0 ((m_s 0) + a1)) 1) - a1) 0 24) (fun v10 =>
    some (((upd (upd m_s 0 ((m_s 0) + a1)) 1 v10) 1), (upd (upd m_s 0 ((m_s 0) + a1)) 1 v10), w7, w8)))
    else
    some ((-2), m_s, m_past, m_known)))
theorem hdV_X7_home : yX7_home.cls = RX7 ∧ yX7_home.cls ≠ "java/lang/invoke/MethodHandle" ∧ yX7_home.cls ≠ "java/lang/invoke/VarHandle" ∧ (parseMethodDescriptor yX7_home.desc).map (fun d => d.parameters.length) = some 1 := by decide +kernel
set_option maxHeartbeats 4000000 in
set_option maxRecDepth 100000 in
theorem C_X7_home (l : Launch) (dC : Nat → ClassId) (dI : Nat → Nat → Nat) (cI cJ cZ : ClassId) (qa : Nat → Nat) (sz : Nat) (m_trace : Int64) (m_text : Nat → Int32) (m_typed : Int32) (m_told : Nat → Int32) (m_draft : Nat → Int32) (m_s : Nat → Int32) (m_past : Nat → Int32) (m_known : Int32) (m_images : Nat → Int32) (m_kept : Nat → Int32) (m_notes : Nat → Int32) (m_noted : Int32) (m_at : Int32) (m_sort : Int32) (m_start : Int32) (m_value : Int32) (m_steps : Nat → Int32) (m_rows : Nat → Int32) (m_held : Nat → Int32) (a1 : Int32) (r0 : Int32) (r_m_s : Nat → Int32) (r_m_past : Nat → Int32) (r_m_known : Int32) (hG : gX7_home m_s m_past m_known a1 = some (r0, r_m_s, r_m_past, r_m_known)) : Met l yX7_home wsX7_home ({ frames := 1, cells := 0, slots := 0, locals := 22 } : Room) (va_Pc [.ref (qa 0), .int a1] (wq_pw (dC, dI) [(cI, .int), (cJ, .long), (cZ, .boolean)] (wcM qa cI cJ cZ m_trace m_text m_typed m_told m_draft m_s m_past m_known m_images m_kept m_notes m_noted m_at m_sort m_start m_value m_steps m_rows m_held) sz)) (wq_Wi (dC, dI) r0 wq_tr (wcM qa cI cJ cZ m_trace m_text m_typed m_told m_draft r_m_s r_m_past r_m_known m_images m_kept m_notes m_noted m_at m_sort m_start m_value m_steps m_rows m_held) (va_A (wcM qa cI cJ cZ m_trace m_text m_typed m_told m_draft m_s m_past m_known m_images m_kept m_notes m_noted m_at m_sort m_start m_value m_steps m_rows m_held) sz)) 0 0 (va_A (wcM qa cI cJ cZ m_trace m_text m_typed m_told m_draft m_s m_past m_known m_images m_kept m_notes m_noted m_at m_sort m_start m_value m_steps m_rows m_held) sz) := by
  refine Met.ofW (cc := cX7_home) (maxL := 2) (ret := (some .int)) (by decide) rfl ?_
  intro p e s m args below meth c s₁ B hml hv
  obtain ⟨rfl, hsz, hP, hK, hD0, hE⟩ := hv
  have hx := B.exec
  have hb := B.bytes
  have hr := B.returns
  have hts := atoms_spec (ws := wsX7_home) B.pre
  have hown : s.vm.findClass RX7 = some m.cls := findClass_of_methodNamed B.named
  have hlocks := B.notSynchronized
  subst hsz
  have hD := hD0.self (sz := s.heap.size)
  generalize hAe : va_A (wcM qa cI cJ cZ m_trace m_text m_typed m_told m_draft m_s m_past m_known m_images m_kept m_notes m_noted m_at m_sort m_start m_value m_steps m_rows m_held) s.heap.size = A at hD hE ⊢
  have hA : ∀ q : Nat, s.heap.size ≤ q → A q := fun q h => by rw [← hAe]; exact Or.inr h
  have hS : va_S A s.heap s.heap [] := va_S.rf
  have hinX7 : ∀ w ∈ u_ws RX7 TX7 19, w ∈ wsX7_home := by decide +kernel
  have k1 := hts (.fieldLink RX7 19 "DoorMorningsModel" "s" "[I") (by decide +kernel)
  have hl := lv_entry ([.ref (qa 0), .int a1]) (n := 2) (Nat.le_of_ble_eq_true rfl)
  rw [lg_entry_eq]
  generalize (lg_sl ([.ref (qa 0), .int a1]) ++ List.replicate (2 - (lg_sl ([.ref (qa 0), .int a1])).length) Slot.unset).toArray = ls at hl ⊢
  have hl : lv_has ls 2 [(0, .ref (qa 0)), (1, .int a1)] := hl
  unfold gX7_home at hG
  refine lv_iload_n hx hb dX7_home_0 rfl (lv_at hl 1 rfl) ?_
  refine lv_iconst (v := 1) hx hb dX7_home_1 (by decide) ?_
  refine lv_bipush (v := 9) hx hb dX7_home_2 (by decide) ?_
  obtain ⟨v2, g1, hG⟩ := wq_b1_s hG
  refine wq_ci (v := v2) (B := wq_Z1) (va_runS (As := [.int a1, .int 1, .int 9]) (rest := []) ⟨hx, hb, hml, hown, hts⟩ (C_X7_in l dC dI cI cJ cZ qa s.heap.size  a1 1 9 v2 g1) (va_cwS 3 hts gX7_home_X7_in rfl rfl rfl hdS_X7_in ⟨Nat.le_of_ble_eq_true rfl, Nat.le_of_ble_eq_true rfl⟩) (wq_ppS hK (hP.sub (ws' := []) [] rfl) hE hS hA) rfl rfl hl.1 rfl (lv_room (Nat.le_of_ble_eq_true rfl)) dX7_home_4 ⟨Nat.zero_le _, Nat.zero_le _⟩) hS hA (fun H locs b3 hk hS => ?_)
  replace hP := wq_kp hP hk
  clear hk
  refine lv_if_ne (tgt := 12) hx hb dX7_home_7 (by decide) (fun c4 => ?_) (fun c4 => ?_)
  · replace hG := wq_f c4 hG
    refine lv_aload_n hx hb dX7_home_12 rfl (lv_at hl 0 rfl) ?_
    refine va_get (D := (dC, dI)) (ci := 7) (v := .ref (qa 4)) (C := RX7) (T := TX7) (N := 19) hx hb hts hinX7 hown hK hP 0 rfl rfl 5 (by decide) k1 (fun _ h9 => h9) rfl dX7_home_13 ?_
    refine lv_iconst (v := 0) hx hb dX7_home_16 (by decide) ?_
    refine wq_iald (D := (dC, dI)) hx hb hK hP 4 0 rfl rfl (wq_lit (by decide)) 0 rfl dX7_home_17 ?_
    refine lv_iload_n hx hb dX7_home_18 rfl (lv_at hl 1 rfl) ?_
    refine lv_iadd hx hb dX7_home_19 ?_
    refine lv_sipush (v := 999) hx hb dX7_home_20 (by decide) ?_
    refine lv_icmp_le (tgt := 29) hx hb dX7_home_23 (by decide) (fun c5 => ?_) (fun c5 => ?_)
    · replace hG := wq_t c5 hG
      refine lv_aload_n hx hb dX7_home_29 rfl (lv_at hl 0 rfl) ?_
      obtain ⟨w7, w8, g6, hG⟩ := wq_b2_s hG
      have hFc := va_free (wc := wcM qa cI cJ cZ m_trace m_text m_typed m_told m_draft m_s m_past m_known m_images m_kept m_notes m_noted m_at m_sort m_start m_value m_steps m_rows m_held) hD hS hA [0, 1, 2, 3, 4, 5, 6, 7, 8, 9, 10, 11] rfl
      refine wq_dv (D := (dC, dI)) (wr := []) (w1 := wcM qa cI cJ cZ m_trace m_text m_typed m_told m_draft m_s w7 w8 m_images m_kept m_notes m_noted m_at m_sort m_start m_value m_steps m_rows m_held) (w2 := wcM qa cI cJ cZ m_trace m_text m_typed m_told m_draft m_s w7 w8 m_images m_kept m_notes m_noted m_at m_sort m_start m_value m_steps m_rows m_held) (va_runV (As := []) (rest := []) ⟨hx, hb, hml, hown, hts⟩ (C_X7_keeps l dC dI cI cJ cZ qa H.size m_trace m_text m_typed m_told m_draft m_s m_past m_known m_images m_kept m_notes m_noted m_at m_sort m_start m_value m_steps m_rows m_held  w7 w8 g6) (cwV 0 hts gX7_home_X7_keeps rfl rfl rfl hdV_X7_keeps ⟨Nat.le_of_ble_eq_true rfl, Nat.le_of_ble_eq_true rfl⟩) (wq_pwV hK hP hD hE hS hFc (ci := 7) (q0 := 0) rfl rfl) rfl rfl hl.1 rfl (lv_room (Nat.le_of_ble_eq_true rfl)) dX7_home_30 ⟨Nat.zero_le _, Nat.zero_le _⟩) hP hD hS hFc [0, 1, 2, 3, 4, 5, 6, 7, 8, 9, 10, 11] [] [0, 1, 2, 3, 4, 5, 6, 7, 8, 9, 10, 11] rfl rfl (by decide) (by decide) (by decide) rfl (fun H locs hP hD hS => ?_)
      clear hFc
      refine lv_aload_n hx hb dX7_home_33 rfl (lv_at hl 0 rfl) ?_
      refine va_get (D := (dC, dI)) (ci := 7) (v := .ref (qa 4)) (C := RX7) (T := TX7) (N := 19) hx hb hts hinX7 hown hK hP 0 rfl rfl 5 (by decide) k1 (fun _ h9 => h9) rfl dX7_home_34 ?_
      refine lv_iconst (v := 0) hx hb dX7_home_37 (by decide) ?_
      refine lv_dup2_11 hx hb dX7_home_38 rfl rfl ?_
      refine wq_iald (D := (dC, dI)) hx hb hK hP 4 0 rfl rfl (wq_lit (by decide)) 0 rfl dX7_home_39 ?_
      refine lv_iload_n hx hb dX7_home_40 rfl (lv_at hl 1 rfl) ?_
      refine lv_iadd hx hb dX7_home_41 ?_
      refine wq_iast (D := (dC, dI)) hx hb hK hP hD hS 4 0 rfl rfl (wq_lit (by decide)) 0 rfl (wcM qa cI cJ cZ m_trace m_text m_typed m_told m_draft (upd m_s 0 ((m_s 0) + a1)) w7 w8 m_images m_kept m_notes m_noted m_at m_sort m_start m_value m_steps m_rows m_held) rfl dX7_home_42 (fun H locs hP hD hS => ?_)
      refine lv_aload_n hx hb dX7_home_43 rfl (lv_at hl 0 rfl) ?_
      refine va_get (D := (dC, dI)) (ci := 7) (v := .ref (qa 4)) (C := RX7) (T := TX7) (N := 19) hx hb hts hinX7 hown hK hP 0 rfl rfl 5 (by decide) k1 (fun _ h9 => h9) rfl dX7_home_44 ?_
      refine lv_iconst (v := 1) hx hb dX7_home_47 (by decide) ?_
      refine lv_aload_n hx hb dX7_home_48 rfl (lv_at hl 0 rfl) ?_
      refine va_get (D := (dC, dI)) (ci := 7) (v := .ref (qa 4)) (C := RX7) (T := TX7) (N := 19) hx hb hts hinX7 hown hK hP 0 rfl rfl 5 (by decide) k1 (fun _ h9 => h9) rfl dX7_home_49 ?_
      refine lv_iconst (v := 1) hx hb dX7_home_52 (by decide) ?_
      refine wq_iald (D := (dC, dI)) hx hb hK hP 4 0 rfl rfl (wq_lit (by decide)) 1 rfl dX7_home_53 ?_
      refine lv_iload_n hx hb dX7_home_54 rfl (lv_at hl 1 rfl) ?_
      refine lv_isub hx hb dX7_home_55 ?_
      refine lv_iconst (v := 0) hx hb dX7_home_56 (by decide) ?_
      refine lv_bipush (v := 24) hx hb dX7_home_57 (by decide) ?_
      obtain ⟨v10, g9, hG⟩ := wq_b1_s hG
      refine wq_ci (v := v10) (B := wq_tr) (va_runS (As := [.int (((upd m_s 0 ((m_s 0) + a1)) 1) - a1), .int 0, .int 24]) (rest := [.int 1, .ref (qa 4)]) ⟨hx, hb, hml, hown, hts⟩ (C_X7_bound l dC dI cI cJ cZ qa H.size  (((upd m_s 0 ((m_s 0) + a1)) 1) - a1) 0 24 v10 g9) (va_cwS 3 hts gX7_home_X7_bound rfl rfl rfl hdS_X7_bound ⟨Nat.le_of_ble_eq_true rfl, Nat.le_of_ble_eq_true rfl⟩) (wq_ppS hK (hP.sub (ws' := []) [] rfl) hE hS hA) rfl rfl hl.1 rfl (lv_room (Nat.le_of_ble_eq_true rfl)) dX7_home_59 ⟨Nat.zero_le _, Nat.zero_le _⟩) hS hA (fun H locs b11 hk hS => ?_)
      replace hP := wq_kp hP hk
      clear hk
      refine wq_iast (D := (dC, dI)) hx hb hK hP hD hS 4 0 rfl rfl (wq_lit (by decide)) 1 rfl (wcM qa cI cJ cZ m_trace m_text m_typed m_told m_draft (upd (upd m_s 0 ((m_s 0) + a1)) 1 v10) w7 w8 m_images m_kept m_notes m_noted m_at m_sort m_start m_value m_steps m_rows m_held) rfl dX7_home_62 (fun H locs hP hD hS => ?_)
      refine lv_aload_n hx hb dX7_home_63 rfl (lv_at hl 0 rfl) ?_
      refine va_get (D := (dC, dI)) (ci := 7) (v := .ref (qa 4)) (C := RX7) (T := TX7) (N := 19) hx hb hts hinX7 hown hK hP 0 rfl rfl 5 (by decide) k1 (fun _ h9 => h9) rfl dX7_home_64 ?_
      refine lv_iconst (v := 1) hx hb dX7_home_67 (by decide) ?_
      refine wq_iald (D := (dC, dI)) hx hb hK hP 4 0 rfl rfl (wq_lit (by decide)) 1 rfl dX7_home_68 ?_
      cases hG
      exact W.iret hx hb hr (fun t ht hW => ⟨⟨_, (), rfl, ⟨rfl, trivial⟩, by rw [ht]; exact hP, hD⟩, hS.F ht⟩) hS.2.2 dX7_home_69
    · replace hG := wq_f c5 hG
      refine lv_bipush (v := (-2)) hx hb dX7_home_26 (by decide) ?_
      cases hG
      exact W.iret hx hb hr (fun t ht hW => ⟨⟨_, (), rfl, ⟨rfl, trivial⟩, by rw [ht]; exact hP, hD⟩, hS.F ht⟩) hS.2.2 dX7_home_28
  · replace hG := wq_t c4 hG
    refine lv_iconst (v := (-1)) hx hb dX7_home_10 (by decide) ?_
    cases hG
    exact W.iret hx hb hr (fun t ht hW => ⟨⟨_, (), rfl, ⟨rfl, trivial⟩, by rw [ht]; exact hP, hD⟩, hS.F ht⟩) hS.2.2 dX7_home_11

def gX7_falls (m_told : Nat → Int32) (m_s : Nat → Int32) (m_past : Nat → Int32) (m_known : Int32) (a1 : Int32) (a2 : Int32) : Option (Int32 × (Nat → Int32) × (Nat → Int32) × Int32) :=
    wq_b1 (gX7_isWoman m_told a1) (fun v2 =>
    if v2 = 0 then
    some ((-1), m_s, m_past, m_known)
    else
    wq_b1 (gX7_in a2 0 1) (fun v6 =>
    if v6 = 0 then
    some ((-1), m_s, m_past, m_known)
    else
    (if (((m_s 3) >>> (a1 &&& 31)) &&& 1) = a2 then
    some ((-2), m_s, m_past, m_known)
    else
    wq_b2 (gX7_keeps m_s m_past m_known) (fun w11 w12 =>
    wq_b1 (gX7_ones ((upd m_s 3 ((m_s 3) ^^^ (1 <<< (a1 &&& 31)))) 3)) (fun v14 =>
    some (v14, (upd m_s 3 ((m_s 3) ^^^ (1 <<< (a1 &&& 31)))), w11, w12))))))
theorem hdV_X7_falls : yX7_falls.cls = RX7 ∧ yX7_falls.cls ≠ "java/lang/invoke/MethodHandle" ∧ yX7_falls.cls ≠ "java/lang/invoke/VarHandle" ∧ (parseMethodDescriptor yX7_falls.desc).map (fun d => d.parameters.length) = some 2 := by decide +kernel
set_option maxHeartbeats 4000000 in
set_option maxRecDepth 100000 in
theorem C_X7_falls (l : Launch) (dC : Nat → ClassId) (dI : Nat → Nat → Nat) (cI cJ cZ : ClassId) (qa : Nat → Nat) (sz : Nat) (m_trace : Int64) (m_text : Nat → Int32) (m_typed : Int32) (m_told : Nat → Int32) (m_draft : Nat → Int32) (m_s : Nat → Int32) (m_past : Nat → Int32) (m_known : Int32) (m_images : Nat → Int32) (m_kept : Nat → Int32) (m_notes : Nat → Int32) (m_noted : Int32) (m_at : Int32) (m_sort : Int32) (m_start : Int32) (m_value : Int32) (m_steps : Nat → Int32) (m_rows : Nat → Int32) (m_held : Nat → Int32) (a1 : Int32) (a2 : Int32) (r0 : Int32) (r_m_s : Nat → Int32) (r_m_past : Nat → Int32) (r_m_known : Int32) (hG : gX7_falls m_told m_s m_past m_known a1 a2 = some (r0, r_m_s, r_m_past, r_m_known)) : Met l yX7_falls wsX7_falls ({ frames := 2, cells := 0, slots := 0, locals := 43 } : Room) (va_Pc [.ref (qa 0), .int a1, .int a2] (wq_pw (dC, dI) [(cI, .int), (cJ, .long), (cZ, .boolean)] (wcM qa cI cJ cZ m_trace m_text m_typed m_told m_draft m_s m_past m_known m_images m_kept m_notes m_noted m_at m_sort m_start m_value m_steps m_rows m_held) sz)) (wq_Wi (dC, dI) r0 wq_tr (wcM qa cI cJ cZ m_trace m_text m_typed m_told m_draft r_m_s r_m_past r_m_known m_images m_kept m_notes m_noted m_at m_sort m_start m_value m_steps m_rows m_held) (va_A (wcM qa cI cJ cZ m_trace m_text m_typed m_told m_draft m_s m_past m_known m_images m_kept m_notes m_noted m_at m_sort m_start m_value m_steps m_rows m_held) sz)) 0 0 (va_A (wcM qa cI cJ cZ m_trace m_text m_typed m_told m_draft m_s m_past m_known m_images m_kept m_notes m_noted m_at m_sort m_start m_value m_steps m_rows m_held) sz) := by
  refine Met.ofW (cc := cX7_falls) (maxL := 3) (ret := (some .int)) (by decide) rfl ?_
  intro p e s m args below meth c s₁ B hml hv
  obtain ⟨rfl, hsz, hP, hK, hD0, hE⟩ := hv
  have hx := B.exec
  have hb := B.bytes
  have hr := B.returns
  have hts := atoms_spec (ws := wsX7_falls) B.pre
  have hown : s.vm.findClass RX7 = some m.cls := findClass_of_methodNamed B.named
  have hlocks := B.notSynchronized
  subst hsz
  have hD := hD0.self (sz := s.heap.size)
  generalize hAe : va_A (wcM qa cI cJ cZ m_trace m_text m_typed m_told m_draft m_s m_past m_known m_images m_kept m_notes m_noted m_at m_sort m_start m_value m_steps m_rows m_held) s.heap.size = A at hD hE ⊢
  have hA : ∀ q : Nat, s.heap.size ≤ q → A q := fun q h => by rw [← hAe]; exact Or.inr h
  have hS : va_S A s.heap s.heap [] := va_S.rf
  have hinX7 : ∀ w ∈ u_ws RX7 TX7 19, w ∈ wsX7_falls := by decide +kernel
  have k1 := hts (.fieldLink RX7 19 "DoorMorningsModel" "s" "[I") (by decide +kernel)
  have hl := lv_entry ([.ref (qa 0), .int a1, .int a2]) (n := 3) (Nat.le_of_ble_eq_true rfl)
  rw [lg_entry_eq]
  generalize (lg_sl ([.ref (qa 0), .int a1, .int a2]) ++ List.replicate (3 - (lg_sl ([.ref (qa 0), .int a1, .int a2])).length) Slot.unset).toArray = ls at hl ⊢
  have hl : lv_has ls 3 [(0, .ref (qa 0)), (1, .int a1), (2, .int a2)] := hl
  unfold gX7_falls at hG
  refine lv_aload_n hx hb dX7_falls_0 rfl (lv_at hl 0 rfl) ?_
  refine lv_iload_n hx hb dX7_falls_1 rfl (lv_at hl 1 rfl) ?_
  obtain ⟨v2, g1, hG⟩ := wq_b1_s hG
  refine wq_ci (v := v2) (B := wq_Z1) (va_runV (As := [.int a1]) (rest := []) ⟨hx, hb, hml, hown, hts⟩ (C_X7_isWoman l dC dI cI cJ cZ qa s.heap.size m_trace m_text m_typed m_told m_draft m_s m_past m_known m_images m_kept m_notes m_noted m_at m_sort m_start m_value m_steps m_rows m_held a1 v2 g1) (cwV 1 hts gX7_falls_X7_isWoman rfl rfl rfl hdV_X7_isWoman ⟨Nat.le_of_ble_eq_true rfl, Nat.le_of_ble_eq_true rfl⟩) (wq_ppV hK hP hE hS hA (ci := 7) (q0 := 0) rfl rfl) rfl rfl hl.1 rfl (lv_room (Nat.le_of_ble_eq_true rfl)) dX7_falls_2 ⟨Nat.zero_le _, Nat.zero_le _⟩) hS hA (fun H locs b3 hk hS => ?_)
  replace hP := wq_kp hP hk
  clear hk
  refine lv_if_eq (tgt := 17) hx hb dX7_falls_5 (by decide) (fun c4 => ?_) (fun c4 => ?_)
  · replace hG := wq_t c4 hG
    refine lv_iconst (v := (-1)) hx hb dX7_falls_17 (by decide) ?_
    cases hG
    exact W.iret hx hb hr (fun t ht hW => ⟨⟨_, (), rfl, ⟨rfl, trivial⟩, by rw [ht]; exact hP, hD⟩, hS.F ht⟩) hS.2.2 dX7_falls_18
  · replace hG := wq_f c4 hG
    refine lv_iload_n hx hb dX7_falls_8 rfl (lv_at hl 2 rfl) ?_
    refine lv_iconst (v := 0) hx hb dX7_falls_9 (by decide) ?_
    refine lv_iconst (v := 1) hx hb dX7_falls_10 (by decide) ?_
    obtain ⟨v6, g5, hG⟩ := wq_b1_s hG
    refine wq_ci (v := v6) (B := wq_Z1) (va_runS (As := [.int a2, .int 0, .int 1]) (rest := []) ⟨hx, hb, hml, hown, hts⟩ (C_X7_in l dC dI cI cJ cZ qa H.size  a2 0 1 v6 g5) (va_cwS 3 hts gX7_falls_X7_in rfl rfl rfl hdS_X7_in ⟨Nat.le_of_ble_eq_true rfl, Nat.le_of_ble_eq_true rfl⟩) (wq_ppS hK (hP.sub (ws' := []) [] rfl) hE hS hA) rfl rfl hl.1 rfl (lv_room (Nat.le_of_ble_eq_true rfl)) dX7_falls_11 ⟨Nat.zero_le _, Nat.zero_le _⟩) hS hA (fun H locs b7 hk hS => ?_)
    replace hP := wq_kp hP hk
    clear hk
    refine lv_if_ne (tgt := 19) hx hb dX7_falls_14 (by decide) (fun c8 => ?_) (fun c8 => ?_)
    · replace hG := wq_f c8 hG
      refine lv_aload_n hx hb dX7_falls_19 rfl (lv_at hl 0 rfl) ?_
      refine va_get (D := (dC, dI)) (ci := 7) (v := .ref (qa 4)) (C := RX7) (T := TX7) (N := 19) hx hb hts hinX7 hown hK hP 0 rfl rfl 5 (by decide) k1 (fun _ h9 => h9) rfl dX7_falls_20 ?_
      refine lv_iconst (v := 3) hx hb dX7_falls_23 (by decide) ?_
      refine wq_iald (D := (dC, dI)) hx hb hK hP 4 0 rfl rfl (wq_lit (by decide)) 3 rfl dX7_falls_24 ?_
      refine lv_iload_n hx hb dX7_falls_25 rfl (lv_at hl 1 rfl) ?_
      refine lv_ishr hx hb dX7_falls_26 ?_
      refine lv_iconst (v := 1) hx hb dX7_falls_27 (by decide) ?_
      refine lv_iand hx hb dX7_falls_28 ?_
      refine lv_iload_n hx hb dX7_falls_29 rfl (lv_at hl 2 rfl) ?_
      refine lv_icmp_ne (tgt := 36) hx hb dX7_falls_30 (by decide) (fun c9 => ?_) (fun c9 => ?_)
      · replace hG := wq_f c9 hG
        refine lv_aload_n hx hb dX7_falls_36 rfl (lv_at hl 0 rfl) ?_
        obtain ⟨w11, w12, g10, hG⟩ := wq_b2_s hG
        have hFc := va_free (wc := wcM qa cI cJ cZ m_trace m_text m_typed m_told m_draft m_s m_past m_known m_images m_kept m_notes m_noted m_at m_sort m_start m_value m_steps m_rows m_held) hD hS hA [0, 1, 2, 3, 4, 5, 6, 7, 8, 9, 10, 11] rfl
        refine wq_dv (D := (dC, dI)) (wr := []) (w1 := wcM qa cI cJ cZ m_trace m_text m_typed m_told m_draft m_s w11 w12 m_images m_kept m_notes m_noted m_at m_sort m_start m_value m_steps m_rows m_held) (w2 := wcM qa cI cJ cZ m_trace m_text m_typed m_told m_draft m_s w11 w12 m_images m_kept m_notes m_noted m_at m_sort m_start m_value m_steps m_rows m_held) (va_runV (As := []) (rest := []) ⟨hx, hb, hml, hown, hts⟩ (C_X7_keeps l dC dI cI cJ cZ qa H.size m_trace m_text m_typed m_told m_draft m_s m_past m_known m_images m_kept m_notes m_noted m_at m_sort m_start m_value m_steps m_rows m_held  w11 w12 g10) (cwV 0 hts gX7_falls_X7_keeps rfl rfl rfl hdV_X7_keeps ⟨Nat.le_of_ble_eq_true rfl, Nat.le_of_ble_eq_true rfl⟩) (wq_pwV hK hP hD hE hS hFc (ci := 7) (q0 := 0) rfl rfl) rfl rfl hl.1 rfl (lv_room (Nat.le_of_ble_eq_true rfl)) dX7_falls_37 ⟨Nat.zero_le _, Nat.zero_le _⟩) hP hD hS hFc [0, 1, 2, 3, 4, 5, 6, 7, 8, 9, 10, 11] [] [0, 1, 2, 3, 4, 5, 6, 7, 8, 9, 10, 11] rfl rfl (by decide) (by decide) (by decide) rfl (fun H locs hP hD hS => ?_)
        clear hFc
        refine lv_aload_n hx hb dX7_falls_40 rfl (lv_at hl 0 rfl) ?_
        refine va_get (D := (dC, dI)) (ci := 7) (v := .ref (qa 4)) (C := RX7) (T := TX7) (N := 19) hx hb hts hinX7 hown hK hP 0 rfl rfl 5 (by decide) k1 (fun _ h9 => h9) rfl dX7_falls_41 ?_
        refine lv_iconst (v := 3) hx hb dX7_falls_44 (by decide) ?_
        refine lv_dup2_11 hx hb dX7_falls_45 rfl rfl ?_
        refine wq_iald (D := (dC, dI)) hx hb hK hP 4 0 rfl rfl (wq_lit (by decide)) 3 rfl dX7_falls_46 ?_
        refine lv_iconst (v := 1) hx hb dX7_falls_47 (by decide) ?_
        refine lv_iload_n hx hb dX7_falls_48 rfl (lv_at hl 1 rfl) ?_
        refine lv_ishl hx hb dX7_falls_49 ?_
        refine lv_ixor hx hb dX7_falls_50 ?_
        refine wq_iast (D := (dC, dI)) hx hb hK hP hD hS 4 0 rfl rfl (wq_lit (by decide)) 3 rfl (wcM qa cI cJ cZ m_trace m_text m_typed m_told m_draft (upd m_s 3 ((m_s 3) ^^^ (1 <<< (a1 &&& 31)))) w11 w12 m_images m_kept m_notes m_noted m_at m_sort m_start m_value m_steps m_rows m_held) rfl dX7_falls_51 (fun H locs hP hD hS => ?_)
        refine lv_aload_n hx hb dX7_falls_52 rfl (lv_at hl 0 rfl) ?_
        refine va_get (D := (dC, dI)) (ci := 7) (v := .ref (qa 4)) (C := RX7) (T := TX7) (N := 19) hx hb hts hinX7 hown hK hP 0 rfl rfl 5 (by decide) k1 (fun _ h9 => h9) rfl dX7_falls_53 ?_
        refine lv_iconst (v := 3) hx hb dX7_falls_56 (by decide) ?_
        refine wq_iald (D := (dC, dI)) hx hb hK hP 4 0 rfl rfl (wq_lit (by decide)) 3 rfl dX7_falls_57 ?_
        obtain ⟨v14, g13, hG⟩ := wq_b1_s hG
        refine wq_ci (v := v14) (B := wq_tr) (va_runS (As := [.int ((upd m_s 3 ((m_s 3) ^^^ (1 <<< (a1 &&& 31)))) 3)]) (rest := []) ⟨hx, hb, hml, hown, hts⟩ (C_X7_ones l dC dI cI cJ cZ qa H.size  ((upd m_s 3 ((m_s 3) ^^^ (1 <<< (a1 &&& 31)))) 3) v14 g13) (va_cwS 1 hts gX7_falls_X7_ones rfl rfl rfl hdS_X7_ones ⟨Nat.le_of_ble_eq_true rfl, Nat.le_of_ble_eq_true rfl⟩) (wq_ppS hK (hP.sub (ws' := []) [] rfl) hE hS hA) rfl rfl hl.1 rfl (lv_room (Nat.le_of_ble_eq_true rfl)) dX7_falls_58 ⟨Nat.zero_le _, Nat.zero_le _⟩) hS hA (fun H locs b15 hk hS => ?_)
        replace hP := wq_kp hP hk
        clear hk
        cases hG
        exact W.iret hx hb hr (fun t ht hW => ⟨⟨_, (), rfl, ⟨rfl, trivial⟩, by rw [ht]; exact hP, hD⟩, hS.F ht⟩) hS.2.2 dX7_falls_61
      · replace hG := wq_t c9 hG
        refine lv_bipush (v := (-2)) hx hb dX7_falls_33 (by decide) ?_
        cases hG
        exact W.iret hx hb hr (fun t ht hW => ⟨⟨_, (), rfl, ⟨rfl, trivial⟩, by rw [ht]; exact hP, hD⟩, hS.F ht⟩) hS.2.2 dX7_falls_35
    · replace hG := wq_t c8 hG
      refine lv_iconst (v := (-1)) hx hb dX7_falls_17 (by decide) ?_
      cases hG
      exact W.iret hx hb hr (fun t ht hW => ⟨⟨_, (), rfl, ⟨rfl, trivial⟩, by rw [ht]; exact hP, hD⟩, hS.F ht⟩) hS.2.2 dX7_falls_18

def gX7_undo_L22 (m_past : Nat → Int32) (z_m_known : Int32) : Nat → Int32 → (Nat → Int32) → Option (Int32 × (Nat → Int32) × Int32)
  | 0, _, _ => none
  | n + 1, x1, z_m_s =>
    if 8 ≤ x1 then
    some (z_m_known, z_m_s, z_m_known)
    else
    wq_chk ((8 * z_m_known) + x1) 80 (wq_chk x1 8 (gX7_undo_L22 m_past z_m_known n (x1 + 1) (upd z_m_s (Int32.toNatClampNeg x1) (m_past (Int32.toNatClampNeg ((8 * z_m_known) + x1))))))
def gX7_undo (m_s : Nat → Int32) (m_past : Nat → Int32) (m_known : Int32) : Option (Int32 × (Nat → Int32) × Int32) :=
    if m_known = 0 then
    some ((-2), m_s, m_known)
    else
    gX7_undo_L22 m_past (m_known - 1) 1000 0 m_s
theorem hdV_X7_undo : yX7_undo.cls = RX7 ∧ yX7_undo.cls ≠ "java/lang/invoke/MethodHandle" ∧ yX7_undo.cls ≠ "java/lang/invoke/VarHandle" ∧ (parseMethodDescriptor yX7_undo.desc).map (fun d => d.parameters.length) = some 0 := by decide +kernel
set_option maxHeartbeats 4000000 in
set_option maxRecDepth 100000 in
theorem C_X7_undo (l : Launch) (dC : Nat → ClassId) (dI : Nat → Nat → Nat) (cI cJ cZ : ClassId) (qa : Nat → Nat) (sz : Nat) (m_trace : Int64) (m_text : Nat → Int32) (m_typed : Int32) (m_told : Nat → Int32) (m_draft : Nat → Int32) (m_s : Nat → Int32) (m_past : Nat → Int32) (m_known : Int32) (m_images : Nat → Int32) (m_kept : Nat → Int32) (m_notes : Nat → Int32) (m_noted : Int32) (m_at : Int32) (m_sort : Int32) (m_start : Int32) (m_value : Int32) (m_steps : Nat → Int32) (m_rows : Nat → Int32) (m_held : Nat → Int32) (r0 : Int32) (r_m_s : Nat → Int32) (r_m_known : Int32) (hG : gX7_undo m_s m_past m_known = some (r0, r_m_s, r_m_known)) : Met l yX7_undo wsX7_undo ({ frames := 0, cells := 0, slots := 0, locals := 0 } : Room) (va_Pc [.ref (qa 0)] (wq_pw (dC, dI) [(cI, .int), (cJ, .long), (cZ, .boolean)] (wcM qa cI cJ cZ m_trace m_text m_typed m_told m_draft m_s m_past m_known m_images m_kept m_notes m_noted m_at m_sort m_start m_value m_steps m_rows m_held) sz)) (wq_Wi (dC, dI) r0 wq_tr (wcM qa cI cJ cZ m_trace m_text m_typed m_told m_draft r_m_s m_past r_m_known m_images m_kept m_notes m_noted m_at m_sort m_start m_value m_steps m_rows m_held) (va_A (wcM qa cI cJ cZ m_trace m_text m_typed m_told m_draft m_s m_past m_known m_images m_kept m_notes m_noted m_at m_sort m_start m_value m_steps m_rows m_held) sz)) 0 0 (va_A (wcM qa cI cJ cZ m_trace m_text m_typed m_told m_draft m_s m_past m_known m_images m_kept m_notes m_noted m_at m_sort m_start m_value m_steps m_rows m_held) sz) := by
  refine Met.ofW (cc := cX7_undo) (maxL := 2) (ret := (some .int)) (by decide) rfl ?_
  intro p e s m args below meth c s₁ B hml hv
  obtain ⟨rfl, hsz, hP, hK, hD0, hE⟩ := hv
  have hx := B.exec
  have hb := B.bytes
  have hr := B.returns
  have hts := atoms_spec (ws := wsX7_undo) B.pre
  have hown : s.vm.findClass RX7 = some m.cls := findClass_of_methodNamed B.named
  have hlocks := B.notSynchronized
  subst hsz
  have hD := hD0.self (sz := s.heap.size)
  generalize hAe : va_A (wcM qa cI cJ cZ m_trace m_text m_typed m_told m_draft m_s m_past m_known m_images m_kept m_notes m_noted m_at m_sort m_start m_value m_steps m_rows m_held) s.heap.size = A at hD hE ⊢
  have hA : ∀ q : Nat, s.heap.size ≤ q → A q := fun q h => by rw [← hAe]; exact Or.inr h
  have hS : va_S A s.heap s.heap [] := va_S.rf
  have hinX7 : ∀ w ∈ u_ws RX7 TX7 19, w ∈ wsX7_undo := by decide +kernel
  have k1 := hts (.fieldLink RX7 95 "DoorMorningsModel" "known" "I") (by decide +kernel)
  have k2 := hts (.fieldLink RX7 19 "DoorMorningsModel" "s" "[I") (by decide +kernel)
  have k3 := hts (.fieldLink RX7 22 "DoorMorningsModel" "past" "[I") (by decide +kernel)
  have hl := lv_entry ([.ref (qa 0)]) (n := 2) (Nat.le_of_ble_eq_true rfl)
  rw [lg_entry_eq]
  generalize (lg_sl ([.ref (qa 0)]) ++ List.replicate (2 - (lg_sl ([.ref (qa 0)])).length) Slot.unset).toArray = ls at hl ⊢
  have hl : lv_has ls 2 [(0, .ref (qa 0))] := hl
  have hL22 : ∀ (z_m_known : Int32) (n : Nat) (x1 : Int32) (z_m_s : Nat → Int32) (H : Heap) (locs : List Loc) (ls : Array Slot), gX7_undo_L22 m_past z_m_known n x1 z_m_s = some (r0, r_m_s, r_m_known) → va_P (dC, dI) vwCl (wcM qa cI cJ cZ m_trace m_text m_typed m_told m_draft z_m_s m_past z_m_known m_images m_kept m_notes m_noted m_at m_sort m_start m_value m_steps m_rows m_held) H → va_D A (wcM qa cI cJ cZ m_trace m_text m_typed m_told m_draft z_m_s m_past z_m_known m_images m_kept m_notes m_noted m_at m_sort m_start m_value m_steps m_rows m_held) → va_S A s.heap H locs → lv_has ls 2 [(0, .ref (qa 0)), (1, .int x1)] → W p l e (headSpec wsX7_undo ({ frames := 0, cells := 0, slots := 0, locals := 0 } : Room)).room s m ([.ref (qa 0)] : List Value).toArray below meth c H locs 0 0 (MQ below (wq_Wi (dC, dI) r0 wq_tr (wcM qa cI cJ cZ m_trace m_text m_typed m_told m_draft r_m_s m_past r_m_known m_images m_kept m_notes m_noted m_at m_sort m_start m_value m_steps m_rows m_held) A) ([.ref (qa 0)] : List Value).toArray s 0 0 A) (F0 m 22 ls []) := by
    intro z_m_known n
    induction n with
    | zero =>
      intro x1 z_m_s H locs ls hG
      exact absurd (show (none : Option (Int32 × (Nat → Int32) × Int32)) = some (r0, r_m_s, r_m_known) from hG) (by intro h9; cases h9)
    | succ n ih22 =>
      intro x1 z_m_s H locs ls hG hP hD hS hl
      rw [gX7_undo_L22] at hG
      refine lv_iload_n hx hb dX7_undo_22 rfl (lv_at hl 1 rfl) ?_
      refine lv_bipush (v := 8) hx hb dX7_undo_23 (by decide) ?_
      refine lv_icmp_ge (tgt := 54) hx hb dX7_undo_25 (by decide) (fun c1 => ?_) (fun c1 => ?_)
      · replace hG := wq_t c1 hG
        refine lv_aload_n hx hb dX7_undo_54 rfl (lv_at hl 0 rfl) ?_
        refine va_get (D := (dC, dI)) (ci := 7) (v := .int z_m_known) (C := RX7) (T := TX7) (N := 19) hx hb hts hinX7 hown hK hP 0 rfl rfl 7 (by decide) k1 (fun _ h9 => h9) rfl dX7_undo_55 ?_
        cases hG
        exact W.iret hx hb hr (fun t ht hW => ⟨⟨_, (), rfl, ⟨rfl, trivial⟩, by rw [ht]; exact hP, hD⟩, hS.F ht⟩) hS.2.2 dX7_undo_58
      · replace hG := wq_f c1 hG
        refine lv_aload_n hx hb dX7_undo_28 rfl (lv_at hl 0 rfl) ?_
        refine va_get (D := (dC, dI)) (ci := 7) (v := .ref (qa 4)) (C := RX7) (T := TX7) (N := 19) hx hb hts hinX7 hown hK hP 0 rfl rfl 5 (by decide) k2 (fun _ h9 => h9) rfl dX7_undo_29 ?_
        refine lv_iload_n hx hb dX7_undo_32 rfl (lv_at hl 1 rfl) ?_
        refine lv_aload_n hx hb dX7_undo_33 rfl (lv_at hl 0 rfl) ?_
        refine va_get (D := (dC, dI)) (ci := 7) (v := .ref (qa 5)) (C := RX7) (T := TX7) (N := 19) hx hb hts hinX7 hown hK hP 0 rfl rfl 6 (by decide) k3 (fun _ h9 => h9) rfl dX7_undo_34 ?_
        refine lv_bipush (v := 8) hx hb dX7_undo_37 (by decide) ?_
        refine lv_aload_n hx hb dX7_undo_39 rfl (lv_at hl 0 rfl) ?_
        refine va_get (D := (dC, dI)) (ci := 7) (v := .int z_m_known) (C := RX7) (T := TX7) (N := 19) hx hb hts hinX7 hown hK hP 0 rfl rfl 7 (by decide) k1 (fun _ h9 => h9) rfl dX7_undo_40 ?_
        refine lv_imul hx hb dX7_undo_43 ?_
        refine lv_iload_n hx hb dX7_undo_44 rfl (lv_at hl 1 rfl) ?_
        refine lv_iadd hx hb dX7_undo_45 ?_
        obtain ⟨h2, hG⟩ := wq_chk_s hG
        refine wq_iald (D := (dC, dI)) hx hb hK hP 5 0 rfl rfl h2 (Int32.toNatClampNeg ((8 * z_m_known) + x1)) rfl dX7_undo_46 ?_
        obtain ⟨h3, hG⟩ := wq_chk_s hG
        refine wq_iast (D := (dC, dI)) hx hb hK hP hD hS 4 0 rfl rfl h3 (Int32.toNatClampNeg x1) rfl (wcM qa cI cJ cZ m_trace m_text m_typed m_told m_draft (upd z_m_s (Int32.toNatClampNeg x1) (m_past (Int32.toNatClampNeg ((8 * z_m_known) + x1)))) m_past z_m_known m_images m_kept m_notes m_noted m_at m_sort m_start m_value m_steps m_rows m_held) rfl dX7_undo_47 (fun H locs hP hD hS => ?_)
        refine lv_iinc (v := (x1 + 1)) (lv' := [(1, .int (x1 + 1)), (0, .ref (qa 0))]) hx hb dX7_undo_48 hl (k := 1) rfl rfl (by decide) rfl (fun ls hl => ?_)
        refine lv_goto (tgt := 22) hx hb dX7_undo_51 (by decide) ?_
        exact ih22 (x1 + 1) (upd z_m_s (Int32.toNatClampNeg x1) (m_past (Int32.toNatClampNeg ((8 * z_m_known) + x1)))) _ _ _ hG hP hD hS (lv_sub hl [1, 0] rfl)
  unfold gX7_undo at hG
  refine lv_aload_n hx hb dX7_undo_0 rfl (lv_at hl 0 rfl) ?_
  refine va_get (D := (dC, dI)) (ci := 7) (v := .int m_known) (C := RX7) (T := TX7) (N := 19) hx hb hts hinX7 hown hK hP 0 rfl rfl 7 (by decide) k1 (fun _ h9 => h9) rfl dX7_undo_1 ?_
  refine lv_if_ne (tgt := 10) hx hb dX7_undo_4 (by decide) (fun c4 => ?_) (fun c4 => ?_)
  · replace hG := wq_f c4 hG
    refine lv_aload_n hx hb dX7_undo_10 rfl (lv_at hl 0 rfl) ?_
    refine lv_dup hx hb dX7_undo_11 rfl ?_
    refine va_get (D := (dC, dI)) (ci := 7) (v := .int m_known) (C := RX7) (T := TX7) (N := 19) hx hb hts hinX7 hown hK hP 0 rfl rfl 7 (by decide) k1 (fun _ h9 => h9) rfl dX7_undo_12 ?_
    refine lv_iconst (v := 1) hx hb dX7_undo_15 (by decide) ?_
    refine lv_isub hx hb dX7_undo_16 ?_
    refine va_put (D := (dC, dI)) (ci := 7) (v := .int (m_known - 1)) (ty := tyX7 7) (C := RX7) (T := TX7) (N := 19) hx hb hts hinX7 tyX7 tyX7_ok nmX7 hown hK hP hD hS 0 rfl rfl 7 (by decide) k1 (fun _ h9 => h9) rfl (tyX7_ok 7 (by decide)) rfl rfl (Nat.le_of_ble_eq_true rfl) dX7_undo_17 (fun H locs hP hD hS => ?_)
    replace hP : va_P (dC, dI) vwCl (wcM qa cI cJ cZ m_trace m_text m_typed m_told m_draft m_s m_past (m_known - 1) m_images m_kept m_notes m_noted m_at m_sort m_start m_value m_steps m_rows m_held) H := hP
    replace hD : va_D A (wcM qa cI cJ cZ m_trace m_text m_typed m_told m_draft m_s m_past (m_known - 1) m_images m_kept m_notes m_noted m_at m_sort m_start m_value m_steps m_rows m_held) := hD
    refine lv_iconst (v := 0) hx hb dX7_undo_20 (by decide) ?_
    refine lv_istore_n (lv' := [(1, .int 0), (0, .ref (qa 0))]) hx hb dX7_undo_21 rfl hl (by decide) rfl (fun ls hl => ?_)
    exact hL22 (m_known - 1) 1000 0 m_s _ _ _ hG hP hD hS (lv_sub hl [1, 0] rfl)
  · replace hG := wq_t c4 hG
    refine lv_bipush (v := (-2)) hx hb dX7_undo_7 (by decide) ?_
    cases hG
    exact W.iret hx hb hr (fun t ht hW => ⟨⟨_, (), rfl, ⟨rfl, trivial⟩, by rw [ht]; exact hP, hD⟩, hS.F ht⟩) hS.2.2 dX7_undo_9

def gX7_would (m_told : Nat → Int32) (m_s : Nat → Int32) (a1 : Int32) (a2 : Int32) (a3 : Int32) : Option (Int32) :=
    wq_b1 (gX7_isMorning m_told a1 a2 a3) (fun v2 =>
    if v2 = 0 then
    some (-1)
    else
    wq_b1 (gX7_criesNow m_told m_s a1 a2 a3) (fun v6 =>
    some v6))
theorem hdV_X7_would : yX7_would.cls = RX7 ∧ yX7_would.cls ≠ "java/lang/invoke/MethodHandle" ∧ yX7_would.cls ≠ "java/lang/invoke/VarHandle" ∧ (parseMethodDescriptor yX7_would.desc).map (fun d => d.parameters.length) = some 3 := by decide +kernel
set_option maxHeartbeats 4000000 in
set_option maxRecDepth 100000 in
theorem C_X7_would (l : Launch) (dC : Nat → ClassId) (dI : Nat → Nat → Nat) (cI cJ cZ : ClassId) (qa : Nat → Nat) (sz : Nat) (m_trace : Int64) (m_text : Nat → Int32) (m_typed : Int32) (m_told : Nat → Int32) (m_draft : Nat → Int32) (m_s : Nat → Int32) (m_past : Nat → Int32) (m_known : Int32) (m_images : Nat → Int32) (m_kept : Nat → Int32) (m_notes : Nat → Int32) (m_noted : Int32) (m_at : Int32) (m_sort : Int32) (m_start : Int32) (m_value : Int32) (m_steps : Nat → Int32) (m_rows : Nat → Int32) (m_held : Nat → Int32) (a1 : Int32) (a2 : Int32) (a3 : Int32) (r0 : Int32) (hG : gX7_would m_told m_s a1 a2 a3 = some r0) : Met l yX7_would wsX7_would ({ frames := 3, cells := 0, slots := 0, locals := 70 } : Room) (va_Pc [.ref (qa 0), .int a1, .int a2, .int a3] (wq_pp (dC, dI) [(cI, .int), (cJ, .long), (cZ, .boolean)] (wcM qa cI cJ cZ m_trace m_text m_typed m_told m_draft m_s m_past m_known m_images m_kept m_notes m_noted m_at m_sort m_start m_value m_steps m_rows m_held) sz)) (wq_Qi r0 wq_tr (va_A [] sz)) 0 0 (va_A [] sz) := by
  refine Met.ofW (cc := cX7_would) (maxL := 4) (ret := (some .int)) (by decide) rfl ?_
  intro p e s m args below meth c s₁ B hml hv
  obtain ⟨rfl, hsz, hP, hK, hE⟩ := hv
  have hx := B.exec
  have hb := B.bytes
  have hr := B.returns
  have hts := atoms_spec (ws := wsX7_would) B.pre
  have hown : s.vm.findClass RX7 = some m.cls := findClass_of_methodNamed B.named
  have hlocks := B.notSynchronized
  subst hsz
  generalize hAe : va_A [] s.heap.size = A at hE ⊢
  have hA : ∀ q : Nat, s.heap.size ≤ q → A q := fun q h => by rw [← hAe]; exact Or.inr h
  have hS : va_S A s.heap s.heap [] := va_S.rf
  have hl := lv_entry ([.ref (qa 0), .int a1, .int a2, .int a3]) (n := 4) (Nat.le_of_ble_eq_true rfl)
  rw [lg_entry_eq]
  generalize (lg_sl ([.ref (qa 0), .int a1, .int a2, .int a3]) ++ List.replicate (4 - (lg_sl ([.ref (qa 0), .int a1, .int a2, .int a3])).length) Slot.unset).toArray = ls at hl ⊢
  have hl : lv_has ls 4 [(0, .ref (qa 0)), (1, .int a1), (2, .int a2), (3, .int a3)] := hl
  unfold gX7_would at hG
  refine lv_aload_n hx hb dX7_would_0 rfl (lv_at hl 0 rfl) ?_
  refine lv_iload_n hx hb dX7_would_1 rfl (lv_at hl 1 rfl) ?_
  refine lv_iload_n hx hb dX7_would_2 rfl (lv_at hl 2 rfl) ?_
  refine lv_iload_n hx hb dX7_would_3 rfl (lv_at hl 3 rfl) ?_
  obtain ⟨v2, g1, hG⟩ := wq_b1_s hG
  refine wq_ci (v := v2) (B := wq_Z1) (va_runV (As := [.int a1, .int a2, .int a3]) (rest := []) ⟨hx, hb, hml, hown, hts⟩ (C_X7_isMorning l dC dI cI cJ cZ qa s.heap.size m_trace m_text m_typed m_told m_draft m_s m_past m_known m_images m_kept m_notes m_noted m_at m_sort m_start m_value m_steps m_rows m_held a1 a2 a3 v2 g1) (cwV 3 hts gX7_would_X7_isMorning rfl rfl rfl hdV_X7_isMorning ⟨Nat.le_of_ble_eq_true rfl, Nat.le_of_ble_eq_true rfl⟩) (wq_ppV hK hP hE hS hA (ci := 7) (q0 := 0) rfl rfl) rfl rfl hl.1 rfl (lv_room (Nat.le_of_ble_eq_true rfl)) dX7_would_4 ⟨Nat.zero_le _, Nat.zero_le _⟩) hS hA (fun H locs b3 hk hS => ?_)
  replace hP := wq_kp hP hk
  clear hk
  refine lv_if_eq (tgt := 20) hx hb dX7_would_7 (by decide) (fun c4 => ?_) (fun c4 => ?_)
  · replace hG := wq_t c4 hG
    refine lv_iconst (v := (-1)) hx hb dX7_would_20 (by decide) ?_
    exact W.iret (v := (-1)) hx hb hr (fun t ht hW => ⟨⟨(-1), (), rfl, ⟨Option.some.inj hG, trivial⟩, trivial⟩, hS.F ht⟩) hS.2.2 dX7_would_21
  · replace hG := wq_f c4 hG
    refine lv_aload_n hx hb dX7_would_10 rfl (lv_at hl 0 rfl) ?_
    refine lv_iload_n hx hb dX7_would_11 rfl (lv_at hl 1 rfl) ?_
    refine lv_iload_n hx hb dX7_would_12 rfl (lv_at hl 2 rfl) ?_
    refine lv_iload_n hx hb dX7_would_13 rfl (lv_at hl 3 rfl) ?_
    obtain ⟨v6, g5, hG⟩ := wq_b1_s hG
    refine wq_ci (v := v6) (B := wq_tr) (va_runV (As := [.int a1, .int a2, .int a3]) (rest := []) ⟨hx, hb, hml, hown, hts⟩ (C_X7_criesNow l dC dI cI cJ cZ qa H.size m_trace m_text m_typed m_told m_draft m_s m_past m_known m_images m_kept m_notes m_noted m_at m_sort m_start m_value m_steps m_rows m_held a1 a2 a3 v6 g5) (cwV 3 hts gX7_would_X7_criesNow rfl rfl rfl hdV_X7_criesNow ⟨Nat.le_of_ble_eq_true rfl, Nat.le_of_ble_eq_true rfl⟩) (wq_ppV hK hP hE hS hA (ci := 7) (q0 := 0) rfl rfl) rfl rfl hl.1 rfl (lv_room (Nat.le_of_ble_eq_true rfl)) dX7_would_14 ⟨Nat.zero_le _, Nat.zero_le _⟩) hS hA (fun H locs b7 hk hS => ?_)
    replace hP := wq_kp hP hk
    clear hk
    refine lv_goto (tgt := 21) hx hb dX7_would_17 (by decide) ?_
    exact W.iret (v := v6) hx hb hr (fun t ht hW => ⟨⟨v6, (), rfl, ⟨Option.some.inj hG, trivial⟩, trivial⟩, hS.F ht⟩) hS.2.2 dX7_would_21

def gX7_farthest (m_told : Nat → Int32) (m_s : Nat → Int32) (a1 : Int32) (a2 : Int32) : Option (Int32) :=
    wq_b1 (gX7_isGoodbye m_told a1) (fun v2 =>
    if v2 = 0 then
    some (-1)
    else
    wq_b1 (gX7_isWoman m_told a2) (fun v6 =>
    if v6 = 0 then
    some (-1)
    else
    wq_chk (4 + a2) 8 (wq_b1 (gX7_calmTo m_told a1 (m_s 1) (m_s (Int32.toNatClampNeg (4 + a2)))) (fun v11 =>
    if v11 = 0 then
    some (-9)
    else
    some v11))))
theorem hdV_X7_farthest : yX7_farthest.cls = RX7 ∧ yX7_farthest.cls ≠ "java/lang/invoke/MethodHandle" ∧ yX7_farthest.cls ≠ "java/lang/invoke/VarHandle" ∧ (parseMethodDescriptor yX7_farthest.desc).map (fun d => d.parameters.length) = some 2 := by decide +kernel
set_option maxHeartbeats 4000000 in
set_option maxRecDepth 100000 in
theorem C_X7_farthest (l : Launch) (dC : Nat → ClassId) (dI : Nat → Nat → Nat) (cI cJ cZ : ClassId) (qa : Nat → Nat) (sz : Nat) (m_trace : Int64) (m_text : Nat → Int32) (m_typed : Int32) (m_told : Nat → Int32) (m_draft : Nat → Int32) (m_s : Nat → Int32) (m_past : Nat → Int32) (m_known : Int32) (m_images : Nat → Int32) (m_kept : Nat → Int32) (m_notes : Nat → Int32) (m_noted : Int32) (m_at : Int32) (m_sort : Int32) (m_start : Int32) (m_value : Int32) (m_steps : Nat → Int32) (m_rows : Nat → Int32) (m_held : Nat → Int32) (a1 : Int32) (a2 : Int32) (r0 : Int32) (hG : gX7_farthest m_told m_s a1 a2 = some r0) : Met l yX7_farthest wsX7_farthest ({ frames := 2, cells := 0, slots := 0, locals := 43 } : Room) (va_Pc [.ref (qa 0), .int a1, .int a2] (wq_pp (dC, dI) [(cI, .int), (cJ, .long), (cZ, .boolean)] (wcM qa cI cJ cZ m_trace m_text m_typed m_told m_draft m_s m_past m_known m_images m_kept m_notes m_noted m_at m_sort m_start m_value m_steps m_rows m_held) sz)) (wq_Qi r0 wq_tr (va_A [] sz)) 0 0 (va_A [] sz) := by
  refine Met.ofW (cc := cX7_farthest) (maxL := 4) (ret := (some .int)) (by decide) rfl ?_
  intro p e s m args below meth c s₁ B hml hv
  obtain ⟨rfl, hsz, hP, hK, hE⟩ := hv
  have hx := B.exec
  have hb := B.bytes
  have hr := B.returns
  have hts := atoms_spec (ws := wsX7_farthest) B.pre
  have hown : s.vm.findClass RX7 = some m.cls := findClass_of_methodNamed B.named
  have hlocks := B.notSynchronized
  subst hsz
  generalize hAe : va_A [] s.heap.size = A at hE ⊢
  have hA : ∀ q : Nat, s.heap.size ≤ q → A q := fun q h => by rw [← hAe]; exact Or.inr h
  have hS : va_S A s.heap s.heap [] := va_S.rf
  have hinX7 : ∀ w ∈ u_ws RX7 TX7 19, w ∈ wsX7_farthest := by decide +kernel
  have k1 := hts (.fieldLink RX7 19 "DoorMorningsModel" "s" "[I") (by decide +kernel)
  have hl := lv_entry ([.ref (qa 0), .int a1, .int a2]) (n := 4) (Nat.le_of_ble_eq_true rfl)
  rw [lg_entry_eq]
  generalize (lg_sl ([.ref (qa 0), .int a1, .int a2]) ++ List.replicate (4 - (lg_sl ([.ref (qa 0), .int a1, .int a2])).length) Slot.unset).toArray = ls at hl ⊢
  have hl : lv_has ls 4 [(0, .ref (qa 0)), (1, .int a1), (2, .int a2)] := hl
  unfold gX7_farthest at hG
  refine lv_aload_n hx hb dX7_farthest_0 rfl (lv_at hl 0 rfl) ?_
  refine lv_iload_n hx hb dX7_farthest_1 rfl (lv_at hl 1 rfl) ?_
  obtain ⟨v2, g1, hG⟩ := wq_b1_s hG
  refine wq_ci (v := v2) (B := wq_Z1) (va_runV (As := [.int a1]) (rest := []) ⟨hx, hb, hml, hown, hts⟩ (C_X7_isGoodbye l dC dI cI cJ cZ qa s.heap.size m_trace m_text m_typed m_told m_draft m_s m_past m_known m_images m_kept m_notes m_noted m_at m_sort m_start m_value m_steps m_rows m_held a1 v2 g1) (cwV 1 hts gX7_farthest_X7_isGoodbye rfl rfl rfl hdV_X7_isGoodbye ⟨Nat.le_of_ble_eq_true rfl, Nat.le_of_ble_eq_true rfl⟩) (wq_ppV hK hP hE hS hA (ci := 7) (q0 := 0) rfl rfl) rfl rfl hl.1 rfl (lv_room (Nat.le_of_ble_eq_true rfl)) dX7_farthest_2 ⟨Nat.zero_le _, Nat.zero_le _⟩) hS hA (fun H locs b3 hk hS => ?_)
  replace hP := wq_kp hP hk
  clear hk
  refine lv_if_eq (tgt := 16) hx hb dX7_farthest_5 (by decide) (fun c4 => ?_) (fun c4 => ?_)
  · replace hG := wq_t c4 hG
    refine lv_iconst (v := (-1)) hx hb dX7_farthest_16 (by decide) ?_
    exact W.iret (v := (-1)) hx hb hr (fun t ht hW => ⟨⟨(-1), (), rfl, ⟨Option.some.inj hG, trivial⟩, trivial⟩, hS.F ht⟩) hS.2.2 dX7_farthest_17
  · replace hG := wq_f c4 hG
    refine lv_aload_n hx hb dX7_farthest_8 rfl (lv_at hl 0 rfl) ?_
    refine lv_iload_n hx hb dX7_farthest_9 rfl (lv_at hl 2 rfl) ?_
    obtain ⟨v6, g5, hG⟩ := wq_b1_s hG
    refine wq_ci (v := v6) (B := wq_Z1) (va_runV (As := [.int a2]) (rest := []) ⟨hx, hb, hml, hown, hts⟩ (C_X7_isWoman l dC dI cI cJ cZ qa H.size m_trace m_text m_typed m_told m_draft m_s m_past m_known m_images m_kept m_notes m_noted m_at m_sort m_start m_value m_steps m_rows m_held a2 v6 g5) (cwV 1 hts gX7_farthest_X7_isWoman rfl rfl rfl hdV_X7_isWoman ⟨Nat.le_of_ble_eq_true rfl, Nat.le_of_ble_eq_true rfl⟩) (wq_ppV hK hP hE hS hA (ci := 7) (q0 := 0) rfl rfl) rfl rfl hl.1 rfl (lv_room (Nat.le_of_ble_eq_true rfl)) dX7_farthest_10 ⟨Nat.zero_le _, Nat.zero_le _⟩) hS hA (fun H locs b7 hk hS => ?_)
    replace hP := wq_kp hP hk
    clear hk
    refine lv_if_ne (tgt := 18) hx hb dX7_farthest_13 (by decide) (fun c8 => ?_) (fun c8 => ?_)
    · replace hG := wq_f c8 hG
      refine lv_aload_n hx hb dX7_farthest_18 rfl (lv_at hl 0 rfl) ?_
      refine lv_iload_n hx hb dX7_farthest_19 rfl (lv_at hl 1 rfl) ?_
      refine lv_aload_n hx hb dX7_farthest_20 rfl (lv_at hl 0 rfl) ?_
      refine va_get (D := (dC, dI)) (ci := 7) (v := .ref (qa 4)) (C := RX7) (T := TX7) (N := 19) hx hb hts hinX7 hown hK hP 0 rfl rfl 5 (by decide) k1 (fun _ h9 => h9) rfl dX7_farthest_21 ?_
      refine lv_iconst (v := 1) hx hb dX7_farthest_24 (by decide) ?_
      refine wq_iald (D := (dC, dI)) hx hb hK hP 4 0 rfl rfl (wq_lit (by decide)) 1 rfl dX7_farthest_25 ?_
      refine lv_aload_n hx hb dX7_farthest_26 rfl (lv_at hl 0 rfl) ?_
      refine va_get (D := (dC, dI)) (ci := 7) (v := .ref (qa 4)) (C := RX7) (T := TX7) (N := 19) hx hb hts hinX7 hown hK hP 0 rfl rfl 5 (by decide) k1 (fun _ h9 => h9) rfl dX7_farthest_27 ?_
      refine lv_iconst (v := 4) hx hb dX7_farthest_30 (by decide) ?_
      refine lv_iload_n hx hb dX7_farthest_31 rfl (lv_at hl 2 rfl) ?_
      refine lv_iadd hx hb dX7_farthest_32 ?_
      obtain ⟨h9, hG⟩ := wq_chk_s hG
      refine wq_iald (D := (dC, dI)) hx hb hK hP 4 0 rfl rfl h9 (Int32.toNatClampNeg (4 + a2)) rfl dX7_farthest_33 ?_
      obtain ⟨v11, g10, hG⟩ := wq_b1_s hG
      refine wq_ci (v := v11) (B := wq_tr) (va_runV (As := [.int a1, .int (m_s 1), .int (m_s (Int32.toNatClampNeg (4 + a2)))]) (rest := []) ⟨hx, hb, hml, hown, hts⟩ (C_X7_calmTo l dC dI cI cJ cZ qa H.size m_trace m_text m_typed m_told m_draft m_s m_past m_known m_images m_kept m_notes m_noted m_at m_sort m_start m_value m_steps m_rows m_held a1 (m_s 1) (m_s (Int32.toNatClampNeg (4 + a2))) v11 g10) (cwV 3 hts gX7_farthest_X7_calmTo rfl rfl rfl hdV_X7_calmTo ⟨Nat.le_of_ble_eq_true rfl, Nat.le_of_ble_eq_true rfl⟩) (wq_ppV hK hP hE hS hA (ci := 7) (q0 := 0) rfl rfl) rfl rfl hl.1 rfl (lv_room (Nat.le_of_ble_eq_true rfl)) dX7_farthest_34 ⟨Nat.zero_le _, Nat.zero_le _⟩) hS hA (fun H locs b12 hk hS => ?_)
      replace hP := wq_kp hP hk
      clear hk
      refine lv_istore_n (lv' := [(3, .int v11), (0, .ref (qa 0)), (1, .int a1), (2, .int a2)]) hx hb dX7_farthest_37 rfl hl (by decide) rfl (fun ls hl => ?_)
      refine lv_iload_n hx hb dX7_farthest_38 rfl (lv_at hl 0 rfl) ?_
      refine lv_if_ne (tgt := 47) hx hb dX7_farthest_39 (by decide) (fun c13 => ?_) (fun c13 => ?_)
      · replace hG := wq_f c13 hG
        refine lv_iload_n hx hb dX7_farthest_47 rfl (lv_at hl 0 rfl) ?_
        exact W.iret (v := v11) hx hb hr (fun t ht hW => ⟨⟨v11, (), rfl, ⟨Option.some.inj hG, trivial⟩, trivial⟩, hS.F ht⟩) hS.2.2 dX7_farthest_48
      · replace hG := wq_t c13 hG
        refine lv_bipush (v := (-9)) hx hb dX7_farthest_42 (by decide) ?_
        refine lv_goto (tgt := 48) hx hb dX7_farthest_44 (by decide) ?_
        exact W.iret (v := (-9)) hx hb hr (fun t ht hW => ⟨⟨(-9), (), rfl, ⟨Option.some.inj hG, trivial⟩, trivial⟩, hS.F ht⟩) hS.2.2 dX7_farthest_48
    · replace hG := wq_t c8 hG
      refine lv_iconst (v := (-1)) hx hb dX7_farthest_16 (by decide) ?_
      exact W.iret (v := (-1)) hx hb hr (fun t ht hW => ⟨⟨(-1), (), rfl, ⟨Option.some.inj hG, trivial⟩, trivial⟩, hS.F ht⟩) hS.2.2 dX7_farthest_17

def gX7_place (a0 : Int32) (a1 : Int32) : Option (Int32) :=
    wq_b1 (gX7_bound a0 0 24) (fun v2 =>
    wq_b1 (gX7_bound a1 0 9) (fun v5 =>
    some ((10 * v2) + v5)))
theorem hdS_X7_place : yX7_place.cls ≠ "java/lang/invoke/MethodHandle" ∧ yX7_place.cls ≠ "java/lang/invoke/VarHandle" ∧ (parseMethodDescriptor yX7_place.desc).map (fun d => d.parameters.length) = some 2 := by decide +kernel
set_option maxHeartbeats 4000000 in
set_option maxRecDepth 100000 in
theorem C_X7_place (l : Launch) (dC : Nat → ClassId) (dI : Nat → Nat → Nat) (cI cJ cZ : ClassId) (qa : Nat → Nat) (sz : Nat) (a0 : Int32) (a1 : Int32) (r0 : Int32) (hG : gX7_place a0 a1 = some r0) : Met l yX7_place wsX7_place ({ frames := 1, cells := 0, slots := 0, locals := 22 } : Room) (va_Pc [.int a0, .int a1] (wq_pp (dC, dI) [(cI, .int), (cJ, .long), (cZ, .boolean)] ([]) sz)) (wq_Qi r0 wq_tr (va_A [] sz)) 0 0 (va_A [] sz) := by
  refine Met.ofW (cc := cX7_place) (maxL := 2) (ret := (some .int)) (by decide) rfl ?_
  intro p e s m args below meth c s₁ B hml hv
  obtain ⟨rfl, hsz, hP, hK, hE⟩ := hv
  have hx := B.exec
  have hb := B.bytes
  have hr := B.returns
  have hts := atoms_spec (ws := wsX7_place) B.pre
  have hown : s.vm.findClass RX7 = some m.cls := findClass_of_methodNamed B.named
  have hlocks := B.notSynchronized
  subst hsz
  generalize hAe : va_A [] s.heap.size = A at hE ⊢
  have hA : ∀ q : Nat, s.heap.size ≤ q → A q := fun q h => by rw [← hAe]; exact Or.inr h
  have hS : va_S A s.heap s.heap [] := va_S.rf
  have hl := lv_entry ([.int a0, .int a1]) (n := 2) (Nat.le_of_ble_eq_true rfl)
  rw [lg_entry_eq]
  generalize (lg_sl ([.int a0, .int a1]) ++ List.replicate (2 - (lg_sl ([.int a0, .int a1])).length) Slot.unset).toArray = ls at hl ⊢
  have hl : lv_has ls 2 [(0, .int a0), (1, .int a1)] := hl
  unfold gX7_place at hG
  refine lv_bipush (v := 10) hx hb dX7_place_0 (by decide) ?_
  refine lv_iload_n hx hb dX7_place_2 rfl (lv_at hl 0 rfl) ?_
  refine lv_iconst (v := 0) hx hb dX7_place_3 (by decide) ?_
  refine lv_bipush (v := 24) hx hb dX7_place_4 (by decide) ?_
  obtain ⟨v2, g1, hG⟩ := wq_b1_s hG
  refine wq_ci (v := v2) (B := wq_tr) (va_runS (As := [.int a0, .int 0, .int 24]) (rest := [.int 10]) ⟨hx, hb, hml, hown, hts⟩ (C_X7_bound l dC dI cI cJ cZ qa s.heap.size  a0 0 24 v2 g1) (va_cwS 3 hts gX7_place_X7_bound rfl rfl rfl hdS_X7_bound ⟨Nat.le_of_ble_eq_true rfl, Nat.le_of_ble_eq_true rfl⟩) (wq_ppS hK (hP.sub (ws' := []) [] rfl) hE hS hA) rfl rfl hl.1 rfl (lv_room (Nat.le_of_ble_eq_true rfl)) dX7_place_6 ⟨Nat.zero_le _, Nat.zero_le _⟩) hS hA (fun H locs b3 hk hS => ?_)
  replace hP := wq_kp hP hk
  clear hk
  refine lv_imul hx hb dX7_place_9 ?_
  refine lv_iload_n hx hb dX7_place_10 rfl (lv_at hl 1 rfl) ?_
  refine lv_iconst (v := 0) hx hb dX7_place_11 (by decide) ?_
  refine lv_bipush (v := 9) hx hb dX7_place_12 (by decide) ?_
  obtain ⟨v5, g4, hG⟩ := wq_b1_s hG
  refine wq_ci (v := v5) (B := wq_tr) (va_runS (As := [.int a1, .int 0, .int 9]) (rest := [.int (10 * v2)]) ⟨hx, hb, hml, hown, hts⟩ (C_X7_bound l dC dI cI cJ cZ qa H.size  a1 0 9 v5 g4) (va_cwS 3 hts gX7_place_X7_bound rfl rfl rfl hdS_X7_bound ⟨Nat.le_of_ble_eq_true rfl, Nat.le_of_ble_eq_true rfl⟩) (wq_ppS hK (hP.sub (ws' := []) [] rfl) hE hS hA) rfl rfl hl.1 rfl (lv_room (Nat.le_of_ble_eq_true rfl)) dX7_place_14 ⟨Nat.zero_le _, Nat.zero_le _⟩) hS hA (fun H locs b6 hk hS => ?_)
  replace hP := wq_kp hP hk
  clear hk
  refine lv_iadd hx hb dX7_place_17 ?_
  exact W.iret (v := ((10 * v2) + v5)) hx hb hr (fun t ht hW => ⟨⟨((10 * v2) + v5), (), rfl, ⟨Option.some.inj hG, trivial⟩, trivial⟩, hS.F ht⟩) hS.2.2 dX7_place_18

def gX7_calmly (m_told : Nat → Int32) (a1 : Int32) (a2 : Int32) (a3 : Int32) : Option (Int32) :=
    wq_chk (13 + a1) 22 (wq_b1 (gX7_place (a2 + (m_told (Int32.toNatClampNeg (13 + a1)))) (a3 + 1)) (fun v3 =>
    some v3))
theorem hdV_X7_calmly : yX7_calmly.cls = RX7 ∧ yX7_calmly.cls ≠ "java/lang/invoke/MethodHandle" ∧ yX7_calmly.cls ≠ "java/lang/invoke/VarHandle" ∧ (parseMethodDescriptor yX7_calmly.desc).map (fun d => d.parameters.length) = some 3 := by decide +kernel
set_option maxHeartbeats 4000000 in
set_option maxRecDepth 100000 in
theorem C_X7_calmly (l : Launch) (dC : Nat → ClassId) (dI : Nat → Nat → Nat) (cI cJ cZ : ClassId) (qa : Nat → Nat) (sz : Nat) (m_trace : Int64) (m_text : Nat → Int32) (m_typed : Int32) (m_told : Nat → Int32) (m_draft : Nat → Int32) (m_s : Nat → Int32) (m_past : Nat → Int32) (m_known : Int32) (m_images : Nat → Int32) (m_kept : Nat → Int32) (m_notes : Nat → Int32) (m_noted : Int32) (m_at : Int32) (m_sort : Int32) (m_start : Int32) (m_value : Int32) (m_steps : Nat → Int32) (m_rows : Nat → Int32) (m_held : Nat → Int32) (a1 : Int32) (a2 : Int32) (a3 : Int32) (r0 : Int32) (hG : gX7_calmly m_told a1 a2 a3 = some r0) : Met l yX7_calmly wsX7_calmly ({ frames := 2, cells := 0, slots := 0, locals := 43 } : Room) (va_Pc [.ref (qa 0), .int a1, .int a2, .int a3] (wq_pp (dC, dI) [(cI, .int), (cJ, .long), (cZ, .boolean)] (wcM qa cI cJ cZ m_trace m_text m_typed m_told m_draft m_s m_past m_known m_images m_kept m_notes m_noted m_at m_sort m_start m_value m_steps m_rows m_held) sz)) (wq_Qi r0 wq_tr (va_A [] sz)) 0 0 (va_A [] sz) := by
  refine Met.ofW (cc := cX7_calmly) (maxL := 4) (ret := (some .int)) (by decide) rfl ?_
  intro p e s m args below meth c s₁ B hml hv
  obtain ⟨rfl, hsz, hP, hK, hE⟩ := hv
  have hx := B.exec
  have hb := B.bytes
  have hr := B.returns
  have hts := atoms_spec (ws := wsX7_calmly) B.pre
  have hown : s.vm.findClass RX7 = some m.cls := findClass_of_methodNamed B.named
  have hlocks := B.notSynchronized
  subst hsz
  generalize hAe : va_A [] s.heap.size = A at hE ⊢
  have hA : ∀ q : Nat, s.heap.size ≤ q → A q := fun q h => by rw [← hAe]; exact Or.inr h
  have hS : va_S A s.heap s.heap [] := va_S.rf
  have hinX7 : ∀ w ∈ u_ws RX7 TX7 19, w ∈ wsX7_calmly := by decide +kernel
  have k1 := hts (.fieldLink RX7 13 "DoorMorningsModel" "told" "[I") (by decide +kernel)
  have hl := lv_entry ([.ref (qa 0), .int a1, .int a2, .int a3]) (n := 4) (Nat.le_of_ble_eq_true rfl)
  rw [lg_entry_eq]
  generalize (lg_sl ([.ref (qa 0), .int a1, .int a2, .int a3]) ++ List.replicate (4 - (lg_sl ([.ref (qa 0), .int a1, .int a2, .int a3])).length) Slot.unset).toArray = ls at hl ⊢
  have hl : lv_has ls 4 [(0, .ref (qa 0)), (1, .int a1), (2, .int a2), (3, .int a3)] := hl
  unfold gX7_calmly at hG
  refine lv_iload_n hx hb dX7_calmly_0 rfl (lv_at hl 2 rfl) ?_
  refine lv_aload_n hx hb dX7_calmly_1 rfl (lv_at hl 0 rfl) ?_
  refine va_get (D := (dC, dI)) (ci := 7) (v := .ref (qa 2)) (C := RX7) (T := TX7) (N := 19) hx hb hts hinX7 hown hK hP 0 rfl rfl 3 (by decide) k1 (fun _ h9 => h9) rfl dX7_calmly_2 ?_
  refine lv_bipush (v := 13) hx hb dX7_calmly_5 (by decide) ?_
  refine lv_iload_n hx hb dX7_calmly_7 rfl (lv_at hl 1 rfl) ?_
  refine lv_iadd hx hb dX7_calmly_8 ?_
  obtain ⟨h1, hG⟩ := wq_chk_s hG
  refine wq_iald (D := (dC, dI)) hx hb hK hP 2 0 rfl rfl h1 (Int32.toNatClampNeg (13 + a1)) rfl dX7_calmly_9 ?_
  refine lv_iadd hx hb dX7_calmly_10 ?_
  refine lv_iload_n hx hb dX7_calmly_11 rfl (lv_at hl 3 rfl) ?_
  refine lv_iconst (v := 1) hx hb dX7_calmly_12 (by decide) ?_
  refine lv_iadd hx hb dX7_calmly_13 ?_
  obtain ⟨v3, g2, hG⟩ := wq_b1_s hG
  refine wq_ci (v := v3) (B := wq_tr) (va_runS (As := [.int (a2 + (m_told (Int32.toNatClampNeg (13 + a1)))), .int (a3 + 1)]) (rest := []) ⟨hx, hb, hml, hown, hts⟩ (C_X7_place l dC dI cI cJ cZ qa s.heap.size  (a2 + (m_told (Int32.toNatClampNeg (13 + a1)))) (a3 + 1) v3 g2) (va_cwS 2 hts gX7_calmly_X7_place rfl rfl rfl hdS_X7_place ⟨Nat.le_of_ble_eq_true rfl, Nat.le_of_ble_eq_true rfl⟩) (wq_ppS hK (hP.sub (ws' := []) [] rfl) hE hS hA) rfl rfl hl.1 rfl (lv_room (Nat.le_of_ble_eq_true rfl)) dX7_calmly_14 ⟨Nat.zero_le _, Nat.zero_le _⟩) hS hA (fun H locs b4 hk hS => ?_)
  replace hP := wq_kp hP hk
  clear hk
  exact W.iret (v := v3) hx hb hr (fun t ht hW => ⟨⟨v3, (), rfl, ⟨Option.some.inj hG, trivial⟩, trivial⟩, hS.F ht⟩) hS.2.2 dX7_calmly_17

def gX7_wildly (a0 : Int32) (a1 : Int32) : Option (Int32) :=
    wq_b1 (gX7_place (a0 - 2) (a1 - 1)) (fun v2 =>
    some v2)
theorem hdS_X7_wildly : yX7_wildly.cls ≠ "java/lang/invoke/MethodHandle" ∧ yX7_wildly.cls ≠ "java/lang/invoke/VarHandle" ∧ (parseMethodDescriptor yX7_wildly.desc).map (fun d => d.parameters.length) = some 2 := by decide +kernel
set_option maxHeartbeats 4000000 in
set_option maxRecDepth 100000 in
theorem C_X7_wildly (l : Launch) (dC : Nat → ClassId) (dI : Nat → Nat → Nat) (cI cJ cZ : ClassId) (qa : Nat → Nat) (sz : Nat) (a0 : Int32) (a1 : Int32) (r0 : Int32) (hG : gX7_wildly a0 a1 = some r0) : Met l yX7_wildly wsX7_wildly ({ frames := 2, cells := 0, slots := 0, locals := 43 } : Room) (va_Pc [.int a0, .int a1] (wq_pp (dC, dI) [(cI, .int), (cJ, .long), (cZ, .boolean)] ([]) sz)) (wq_Qi r0 wq_tr (va_A [] sz)) 0 0 (va_A [] sz) := by
  refine Met.ofW (cc := cX7_wildly) (maxL := 2) (ret := (some .int)) (by decide) rfl ?_
  intro p e s m args below meth c s₁ B hml hv
  obtain ⟨rfl, hsz, hP, hK, hE⟩ := hv
  have hx := B.exec
  have hb := B.bytes
  have hr := B.returns
  have hts := atoms_spec (ws := wsX7_wildly) B.pre
  have hown : s.vm.findClass RX7 = some m.cls := findClass_of_methodNamed B.named
  have hlocks := B.notSynchronized
  subst hsz
  generalize hAe : va_A [] s.heap.size = A at hE ⊢
  have hA : ∀ q : Nat, s.heap.size ≤ q → A q := fun q h => by rw [← hAe]; exact Or.inr h
  have hS : va_S A s.heap s.heap [] := va_S.rf
  have hl := lv_entry ([.int a0, .int a1]) (n := 2) (Nat.le_of_ble_eq_true rfl)
  rw [lg_entry_eq]
  generalize (lg_sl ([.int a0, .int a1]) ++ List.replicate (2 - (lg_sl ([.int a0, .int a1])).length) Slot.unset).toArray = ls at hl ⊢
  have hl : lv_has ls 2 [(0, .int a0), (1, .int a1)] := hl
  unfold gX7_wildly at hG
  refine lv_iload_n hx hb dX7_wildly_0 rfl (lv_at hl 0 rfl) ?_
  refine lv_iconst (v := 2) hx hb dX7_wildly_1 (by decide) ?_
  refine lv_isub hx hb dX7_wildly_2 ?_
  refine lv_iload_n hx hb dX7_wildly_3 rfl (lv_at hl 1 rfl) ?_
  refine lv_iconst (v := 1) hx hb dX7_wildly_4 (by decide) ?_
  refine lv_isub hx hb dX7_wildly_5 ?_
  obtain ⟨v2, g1, hG⟩ := wq_b1_s hG
  refine wq_ci (v := v2) (B := wq_tr) (va_runS (As := [.int (a0 - 2), .int (a1 - 1)]) (rest := []) ⟨hx, hb, hml, hown, hts⟩ (C_X7_place l dC dI cI cJ cZ qa s.heap.size  (a0 - 2) (a1 - 1) v2 g1) (va_cwS 2 hts gX7_wildly_X7_place rfl rfl rfl hdS_X7_place ⟨Nat.le_of_ble_eq_true rfl, Nat.le_of_ble_eq_true rfl⟩) (wq_ppS hK (hP.sub (ws' := []) [] rfl) hE hS hA) rfl rfl hl.1 rfl (lv_room (Nat.le_of_ble_eq_true rfl)) dX7_wildly_6 ⟨Nat.zero_le _, Nat.zero_le _⟩) hS hA (fun H locs b3 hk hS => ?_)
  replace hP := wq_kp hP hk
  clear hk
  exact W.iret (v := v2) hx hb hr (fun t ht hW => ⟨⟨v2, (), rfl, ⟨Option.some.inj hG, trivial⟩, trivial⟩, hS.F ht⟩) hS.2.2 dX7_wildly_9

