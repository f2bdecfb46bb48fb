theorem hdV_X7_number : yX7_number.cls = RX7 ∧ yX7_number.cls ≠ "java/lang/invoke/MethodHandle" ∧ yX7_number.cls ≠ "java/lang/invoke/VarHandle" ∧ (parseMethodDescriptor yX7_number.desc).map (fun d => d.parameters.length) = some 3 := by decide +kernel
set_option maxHeartbeats 4000000 in
set_option maxRecDepth 100000 in
theorem C_X7_number (l : Launch) (dC : Nat → ClassId) (dI : Nat → Nat → Nat) (cI cJ cZ : ClassId) (qa : Nat → Nat) (sz : Nat) (m_trace : Int64) (m_text : Nat → Int32) (m_typed : Int32) (m_told : Nat → Int32) (m_draft : Nat → Int32) (m_s : Nat → Int32) (m_past : Nat → Int32) (m_known : Int32) (m_images : Nat → Int32) (m_kept : Nat → Int32) (m_notes : Nat → Int32) (m_noted : Int32) (m_at : Int32) (m_sort : Int32) (m_start : Int32) (m_value : Int32) (m_steps : Nat → Int32) (m_rows : Nat → Int32) (m_held : Nat → Int32) (a1 : Int32) (a2 : Int32) (a3 : Int32) (r0 : Int32) (r_m_draft : Nat → Int32) (r_m_at : Int32) (r_m_sort : Int32) (r_m_start : Int32) (r_m_value : Int32) (hG : gX7_number m_text m_typed m_draft m_at m_sort m_start m_value a1 a2 a3 = some (r0, r_m_draft, r_m_at, r_m_sort, r_m_start, r_m_value)) : Met l yX7_number wsX7_number ({ frames := 3, cells := 0, slots := 0, locals := 63 } : Room) (va_Pc [.ref (qa 0), .int a1, .int a2, .int a3] (wq_pw (dC, dI) [(cI, .int), (cJ, .long), (cZ, .boolean)] (wcM qa cI cJ cZ m_trace m_text m_typed m_told m_draft m_s m_past m_known m_images m_kept m_notes m_noted m_at m_sort m_start m_value m_steps m_rows m_held) sz)) (wq_Wi (dC, dI) r0 wq_Z1 (wcM qa cI cJ cZ m_trace m_text m_typed m_told r_m_draft m_s m_past m_known m_images m_kept m_notes m_noted r_m_at r_m_sort r_m_start r_m_value m_steps m_rows m_held) (va_A (wcM qa cI cJ cZ m_trace m_text m_typed m_told m_draft m_s m_past m_known m_images m_kept m_notes m_noted m_at m_sort m_start m_value m_steps m_rows m_held) sz)) 0 0 (va_A (wcM qa cI cJ cZ m_trace m_text m_typed m_told m_draft m_s m_past m_known m_images m_kept m_notes m_noted m_at m_sort m_start m_value m_steps m_rows m_held) sz) := by
  refine Met.ofW (cc := cX7_number) (maxL := 4) (ret := (some .boolean)) (by decide) rfl ?_
  intro p e s m args below meth c s₁ B hml hv
  obtain ⟨rfl, hsz, hP, hK, hD0, hE⟩ := hv
  have hx := B.exec
  have hb := B.bytes
  have hr := B.returns
  have hts := atoms_spec (ws := wsX7_number) B.pre
  have hown : s.vm.findClass RX7 = some m.cls := findClass_of_methodNamed B.named
  have hlocks := B.notSynchronized
  subst hsz
  have hD := hD0.self (sz := s.heap.size)
  generalize hAe : va_A (wcM qa cI cJ cZ m_trace m_text m_typed m_told m_draft m_s m_past m_known m_images m_kept m_notes m_noted m_at m_sort m_start m_value m_steps m_rows m_held) s.heap.size = A at hD hE ⊢
  have hA : ∀ q : Nat, s.heap.size ≤ q → A q := fun q h => by rw [← hAe]; exact Or.inr h
  have hS : va_S A s.heap s.heap [] := va_S.rf
  have hinX7 : ∀ w ∈ u_ws RX7 TX7 19, w ∈ wsX7_number := by decide +kernel
  have k1 := hts (.fieldLink RX7 16 "DoorMorningsModel" "draft" "[I") (by decide +kernel)
  have k2 := hts (.fieldLink RX7 79 "DoorMorningsModel" "value" "I") (by decide +kernel)
  have k3 := hts (.fieldLink RX7 76 "DoorMorningsModel" "sort" "I") (by decide +kernel)
  have hl := lv_entry ([.ref (qa 0), .int a1, .int a2, .int a3]) (n := 4) (Nat.le_of_ble_eq_true rfl)
  rw [lg_entry_eq]
  generalize (lg_sl ([.ref (qa 0), .int a1, .int a2, .int a3]) ++ List.replicate (4 - (lg_sl ([.ref (qa 0), .int a1, .int a2, .int a3])).length) Slot.unset).toArray = ls at hl ⊢
  have hl : lv_has ls 4 [(0, .ref (qa 0)), (1, .int a1), (2, .int a2), (3, .int a3)] := hl
  unfold gX7_number at hG
  refine lv_aload_n hx hb dX7_number_0 rfl (lv_at hl 0 rfl) ?_
  obtain ⟨w2, w3, w4, w5, g1, hG⟩ := wq_b4_s hG
  have hFc := va_free (wc := wcM qa cI cJ cZ m_trace m_text m_typed m_told m_draft m_s m_past m_known m_images m_kept m_notes m_noted m_at m_sort m_start m_value m_steps m_rows m_held) hD hS hA [0, 1, 2, 3, 4, 5, 6, 7, 8, 9, 10, 11] rfl
  refine wq_dv (D := (dC, dI)) (wr := []) (w1 := wcM qa cI cJ cZ m_trace m_text m_typed m_told m_draft m_s m_past m_known m_images m_kept m_notes m_noted w2 w3 w4 w5 m_steps m_rows m_held) (w2 := wcM qa cI cJ cZ m_trace m_text m_typed m_told m_draft m_s m_past m_known m_images m_kept m_notes m_noted w2 w3 w4 w5 m_steps m_rows m_held) (va_runV (As := []) (rest := []) ⟨hx, hb, hml, hown, hts⟩ (C_X7_token l dC dI cI cJ cZ qa s.heap.size m_trace m_text m_typed m_told m_draft m_s m_past m_known m_images m_kept m_notes m_noted m_at m_sort m_start m_value m_steps m_rows m_held  w2 w3 w4 w5 g1) (cwV 0 hts gX7_number_X7_token rfl rfl rfl hdV_X7_token ⟨Nat.le_of_ble_eq_true rfl, Nat.le_of_ble_eq_true rfl⟩) (wq_pwV hK hP hD hE hS hFc (ci := 7) (q0 := 0) rfl rfl) rfl rfl hl.1 rfl (lv_room (Nat.le_of_ble_eq_true rfl)) dX7_number_1 ⟨Nat.zero_le _, Nat.zero_le _⟩) hP hD hS hFc [0, 1, 2, 3, 4, 5, 6, 7, 8, 9, 10, 11] [] [0, 1, 2, 3, 4, 5, 6, 7, 8, 9, 10, 11] rfl rfl (by decide) (by decide) (by decide) rfl (fun H locs hP hD hS => ?_)
  clear hFc
  refine lv_aload_n hx hb dX7_number_4 rfl (lv_at hl 0 rfl) ?_
  refine va_get (D := (dC, dI)) (ci := 7) (v := .ref (qa 3)) (C := RX7) (T := TX7) (N := 19) hx hb hts hinX7 hown hK hP 0 rfl rfl 4 (by decide) k1 (fun _ h9 => h9) rfl dX7_number_5 ?_
  refine lv_iload_n hx hb dX7_number_8 rfl (lv_at hl 1 rfl) ?_
  refine lv_aload_n hx hb dX7_number_9 rfl (lv_at hl 0 rfl) ?_
  refine va_get (D := (dC, dI)) (ci := 7) (v := .int w5) (C := RX7) (T := TX7) (N := 19) hx hb hts hinX7 hown hK hP 0 rfl rfl 15 (by decide) k2 (fun _ h9 => h9) rfl dX7_number_10 ?_
  obtain ⟨h6, hG⟩ := wq_chk_s hG
  refine wq_iast (D := (dC, dI)) hx hb hK hP hD hS 3 0 rfl rfl h6 (Int32.toNatClampNeg a1) rfl (wcM qa cI cJ cZ m_trace m_text m_typed m_told (upd m_draft (Int32.toNatClampNeg a1) w5) m_s m_past m_known m_images m_kept m_notes m_noted w2 w3 w4 w5 m_steps m_rows m_held) rfl dX7_number_13 (fun H locs hP hD hS => ?_)
  refine lv_aload_n hx hb dX7_number_14 rfl (lv_at hl 0 rfl) ?_
  refine va_get (D := (dC, dI)) (ci := 7) (v := .int w3) (C := RX7) (T := TX7) (N := 19) hx hb hts hinX7 hown hK hP 0 rfl rfl 13 (by decide) k3 (fun _ h9 => h9) rfl dX7_number_15 ?_
  refine lv_iconst (v := 2) hx hb dX7_number_18 (by decide) ?_
  refine lv_icmp_ne (tgt := 38) hx hb dX7_number_19 (by decide) (fun c7 => ?_) (fun c7 => ?_)
  · replace hG := wq_f c7 hG
    refine lv_iconst (v := 0) hx hb dX7_number_38 (by decide) ?_
    obtain ⟨e0, e1, e2, e3, e4, e5⟩ := wq_j6 hG
    subst e0
    subst e1
    subst e2
    subst e3
    subst e4
    subst e5
    exact W.zret hx hb hr (wq_Z1_n (Or.inl rfl)) (fun t ht hW => ⟨⟨_, (), rfl, ⟨rfl, (Or.inl rfl)⟩, by rw [ht]; exact hP, hD⟩, hS.F ht⟩) hS.2.2 dX7_number_39
  · replace hG := wq_t c7 hG
    refine lv_aload_n hx hb dX7_number_22 rfl (lv_at hl 0 rfl) ?_
    refine va_get (D := (dC, dI)) (ci := 7) (v := .int w5) (C := RX7) (T := TX7) (N := 19) hx hb hts hinX7 hown hK hP 0 rfl rfl 15 (by decide) k2 (fun _ h9 => h9) rfl dX7_number_23 ?_
    refine lv_iload_n hx hb dX7_number_26 rfl (lv_at hl 2 rfl) ?_
    refine lv_iload_n hx hb dX7_number_27 rfl (lv_at hl 3 rfl) ?_
    obtain ⟨v9, g8, hG⟩ := wq_b1_s hG
    refine wq_ci (v := v9) (B := wq_Z1) (va_runS (As := [.int w5, .int a2, .int a3]) (rest := []) ⟨hx, hb, hml, hown, hts⟩ (C_X7_in l dC dI cI cJ cZ qa H.size  w5 a2 a3 v9 g8) (va_cwS 3 hts gX7_number_X7_in rfl rfl rfl hdS_X7_in ⟨Nat.le_of_ble_eq_true rfl, Nat.le_of_ble_eq_true rfl⟩) (wq_ppS hK (hP.sub (ws' := []) [] rfl) hE hS hA) rfl rfl hl.1 rfl (lv_room (Nat.le_of_ble_eq_true rfl)) dX7_number_28 ⟨Nat.zero_le _, Nat.zero_le _⟩) hS hA (fun H locs b10 hk hS => ?_)
    replace hP := wq_kp hP hk
    clear hk
    refine lv_if_eq (tgt := 38) hx hb dX7_number_31 (by decide) (fun c11 => ?_) (fun c11 => ?_)
    · replace hG := wq_t c11 hG
      refine lv_iconst (v := 0) hx hb dX7_number_38 (by decide) ?_
      obtain ⟨e0, e1, e2, e3, e4, e5⟩ := wq_j6 hG
      subst e0
      subst e1
      subst e2
      subst e3
      subst e4
      subst e5
      exact W.zret hx hb hr (wq_Z1_n (Or.inl rfl)) (fun t ht hW => ⟨⟨_, (), rfl, ⟨rfl, (Or.inl rfl)⟩, by rw [ht]; exact hP, hD⟩, hS.F ht⟩) hS.2.2 dX7_number_39
    · replace hG := wq_f c11 hG
      refine lv_iconst (v := 1) hx hb dX7_number_34 (by decide) ?_
      refine lv_goto (tgt := 39) hx hb dX7_number_35 (by decide) ?_
      obtain ⟨e0, e1, e2, e3, e4, e5⟩ := wq_j6 hG
      subst e0
      subst e1
      subst e2
      subst e3
      subst e4
      subst e5
      exact W.zret hx hb hr (wq_Z1_n (Or.inr rfl)) (fun t ht hW => ⟨⟨_, (), rfl, ⟨rfl, (Or.inr rfl)⟩, by rw [ht]; exact hP, hD⟩, hS.F ht⟩) hS.2.2 dX7_number_39

theorem hdV_X7_once : yX7_once.cls = RX7 ∧ yX7_once.cls ≠ "java/lang/invoke/MethodHandle" ∧ yX7_once.cls ≠ "java/lang/invoke/VarHandle" ∧ (parseMethodDescriptor yX7_once.desc).map (fun d => d.parameters.length) = some 4 := by decide +kernel
set_option maxHeartbeats 4000000 in
set_option maxRecDepth 100000 in
theorem C_X7_once (l : Launch) (dC : Nat → ClassId) (dI : Nat → Nat → Nat) (cI cJ cZ : ClassId) (qa : Nat → Nat) (sz : Nat) (m_trace : Int64) (m_text : Nat → Int32) (m_typed : Int32) (m_told : Nat → Int32) (m_draft : Nat → Int32) (m_s : Nat → Int32) (m_past : Nat → Int32) (m_known : Int32) (m_images : Nat → Int32) (m_kept : Nat → Int32) (m_notes : Nat → Int32) (m_noted : Int32) (m_at : Int32) (m_sort : Int32) (m_start : Int32) (m_value : Int32) (m_steps : Nat → Int32) (m_rows : Nat → Int32) (m_held : Nat → Int32) (a1 : Int32) (a2 : Int32) (a3 : Int32) (a4 : Int32) (r0 : Int32) (r_m_draft : Nat → Int32) (r_m_at : Int32) (r_m_sort : Int32) (r_m_start : Int32) (r_m_value : Int32) (hG : gX7_once m_text m_typed m_draft m_at m_sort m_start m_value a1 a2 a3 a4 = some (r0, r_m_draft, r_m_at, r_m_sort, r_m_start, r_m_value)) : Met l yX7_once wsX7_once ({ frames := 4, cells := 0, slots := 0, locals := 86 } : Room) (va_Pc [.ref (qa 0), .int a1, .int a2, .int a3, .int a4] (wq_pw (dC, dI) [(cI, .int), (cJ, .long), (cZ, .boolean)] (wcM qa cI cJ cZ m_trace m_text m_typed m_told m_draft m_s m_past m_known m_images m_kept m_notes m_noted m_at m_sort m_start m_value m_steps m_rows m_held) sz)) (wq_Wi (dC, dI) r0 wq_Z1 (wcM qa cI cJ cZ m_trace m_text m_typed m_told r_m_draft m_s m_past m_known m_images m_kept m_notes m_noted r_m_at r_m_sort r_m_start r_m_value m_steps m_rows m_held) (va_A (wcM qa cI cJ cZ m_trace m_text m_typed m_told m_draft m_s m_past m_known m_images m_kept m_notes m_noted m_at m_sort m_start m_value m_steps m_rows m_held) sz)) 0 0 (va_A (wcM qa cI cJ cZ m_trace m_text m_typed m_told m_draft m_s m_past m_known m_images m_kept m_notes m_noted m_at m_sort m_start m_value m_steps m_rows m_held) sz) := by
  refine Met.ofW (cc := cX7_once) (maxL := 5) (ret := (some .boolean)) (by decide) rfl ?_
  intro p e s m args below meth c s₁ B hml hv
  obtain ⟨rfl, hsz, hP, hK, hD0, hE⟩ := hv
  have hx := B.exec
  have hb := B.bytes
  have hr := B.returns
  have hts := atoms_spec (ws := wsX7_once) B.pre
  have hown : s.vm.findClass RX7 = some m.cls := findClass_of_methodNamed B.named
  have hlocks := B.notSynchronized
  subst hsz
  have hD := hD0.self (sz := s.heap.size)
  generalize hAe : va_A (wcM qa cI cJ cZ m_trace m_text m_typed m_told m_draft m_s m_past m_known m_images m_kept m_notes m_noted m_at m_sort m_start m_value m_steps m_rows m_held) s.heap.size = A at hD hE ⊢
  have hA : ∀ q : Nat, s.heap.size ≤ q → A q := fun q h => by rw [← hAe]; exact Or.inr h
  have hS : va_S A s.heap s.heap [] := va_S.rf
  have hinX7 : ∀ w ∈ u_ws RX7 TX7 19, w ∈ wsX7_once := by decide +kernel
  have k1 := hts (.fieldLink RX7 16 "DoorMorningsModel" "draft" "[I") (by decide +kernel)
  have hl := lv_entry ([.ref (qa 0), .int a1, .int a2, .int a3, .int a4]) (n := 5) (Nat.le_of_ble_eq_true rfl)
  rw [lg_entry_eq]
  generalize (lg_sl ([.ref (qa 0), .int a1, .int a2, .int a3, .int a4]) ++ List.replicate (5 - (lg_sl ([.ref (qa 0), .int a1, .int a2, .int a3, .int a4])).length) Slot.unset).toArray = ls at hl ⊢
  have hl : lv_has ls 5 [(0, .ref (qa 0)), (1, .int a1), (2, .int a2), (3, .int a3), (4, .int a4)] := hl
  unfold gX7_once at hG
  refine lv_aload_n hx hb dX7_once_0 rfl (lv_at hl 0 rfl) ?_
  refine va_get (D := (dC, dI)) (ci := 7) (v := .ref (qa 3)) (C := RX7) (T := TX7) (N := 19) hx hb hts hinX7 hown hK hP 0 rfl rfl 4 (by decide) k1 (fun _ h9 => h9) rfl dX7_once_1 ?_
  refine lv_bipush (v := 7) hx hb dX7_once_4 (by decide) ?_
  refine wq_iald (D := (dC, dI)) hx hb hK hP 3 0 rfl rfl (wq_lit (by decide)) 7 rfl dX7_once_6 ?_
  refine lv_iload_n hx hb dX7_once_7 rfl (lv_at hl 1 rfl) ?_
  refine lv_iand hx hb dX7_once_8 ?_
  refine lv_if_eq (tgt := 14) hx hb dX7_once_9 (by decide) (fun c1 => ?_) (fun c1 => ?_)
  · replace hG := wq_t c1 hG
    refine lv_aload_n hx hb dX7_once_14 rfl (lv_at hl 0 rfl) ?_
    refine va_get (D := (dC, dI)) (ci := 7) (v := .ref (qa 3)) (C := RX7) (T := TX7) (N := 19) hx hb hts hinX7 hown hK hP 0 rfl rfl 4 (by decide) k1 (fun _ h9 => h9) rfl dX7_once_15 ?_
    refine lv_bipush (v := 7) hx hb dX7_once_18 (by decide) ?_
    refine lv_dup2_11 hx hb dX7_once_20 rfl rfl ?_
    refine wq_iald (D := (dC, dI)) hx hb hK hP 3 0 rfl rfl (wq_lit (by decide)) 7 rfl dX7_once_21 ?_
    refine lv_iload_n hx hb dX7_once_22 rfl (lv_at hl 1 rfl) ?_
    refine lv_ior hx hb dX7_once_23 ?_
    refine wq_iast (D := (dC, dI)) hx hb hK hP hD hS 3 0 rfl rfl (wq_lit (by decide)) 7 rfl (wcM qa cI cJ cZ m_trace m_text m_typed m_told (upd m_draft 7 ((m_draft 7) ||| a1)) m_s m_past m_known m_images m_kept m_notes m_noted m_at m_sort m_start m_value m_steps m_rows m_held) rfl dX7_once_24 (fun H locs hP hD hS => ?_)
    refine lv_aload_n hx hb dX7_once_25 rfl (lv_at hl 0 rfl) ?_
    refine lv_iload_n hx hb dX7_once_26 rfl (lv_at hl 2 rfl) ?_
    refine lv_iload_n hx hb dX7_once_27 rfl (lv_at hl 3 rfl) ?_
    refine lv_iload hx hb dX7_once_28 (lv_at hl 4 rfl) ?_
    obtain ⟨v3, w4, w5, w6, w7, w8, g2, hG⟩ := wq_b6_s hG
    have hFc := va_free (wc := wcM qa cI cJ cZ m_trace m_text m_typed m_told (upd m_draft 7 ((m_draft 7) ||| a1)) m_s m_past m_known m_images m_kept m_notes m_noted m_at m_sort m_start m_value m_steps m_rows m_held) hD hS hA [0, 1, 2, 3, 4, 5, 6, 7, 8, 9, 10, 11] rfl
    refine wq_di (D := (dC, dI)) (v := v3) (B := wq_Z1) (wr := []) (w1 := wcM qa cI cJ cZ m_trace m_text m_typed m_told w4 m_s m_past m_known m_images m_kept m_notes m_noted w5 w6 w7 w8 m_steps m_rows m_held) (w2 := wcM qa cI cJ cZ m_trace m_text m_typed m_told w4 m_s m_past m_known m_images m_kept m_notes m_noted w5 w6 w7 w8 m_steps m_rows m_held) (va_runV (As := [.int a2, .int a3, .int a4]) (rest := []) ⟨hx, hb, hml, hown, hts⟩ (C_X7_number l dC dI cI cJ cZ qa H.size m_trace m_text m_typed m_told (upd m_draft 7 ((m_draft 7) ||| a1)) m_s m_past m_known m_images m_kept m_notes m_noted m_at m_sort m_start m_value m_steps m_rows m_held a2 a3 a4 v3 w4 w5 w6 w7 w8 g2) (cwV 3 hts gX7_once_X7_number rfl rfl rfl hdV_X7_number ⟨Nat.le_of_ble_eq_true rfl, Nat.le_of_ble_eq_true rfl⟩) (wq_pwV hK hP hD hE hS hFc (ci := 7) (q0 := 0) rfl rfl) rfl rfl hl.1 rfl (lv_room (Nat.le_of_ble_eq_true rfl)) dX7_once_30 ⟨Nat.zero_le _, Nat.zero_le _⟩) hP hD hS hFc [0, 1, 2, 3, 4, 5, 6, 7, 8, 9, 10, 11] [] [0, 1, 2, 3, 4, 5, 6, 7, 8, 9, 10, 11] rfl rfl (by decide) (by decide) (by decide) rfl (fun H locs b9 hP hD hS => ?_)
    clear hFc
    obtain ⟨e0, e1, e2, e3, e4, e5⟩ := wq_j6 hG
    subst e0
    subst e1
    subst e2
    subst e3
    subst e4
    subst e5
    exact W.zret hx hb hr (wq_Z1_n b9) (fun t ht hW => ⟨⟨_, (), rfl, ⟨rfl, b9⟩, by rw [ht]; exact hP, hD⟩, hS.F ht⟩) hS.2.2 dX7_once_33
  · replace hG := wq_f c1 hG
    refine lv_iconst (v := 0) hx hb dX7_once_12 (by decide) ?_
    obtain ⟨e0, e1, e2, e3, e4, e5⟩ := wq_j6 hG
    subst e0
    subst e1
    subst e2
    subst e3
    subst e4
    subst e5
    exact W.zret hx hb hr (wq_Z1_n (Or.inl rfl)) (fun t ht hW => ⟨⟨_, (), rfl, ⟨rfl, (Or.inl rfl)⟩, by rw [ht]; exact hP, hD⟩, hS.F ht⟩) hS.2.2 dX7_once_13

theorem hdV_X7_readsItem : yX7_readsItem.cls = RX7 ∧ yX7_readsItem.cls ≠ "java/lang/invoke/MethodHandle" ∧ yX7_readsItem.cls ≠ "java/lang/invoke/VarHandle" ∧ (parseMethodDescriptor yX7_readsItem.desc).map (fun d => d.parameters.length) = some 0 := by decide +kernel
set_option maxHeartbeats 4000000 in
set_option maxRecDepth 100000 in
theorem C_X7_readsItem (l : Launch) (dC : Nat → ClassId) (dI : Nat → Nat → Nat) (cI cJ cZ : ClassId) (qa : Nat → Nat) (sz : Nat) (m_trace : Int64) (m_text : Nat → Int32) (m_typed : Int32) (m_told : Nat → Int32) (m_draft : Nat → Int32) (m_s : Nat → Int32) (m_past : Nat → Int32) (m_known : Int32) (m_images : Nat → Int32) (m_kept : Nat → Int32) (m_notes : Nat → Int32) (m_noted : Int32) (m_at : Int32) (m_sort : Int32) (m_start : Int32) (m_value : Int32) (m_steps : Nat → Int32) (m_rows : Nat → Int32) (m_held : Nat → Int32) (r0 : Int32) (r_m_draft : Nat → Int32) (r_m_at : Int32) (r_m_sort : Int32) (r_m_start : Int32) (r_m_value : Int32) (hG : gX7_readsItem m_text m_typed m_draft m_at m_sort m_start m_value = some (r0, r_m_draft, r_m_at, r_m_sort, r_m_start, r_m_value)) : Met l yX7_readsItem wsX7_readsItem ({ frames := 5, cells := 0, slots := 0, locals := 110 } : Room) (va_Pc [.ref (qa 0)] (wq_pw (dC, dI) [(cI, .int), (cJ, .long), (cZ, .boolean)] (wcM qa cI cJ cZ m_trace m_text m_typed m_told m_draft m_s m_past m_known m_images m_kept m_notes m_noted m_at m_sort m_start m_value m_steps m_rows m_held) sz)) (wq_Wi (dC, dI) r0 wq_Z1 (wcM qa cI cJ cZ m_trace m_text m_typed m_told r_m_draft m_s m_past m_known m_images m_kept m_notes m_noted r_m_at r_m_sort r_m_start r_m_value m_steps m_rows m_held) (va_A (wcM qa cI cJ cZ m_trace m_text m_typed m_told m_draft m_s m_past m_known m_images m_kept m_notes m_noted m_at m_sort m_start m_value m_steps m_rows m_held) sz)) 0 0 (va_A (wcM qa cI cJ cZ m_trace m_text m_typed m_told m_draft m_s m_past m_known m_images m_kept m_notes m_noted m_at m_sort m_start m_value m_steps m_rows m_held) sz) := by
  refine Met.ofW (cc := cX7_readsItem) (maxL := 3) (ret := (some .boolean)) (by decide) rfl ?_
  intro p e s m args below meth c s₁ B hml hv
  obtain ⟨rfl, hsz, hP, hK, hD0, hE⟩ := hv
  have hx := B.exec
  have hb := B.bytes
  have hr := B.returns
  have hts := atoms_spec (ws := wsX7_readsItem) B.pre
  have hown : s.vm.findClass RX7 = some m.cls := findClass_of_methodNamed B.named
  have hlocks := B.notSynchronized
  subst hsz
  have hD := hD0.self (sz := s.heap.size)
  generalize hAe : va_A (wcM qa cI cJ cZ m_trace m_text m_typed m_told m_draft m_s m_past m_known m_images m_kept m_notes m_noted m_at m_sort m_start m_value m_steps m_rows m_held) s.heap.size = A at hD hE ⊢
  have hA : ∀ q : Nat, s.heap.size ≤ q → A q := fun q h => by rw [← hAe]; exact Or.inr h
  have hS : va_S A s.heap s.heap [] := va_S.rf
  have hinX7 : ∀ w ∈ u_ws RX7 TX7 19, w ∈ wsX7_readsItem := by decide +kernel
  have k1 := hts (.fieldLink RX7 76 "DoorMorningsModel" "sort" "I") (by decide +kernel)
  have k2 := hts (.fieldLink RX7 16 "DoorMorningsModel" "draft" "[I") (by decide +kernel)
  have k3 := hts (.fieldLink RX7 79 "DoorMorningsModel" "value" "I") (by decide +kernel)
  have hl := lv_entry ([.ref (qa 0)]) (n := 3) (Nat.le_of_ble_eq_true rfl)
  rw [lg_entry_eq]
  generalize (lg_sl ([.ref (qa 0)]) ++ List.replicate (3 - (lg_sl ([.ref (qa 0)])).length) Slot.unset).toArray = ls at hl ⊢
  have hl : lv_has ls 3 [(0, .ref (qa 0))] := hl
  unfold gX7_readsItem at hG
  refine lv_aload_n hx hb dX7_readsItem_0 rfl (lv_at hl 0 rfl) ?_
  refine va_get (D := (dC, dI)) (ci := 7) (v := .int m_sort) (C := RX7) (T := TX7) (N := 19) hx hb hts hinX7 hown hK hP 0 rfl rfl 13 (by decide) k1 (fun _ h9 => h9) rfl dX7_readsItem_1 ?_
  refine lv_iconst (v := 1) hx hb dX7_readsItem_4 (by decide) ?_
  refine lv_icmp_ne (tgt := 15) hx hb dX7_readsItem_5 (by decide) (fun c1 => ?_) (fun c1 => ?_)
  · replace hG := wq_f c1 hG
    refine lv_iconst (v := 0) hx hb dX7_readsItem_15 (by decide) ?_
    refine lv_istore_n (lv' := [(1, .int 0), (0, .ref (qa 0))]) hx hb dX7_readsItem_16 rfl hl (by decide) rfl (fun ls hl => ?_)
    refine lv_iload_n hx hb dX7_readsItem_17 rfl (lv_at hl 0 rfl) ?_
    refine lv_bipush (v := 103) hx hb dX7_readsItem_18 (by decide) ?_
    refine lv_icmp_ne (tgt := 32) hx hb dX7_readsItem_20 (by decide) (fun c2 => ?_) (fun c2 => absurd c2 (by decide))
    refine lv_aload_n hx hb dX7_readsItem_32 rfl (lv_at hl 1 rfl) ?_
    refine va_get (D := (dC, dI)) (ci := 7) (v := .ref (qa 3)) (C := RX7) (T := TX7) (N := 19) hx hb hts hinX7 hown hK hP 0 rfl rfl 4 (by decide) k2 (fun _ h9 => h9) rfl dX7_readsItem_33 ?_
    refine lv_iconst (v := 1) hx hb dX7_readsItem_36 (by decide) ?_
    refine wq_iald (D := (dC, dI)) hx hb hK hP 3 0 rfl rfl (wq_lit (by decide)) 1 rfl dX7_readsItem_37 ?_
    refine lv_istore_n (lv' := [(2, .int (m_draft 1)), (1, .int 0), (0, .ref (qa 0))]) hx hb dX7_readsItem_38 rfl hl (by decide) rfl (fun ls hl => ?_)
    refine lv_iload_n hx hb dX7_readsItem_39 rfl (lv_at hl 1 rfl) ?_
    refine lv_lookup (off := 181) (tgt := 221) hx hb dX7_readsItem_40 (by decide) (by decide) (by decide) ?_
    refine lv_iconst (v := 0) hx hb dX7_readsItem_221 (by decide) ?_
    obtain ⟨e0, e1, e2, e3, e4, e5⟩ := wq_j6 hG
    subst e0
    subst e1
    subst e2
    subst e3
    subst e4
    subst e5
    exact W.zret hx hb hr (wq_Z1_n (Or.inl rfl)) (fun t ht hW => ⟨⟨_, (), rfl, ⟨rfl, (Or.inl rfl)⟩, by rw [ht]; exact hP, hD⟩, hS.F ht⟩) hS.2.2 dX7_readsItem_222
  · replace hG := wq_t c1 hG
    refine lv_aload_n hx hb dX7_readsItem_8 rfl (lv_at hl 0 rfl) ?_
    refine va_get (D := (dC, dI)) (ci := 7) (v := .int m_value) (C := RX7) (T := TX7) (N := 19) hx hb hts hinX7 hown hK hP 0 rfl rfl 15 (by decide) k3 (fun _ h9 => h9) rfl dX7_readsItem_9 ?_
    refine lv_goto (tgt := 16) hx hb dX7_readsItem_12 (by decide) ?_
    refine lv_istore_n (lv' := [(1, .int m_value), (0, .ref (qa 0))]) hx hb dX7_readsItem_16 rfl hl (by decide) rfl (fun ls hl => ?_)
    refine lv_iload_n hx hb dX7_readsItem_17 rfl (lv_at hl 0 rfl) ?_
    refine lv_bipush (v := 103) hx hb dX7_readsItem_18 (by decide) ?_
    refine lv_icmp_ne (tgt := 32) hx hb dX7_readsItem_20 (by decide) (fun c3 => ?_) (fun c3 => ?_)
    · replace hG := wq_f c3 hG
      refine lv_aload_n hx hb dX7_readsItem_32 rfl (lv_at hl 1 rfl) ?_
      refine va_get (D := (dC, dI)) (ci := 7) (v := .ref (qa 3)) (C := RX7) (T := TX7) (N := 19) hx hb hts hinX7 hown hK hP 0 rfl rfl 4 (by decide) k2 (fun _ h9 => h9) rfl dX7_readsItem_33 ?_
      refine lv_iconst (v := 1) hx hb dX7_readsItem_36 (by decide) ?_
      refine wq_iald (D := (dC, dI)) hx hb hK hP 3 0 rfl rfl (wq_lit (by decide)) 1 rfl dX7_readsItem_37 ?_
      refine lv_istore_n (lv' := [(2, .int (m_draft 1)), (1, .int m_value), (0, .ref (qa 0))]) hx hb dX7_readsItem_38 rfl hl (by decide) rfl (fun ls hl => ?_)
      refine lv_iload_n hx hb dX7_readsItem_39 rfl (lv_at hl 1 rfl) ?_
      by_cases c4 : m_value = 99
      · replace hG := wq_t c4 hG
        refine lv_lookup (off := 149) (tgt := 189) hx hb dX7_readsItem_40 (by decide) (by rw [c4]; decide) (by decide) ?_
        refine lv_aload_n hx hb dX7_readsItem_189 rfl (lv_at hl 2 rfl) ?_
        refine lv_iconst (v := 2) hx hb dX7_readsItem_190 (by decide) ?_
        refine lv_iconst (v := 3) hx hb dX7_readsItem_191 (by decide) ?_
        refine lv_iconst (v := 0) hx hb dX7_readsItem_192 (by decide) ?_
        refine lv_bipush (v := 20) hx hb dX7_readsItem_193 (by decide) ?_
        obtain ⟨v6, w7, w8, w9, w10, w11, g5, hG⟩ := wq_b6_s hG
        have hFc := va_free (wc := wcM qa cI cJ cZ m_trace m_text m_typed m_told m_draft m_s m_past m_known m_images m_kept m_notes m_noted m_at m_sort m_start m_value m_steps m_rows m_held) hD hS hA [0, 1, 2, 3, 4, 5, 6, 7, 8, 9, 10, 11] rfl
        refine wq_di (D := (dC, dI)) (v := v6) (B := wq_Z1) (wr := []) (w1 := wcM qa cI cJ cZ m_trace m_text m_typed m_told w7 m_s m_past m_known m_images m_kept m_notes m_noted w8 w9 w10 w11 m_steps m_rows m_held) (w2 := wcM qa cI cJ cZ m_trace m_text m_typed m_told w7 m_s m_past m_known m_images m_kept m_notes m_noted w8 w9 w10 w11 m_steps m_rows m_held) (va_runV (As := [.int 2, .int 3, .int 0, .int 20]) (rest := []) ⟨hx, hb, hml, hown, hts⟩ (C_X7_once l dC dI cI cJ cZ qa s.heap.size m_trace m_text m_typed m_told m_draft m_s m_past m_known m_images m_kept m_notes m_noted m_at m_sort m_start m_value m_steps m_rows m_held 2 3 0 20 v6 w7 w8 w9 w10 w11 g5) (cwV 4 hts gX7_readsItem_X7_once rfl rfl rfl hdV_X7_once ⟨Nat.le_of_ble_eq_true rfl, Nat.le_of_ble_eq_true rfl⟩) (wq_pwV hK hP hD hE hS hFc (ci := 7) (q0 := 0) rfl rfl) rfl rfl hl.1 rfl (lv_room (Nat.le_of_ble_eq_true rfl)) dX7_readsItem_195 ⟨Nat.zero_le _, Nat.zero_le _⟩) hP hD hS hFc [0, 1, 2, 3, 4, 5, 6, 7, 8, 9, 10, 11] [] [0, 1, 2, 3, 4, 5, 6, 7, 8, 9, 10, 11] rfl rfl (by decide) (by decide) (by decide) rfl (fun H locs b12 hP hD hS => ?_)
        clear hFc
        obtain ⟨e0, e1, e2, e3, e4, e5⟩ := wq_j6 hG
        subst e0
        subst e1
        subst e2
        subst e3
        subst e4
        subst e5
        exact W.zret hx hb hr (wq_Z1_n b12) (fun t ht hW => ⟨⟨_, (), rfl, ⟨rfl, b12⟩, by rw [ht]; exact hP, hD⟩, hS.F ht⟩) hS.2.2 dX7_readsItem_198
      · replace hG := wq_f c4 hG
        by_cases c14 : m_value = 115
        · replace hG := wq_t c14 hG
          refine lv_lookup (off := 139) (tgt := 179) hx hb dX7_readsItem_40 (by decide) (by rw [c14]; decide) (by decide) ?_
          refine lv_aload_n hx hb dX7_readsItem_179 rfl (lv_at hl 2 rfl) ?_
          refine lv_iconst (v := 1) hx hb dX7_readsItem_180 (by decide) ?_
          refine lv_iconst (v := 2) hx hb dX7_readsItem_181 (by decide) ?_
          refine lv_iconst (v := 1) hx hb dX7_readsItem_182 (by decide) ?_
          refine lv_bipush (v := 9) hx hb dX7_readsItem_183 (by decide) ?_
          obtain ⟨v16, w17, w18, w19, w20, w21, g15, hG⟩ := wq_b6_s hG
          have hFc := va_free (wc := wcM qa cI cJ cZ m_trace m_text m_typed m_told m_draft m_s m_past m_known m_images m_kept m_notes m_noted m_at m_sort m_start m_value m_steps m_rows m_held) hD hS hA [0, 1, 2, 3, 4, 5, 6, 7, 8, 9, 10, 11] rfl
          refine wq_di (D := (dC, dI)) (v := v16) (B := wq_Z1) (wr := []) (w1 := wcM qa cI cJ cZ m_trace m_text m_typed m_told w17 m_s m_past m_known m_images m_kept m_notes m_noted w18 w19 w20 w21 m_steps m_rows m_held) (w2 := wcM qa cI cJ cZ m_trace m_text m_typed m_told w17 m_s m_past m_known m_images m_kept m_notes m_noted w18 w19 w20 w21 m_steps m_rows m_held) (va_runV (As := [.int 1, .int 2, .int 1, .int 9]) (rest := []) ⟨hx, hb, hml, hown, hts⟩ (C_X7_once l dC dI cI cJ cZ qa s.heap.size m_trace m_text m_typed m_told m_draft m_s m_past m_known m_images m_kept m_notes m_noted m_at m_sort m_start m_value m_steps m_rows m_held 1 2 1 9 v16 w17 w18 w19 w20 w21 g15) (cwV 4 hts gX7_readsItem_X7_once rfl rfl rfl hdV_X7_once ⟨Nat.le_of_ble_eq_true rfl, Nat.le_of_ble_eq_true rfl⟩) (wq_pwV hK hP hD hE hS hFc (ci := 7) (q0 := 0) rfl rfl) rfl rfl hl.1 rfl (lv_room (Nat.le_of_ble_eq_true rfl)) dX7_readsItem_185 ⟨Nat.zero_le _, Nat.zero_le _⟩) hP hD hS hFc [0, 1, 2, 3, 4, 5, 6, 7, 8, 9, 10, 11] [] [0, 1, 2, 3, 4, 5, 6, 7, 8, 9, 10, 11] rfl rfl (by decide) (by decide) (by decide) rfl (fun H locs b22 hP hD hS => ?_)
          clear hFc
          obtain ⟨e0, e1, e2, e3, e4, e5⟩ := wq_j6 hG
          subst e0
          subst e1
          subst e2
          subst e3
          subst e4
          subst e5
          exact W.zret hx hb hr (wq_Z1_n b22) (fun t ht hW => ⟨⟨_, (), rfl, ⟨rfl, b22⟩, by rw [ht]; exact hP, hD⟩, hS.F ht⟩) hS.2.2 dX7_readsItem_188
        · replace hG := wq_f c14 hG
          by_cases c23 : m_value = 119
          · replace hG := wq_t c23 hG
            refine lv_lookup (off := 106) (tgt := 146) hx hb dX7_readsItem_40 (by decide) (by rw [c23]; decide) (by decide) ?_
            refine lv_iload_n hx hb dX7_readsItem_146 rfl (lv_at hl 0 rfl) ?_
            refine lv_iconst (v := 4) hx hb dX7_readsItem_147 (by decide) ?_
            refine lv_icmp_eq (tgt := 165) hx hb dX7_readsItem_148 (by decide) (fun c24 => ?_) (fun c24 => ?_)
            · replace hG := wq_t c24 hG
              refine lv_iconst (v := 0) hx hb dX7_readsItem_165 (by decide) ?_
              obtain ⟨e0, e1, e2, e3, e4, e5⟩ := wq_j6 hG
              subst e0
              subst e1
              subst e2
              subst e3
              subst e4
              subst e5
              exact W.zret hx hb hr (wq_Z1_n (Or.inl rfl)) (fun t ht hW => ⟨⟨_, (), rfl, ⟨rfl, (Or.inl rfl)⟩, by rw [ht]; exact hP, hD⟩, hS.F ht⟩) hS.2.2 dX7_readsItem_166
            · replace hG := wq_f c24 hG
              refine lv_aload_n hx hb dX7_readsItem_151 rfl (lv_at hl 2 rfl) ?_
              refine lv_bipush (v := 18) hx hb dX7_readsItem_152 (by decide) ?_
              refine lv_iload_n hx hb dX7_readsItem_154 rfl (lv_at hl 0 rfl) ?_
              refine lv_iadd hx hb dX7_readsItem_155 ?_
              refine lv_iconst (v := 0) hx hb dX7_readsItem_156 (by decide) ?_
              refine lv_bipush (v := 9) hx hb dX7_readsItem_157 (by decide) ?_
              obtain ⟨v26, w27, w28, w29, w30, w31, g25, hG⟩ := wq_b6_s hG
              have hFc := va_free (wc := wcM qa cI cJ cZ m_trace m_text m_typed m_told m_draft m_s m_past m_known m_images m_kept m_notes m_noted m_at m_sort m_start m_value m_steps m_rows m_held) hD hS hA [0, 1, 2, 3, 4, 5, 6, 7, 8, 9, 10, 11] rfl
              refine wq_di (D := (dC, dI)) (v := v26) (B := wq_Z1) (wr := []) (w1 := wcM qa cI cJ cZ m_trace m_text m_typed m_told w27 m_s m_past m_known m_images m_kept m_notes m_noted w28 w29 w30 w31 m_steps m_rows m_held) (w2 := wcM qa cI cJ cZ m_trace m_text m_typed m_told w27 m_s m_past m_known m_images m_kept m_notes m_noted w28 w29 w30 w31 m_steps m_rows m_held) (va_runV (As := [.int (18 + (m_draft 1)), .int 0, .int 9]) (rest := []) ⟨hx, hb, hml, hown, hts⟩ (C_X7_number l dC dI cI cJ cZ qa s.heap.size m_trace m_text m_typed m_told m_draft m_s m_past m_known m_images m_kept m_notes m_noted m_at m_sort m_start m_value m_steps m_rows m_held (18 + (m_draft 1)) 0 9 v26 w27 w28 w29 w30 w31 g25) (cwV 3 hts gX7_readsItem_X7_number rfl rfl rfl hdV_X7_number ⟨Nat.le_of_ble_eq_true rfl, Nat.le_of_ble_eq_true rfl⟩) (wq_pwV hK hP hD hE hS hFc (ci := 7) (q0 := 0) rfl rfl) rfl rfl hl.1 rfl (lv_room (Nat.le_of_ble_eq_true rfl)) dX7_readsItem_159 ⟨Nat.zero_le _, Nat.zero_le _⟩) hP hD hS hFc [0, 1, 2, 3, 4, 5, 6, 7, 8, 9, 10, 11] [] [0, 1, 2, 3, 4, 5, 6, 7, 8, 9, 10, 11] rfl rfl (by decide) (by decide) (by decide) rfl (fun H locs b32 hP hD hS => ?_)
              clear hFc
              refine lv_if_ne (tgt := 167) hx hb dX7_readsItem_162 (by decide) (fun c33 => ?_) (fun c33 => ?_)
              · replace hG := wq_f c33 hG
                refine lv_aload_n hx hb dX7_readsItem_167 rfl (lv_at hl 2 rfl) ?_
                refine va_get (D := (dC, dI)) (ci := 7) (v := .ref (qa 3)) (C := RX7) (T := TX7) (N := 19) hx hb hts hinX7 hown hK hP 0 rfl rfl 4 (by decide) k2 (fun _ h9 => h9) rfl dX7_readsItem_168 ?_
                refine lv_iconst (v := 1) hx hb dX7_readsItem_171 (by decide) ?_
                refine lv_dup2_11 hx hb dX7_readsItem_172 rfl rfl ?_
                refine wq_iald (D := (dC, dI)) hx hb hK hP 3 0 rfl rfl (wq_lit (by decide)) 1 rfl dX7_readsItem_173 ?_
                refine lv_iconst (v := 1) hx hb dX7_readsItem_174 (by decide) ?_
                refine lv_iadd hx hb dX7_readsItem_175 ?_
                refine wq_iast (D := (dC, dI)) hx hb hK hP hD hS 3 0 rfl rfl (wq_lit (by decide)) 1 rfl (wcM qa cI cJ cZ m_trace m_text m_typed m_told (upd w27 1 ((w27 1) + 1)) m_s m_past m_known m_images m_kept m_notes m_noted w28 w29 w30 w31 m_steps m_rows m_held) rfl dX7_readsItem_176 (fun H locs hP hD hS => ?_)
                refine lv_iconst (v := 1) hx hb dX7_readsItem_177 (by decide) ?_
                obtain ⟨e0, e1, e2, e3, e4, e5⟩ := wq_j6 hG
                subst e0
                subst e1
                subst e2
                subst e3
                subst e4
                subst e5
                exact W.zret hx hb hr (wq_Z1_n (Or.inr rfl)) (fun t ht hW => ⟨⟨_, (), rfl, ⟨rfl, (Or.inr rfl)⟩, by rw [ht]; exact hP, hD⟩, hS.F ht⟩) hS.2.2 dX7_readsItem_178
              · replace hG := wq_t c33 hG
                refine lv_iconst (v := 0) hx hb dX7_readsItem_165 (by decide) ?_
                obtain ⟨e0, e1, e2, e3, e4, e5⟩ := wq_j6 hG
                subst e0
                subst e1
                subst e2
                subst e3
                subst e4
                subst e5
                exact W.zret hx hb hr (wq_Z1_n (Or.inl rfl)) (fun t ht hW => ⟨⟨_, (), rfl, ⟨rfl, (Or.inl rfl)⟩, by rw [ht]; exact hP, hD⟩, hS.F ht⟩) hS.2.2 dX7_readsItem_166
          · replace hG := wq_f c23 hG
            by_cases c34 : m_value = 120
            · replace hG := wq_t c34 hG
              refine lv_lookup (off := 159) (tgt := 199) hx hb dX7_readsItem_40 (by decide) (by rw [c34]; decide) (by decide) ?_
              refine lv_aload_n hx hb dX7_readsItem_199 rfl (lv_at hl 2 rfl) ?_
              refine lv_iconst (v := 4) hx hb dX7_readsItem_200 (by decide) ?_
              refine lv_iconst (v := 4) hx hb dX7_readsItem_201 (by decide) ?_
              refine lv_bipush (v := 21) hx hb dX7_readsItem_202 (by decide) ?_
              refine lv_bipush (v := 60) hx hb dX7_readsItem_204 (by decide) ?_
              obtain ⟨v36, w37, w38, w39, w40, w41, g35, hG⟩ := wq_b6_s hG
              have hFc := va_free (wc := wcM qa cI cJ cZ m_trace m_text m_typed m_told m_draft m_s m_past m_known m_images m_kept m_notes m_noted m_at m_sort m_start m_value m_steps m_rows m_held) hD hS hA [0, 1, 2, 3, 4, 5, 6, 7, 8, 9, 10, 11] rfl
              refine wq_di (D := (dC, dI)) (v := v36) (B := wq_Z1) (wr := []) (w1 := wcM qa cI cJ cZ m_trace m_text m_typed m_told w37 m_s m_past m_known m_images m_kept m_notes m_noted w38 w39 w40 w41 m_steps m_rows m_held) (w2 := wcM qa cI cJ cZ m_trace m_text m_typed m_told w37 m_s m_past m_known m_images m_kept m_notes m_noted w38 w39 w40 w41 m_steps m_rows m_held) (va_runV (As := [.int 4, .int 4, .int 21, .int 60]) (rest := []) ⟨hx, hb, hml, hown, hts⟩ (C_X7_once l dC dI cI cJ cZ qa s.heap.size m_trace m_text m_typed m_told m_draft m_s m_past m_known m_images m_kept m_notes m_noted m_at m_sort m_start m_value m_steps m_rows m_held 4 4 21 60 v36 w37 w38 w39 w40 w41 g35) (cwV 4 hts gX7_readsItem_X7_once rfl rfl rfl hdV_X7_once ⟨Nat.le_of_ble_eq_true rfl, Nat.le_of_ble_eq_true rfl⟩) (wq_pwV hK hP hD hE hS hFc (ci := 7) (q0 := 0) rfl rfl) rfl rfl hl.1 rfl (lv_room (Nat.le_of_ble_eq_true rfl)) dX7_readsItem_206 ⟨Nat.zero_le _, Nat.zero_le _⟩) hP hD hS hFc [0, 1, 2, 3, 4, 5, 6, 7, 8, 9, 10, 11] [] [0, 1, 2, 3, 4, 5, 6, 7, 8, 9, 10, 11] rfl rfl (by decide) (by decide) (by decide) rfl (fun H locs b42 hP hD hS => ?_)
              clear hFc
              obtain ⟨e0, e1, e2, e3, e4, e5⟩ := wq_j6 hG
              subst e0
              subst e1
              subst e2
              subst e3
              subst e4
              subst e5
              exact W.zret hx hb hr (wq_Z1_n b42) (fun t ht hW => ⟨⟨_, (), rfl, ⟨rfl, b42⟩, by rw [ht]; exact hP, hD⟩, hS.F ht⟩) hS.2.2 dX7_readsItem_209
            · replace hG := wq_f c34 hG
              by_cases c43 : m_value = 122
              · replace hG := wq_t c43 hG
                refine lv_lookup (off := 170) (tgt := 210) hx hb dX7_readsItem_40 (by decide) (by rw [c43]; decide) (by decide) ?_
                refine lv_aload_n hx hb dX7_readsItem_210 rfl (lv_at hl 2 rfl) ?_
                refine lv_bipush (v := 8) hx hb dX7_readsItem_211 (by decide) ?_
                refine lv_iconst (v := 5) hx hb dX7_readsItem_213 (by decide) ?_
                refine lv_iconst (v := 1) hx hb dX7_readsItem_214 (by decide) ?_
                refine lv_bipush (v := 96) hx hb dX7_readsItem_215 (by decide) ?_
                obtain ⟨v45, w46, w47, w48, w49, w50, g44, hG⟩ := wq_b6_s hG
                have hFc := va_free (wc := wcM qa cI cJ cZ m_trace m_text m_typed m_told m_draft m_s m_past m_known m_images m_kept m_notes m_noted m_at m_sort m_start m_value m_steps m_rows m_held) hD hS hA [0, 1, 2, 3, 4, 5, 6, 7, 8, 9, 10, 11] rfl
                refine wq_di (D := (dC, dI)) (v := v45) (B := wq_Z1) (wr := []) (w1 := wcM qa cI cJ cZ m_trace m_text m_typed m_told w46 m_s m_past m_known m_images m_kept m_notes m_noted w47 w48 w49 w50 m_steps m_rows m_held) (w2 := wcM qa cI cJ cZ m_trace m_text m_typed m_told w46 m_s m_past m_known m_images m_kept m_notes m_noted w47 w48 w49 w50 m_steps m_rows m_held) (va_runV (As := [.int 8, .int 5, .int 1, .int 96]) (rest := []) ⟨hx, hb, hml, hown, hts⟩ (C_X7_once l dC dI cI cJ cZ qa s.heap.size m_trace m_text m_typed m_told m_draft m_s m_past m_known m_images m_kept m_notes m_noted m_at m_sort m_start m_value m_steps m_rows m_held 8 5 1 96 v45 w46 w47 w48 w49 w50 g44) (cwV 4 hts gX7_readsItem_X7_once rfl rfl rfl hdV_X7_once ⟨Nat.le_of_ble_eq_true rfl, Nat.le_of_ble_eq_true rfl⟩) (wq_pwV hK hP hD hE hS hFc (ci := 7) (q0 := 0) rfl rfl) rfl rfl hl.1 rfl (lv_room (Nat.le_of_ble_eq_true rfl)) dX7_readsItem_217 ⟨Nat.zero_le _, Nat.zero_le _⟩) hP hD hS hFc [0, 1, 2, 3, 4, 5, 6, 7, 8, 9, 10, 11] [] [0, 1, 2, 3, 4, 5, 6, 7, 8, 9, 10, 11] rfl rfl (by decide) (by decide) (by decide) rfl (fun H locs b51 hP hD hS => ?_)
                clear hFc
                obtain ⟨e0, e1, e2, e3, e4, e5⟩ := wq_j6 hG
                subst e0
                subst e1
                subst e2
                subst e3
                subst e4
                subst e5
                exact W.zret hx hb hr (wq_Z1_n b51) (fun t ht hW => ⟨⟨_, (), rfl, ⟨rfl, b51⟩, by rw [ht]; exact hP, hD⟩, hS.F ht⟩) hS.2.2 dX7_readsItem_220
              · replace hG := wq_f c43 hG
                refine lv_lookup (off := 181) (tgt := 221) hx hb dX7_readsItem_40 (by decide) ((lv_osw c4 (by decide)).trans ((lv_osw c3 (by decide)).trans ((lv_osw c14 (by decide)).trans ((lv_osw c23 (by decide)).trans ((lv_osw c34 (by decide)).trans ((lv_osw c43 (by decide)).trans rfl)))))) (by decide) ?_
                refine lv_iconst (v := 0) hx hb dX7_readsItem_221 (by decide) ?_
                obtain ⟨e0, e1, e2, e3, e4, e5⟩ := wq_j6 hG
                subst e0
                subst e1
                subst e2
                subst e3
                subst e4
                subst e5
                exact W.zret hx hb hr (wq_Z1_n (Or.inl rfl)) (fun t ht hW => ⟨⟨_, (), rfl, ⟨rfl, (Or.inl rfl)⟩, by rw [ht]; exact hP, hD⟩, hS.F ht⟩) hS.2.2 dX7_readsItem_222
    · replace hG := wq_t c3 hG
      refine lv_aload_n hx hb dX7_readsItem_23 rfl (lv_at hl 1 rfl) ?_
      refine va_get (D := (dC, dI)) (ci := 7) (v := .ref (qa 3)) (C := RX7) (T := TX7) (N := 19) hx hb hts hinX7 hown hK hP 0 rfl rfl 4 (by decide) k2 (fun _ h9 => h9) rfl dX7_readsItem_24 ?_
      refine lv_iconst (v := 0) hx hb dX7_readsItem_27 (by decide) ?_
      refine wq_iald (D := (dC, dI)) hx hb hK hP 3 0 rfl rfl (wq_lit (by decide)) 0 rfl dX7_readsItem_28 ?_
      refine lv_goto (tgt := 38) hx hb dX7_readsItem_29 (by decide) ?_
      refine lv_istore_n (lv' := [(2, .int (m_draft 0)), (1, .int m_value), (0, .ref (qa 0))]) hx hb dX7_readsItem_38 rfl hl (by decide) rfl (fun ls hl => ?_)
      refine lv_iload_n hx hb dX7_readsItem_39 rfl (lv_at hl 1 rfl) ?_
      by_cases c52 : m_value = 99
      · replace hG := wq_t c52 hG
        refine lv_lookup (off := 149) (tgt := 189) hx hb dX7_readsItem_40 (by decide) (by rw [c52]; decide) (by decide) ?_
        refine lv_aload_n hx hb dX7_readsItem_189 rfl (lv_at hl 2 rfl) ?_
        refine lv_iconst (v := 2) hx hb dX7_readsItem_190 (by decide) ?_
        refine lv_iconst (v := 3) hx hb dX7_readsItem_191 (by decide) ?_
        refine lv_iconst (v := 0) hx hb dX7_readsItem_192 (by decide) ?_
        refine lv_bipush (v := 20) hx hb dX7_readsItem_193 (by decide) ?_
        obtain ⟨v54, w55, w56, w57, w58, w59, g53, hG⟩ := wq_b6_s hG
        have hFc := va_free (wc := wcM qa cI cJ cZ m_trace m_text m_typed m_told m_draft m_s m_past m_known m_images m_kept m_notes m_noted m_at m_sort m_start m_value m_steps m_rows m_held) hD hS hA [0, 1, 2, 3, 4, 5, 6, 7, 8, 9, 10, 11] rfl
        refine wq_di (D := (dC, dI)) (v := v54) (B := wq_Z1) (wr := []) (w1 := wcM qa cI cJ cZ m_trace m_text m_typed m_told w55 m_s m_past m_known m_images m_kept m_notes m_noted w56 w57 w58 w59 m_steps m_rows m_held) (w2 := wcM qa cI cJ cZ m_trace m_text m_typed m_told w55 m_s m_past m_known m_images m_kept m_notes m_noted w56 w57 w58 w59 m_steps m_rows m_held) (va_runV (As := [.int 2, .int 3, .int 0, .int 20]) (rest := []) ⟨hx, hb, hml, hown, hts⟩ (C_X7_once l dC dI cI cJ cZ qa s.heap.size m_trace m_text m_typed m_told m_draft m_s m_past m_known m_images m_kept m_notes m_noted m_at m_sort m_start m_value m_steps m_rows m_held 2 3 0 20 v54 w55 w56 w57 w58 w59 g53) (cwV 4 hts gX7_readsItem_X7_once rfl rfl rfl hdV_X7_once ⟨Nat.le_of_ble_eq_true rfl, Nat.le_of_ble_eq_true rfl⟩) (wq_pwV hK hP hD hE hS hFc (ci := 7) (q0 := 0) rfl rfl) rfl rfl hl.1 rfl (lv_room (Nat.le_of_ble_eq_true rfl)) dX7_readsItem_195 ⟨Nat.zero_le _, Nat.zero_le _⟩) hP hD hS hFc [0, 1, 2, 3, 4, 5, 6, 7, 8, 9, 10, 11] [] [0, 1, 2, 3, 4, 5, 6, 7, 8, 9, 10, 11] rfl rfl (by decide) (by decide) (by decide) rfl (fun H locs b60 hP hD hS => ?_)
        clear hFc
        obtain ⟨e0, e1, e2, e3, e4, e5⟩ := wq_j6 hG
        subst e0
        subst e1
        subst e2
        subst e3
        subst e4
        subst e5
        exact W.zret hx hb hr (wq_Z1_n b60) (fun t ht hW => ⟨⟨_, (), rfl, ⟨rfl, b60⟩, by rw [ht]; exact hP, hD⟩, hS.F ht⟩) hS.2.2 dX7_readsItem_198
      · replace hG := wq_f c52 hG
        refine lv_lookup (off := 60) (tgt := 100) hx hb dX7_readsItem_40 (by decide) (by rw [c3]; decide) (by decide) ?_
        refine lv_iload_n hx hb dX7_readsItem_100 rfl (lv_at hl 0 rfl) ?_
        refine lv_iconst (v := 5) hx hb dX7_readsItem_101 (by decide) ?_
        refine lv_icmp_eq (tgt := 132) hx hb dX7_readsItem_102 (by decide) (fun c62 => ?_) (fun c62 => ?_)
        · replace hG := wq_t c62 hG
          refine lv_iconst (v := 0) hx hb dX7_readsItem_132 (by decide) ?_
          obtain ⟨e0, e1, e2, e3, e4, e5⟩ := wq_j6 hG
          subst e0
          subst e1
          subst e2
          subst e3
          subst e4
          subst e5
          exact W.zret hx hb hr (wq_Z1_n (Or.inl rfl)) (fun t ht hW => ⟨⟨_, (), rfl, ⟨rfl, (Or.inl rfl)⟩, by rw [ht]; exact hP, hD⟩, hS.F ht⟩) hS.2.2 dX7_readsItem_133
        · replace hG := wq_f c62 hG
          refine lv_aload_n hx hb dX7_readsItem_105 rfl (lv_at hl 2 rfl) ?_
          refine lv_bipush (v := 8) hx hb dX7_readsItem_106 (by decide) ?_
          refine lv_iload_n hx hb dX7_readsItem_108 rfl (lv_at hl 0 rfl) ?_
          refine lv_iadd hx hb dX7_readsItem_109 ?_
          refine lv_iconst (v := 0) hx hb dX7_readsItem_110 (by decide) ?_
          refine lv_bipush (v := 40) hx hb dX7_readsItem_111 (by decide) ?_
          obtain ⟨v64, w65, w66, w67, w68, w69, g63, hG⟩ := wq_b6_s hG
          have hFc := va_free (wc := wcM qa cI cJ cZ m_trace m_text m_typed m_told m_draft m_s m_past m_known m_images m_kept m_notes m_noted m_at m_sort m_start m_value m_steps m_rows m_held) hD hS hA [0, 1, 2, 3, 4, 5, 6, 7, 8, 9, 10, 11] rfl
          refine wq_di (D := (dC, dI)) (v := v64) (B := wq_Z1) (wr := []) (w1 := wcM qa cI cJ cZ m_trace m_text m_typed m_told w65 m_s m_past m_known m_images m_kept m_notes m_noted w66 w67 w68 w69 m_steps m_rows m_held) (w2 := wcM qa cI cJ cZ m_trace m_text m_typed m_told w65 m_s m_past m_known m_images m_kept m_notes m_noted w66 w67 w68 w69 m_steps m_rows m_held) (va_runV (As := [.int (8 + (m_draft 0)), .int 0, .int 40]) (rest := []) ⟨hx, hb, hml, hown, hts⟩ (C_X7_number l dC dI cI cJ cZ qa s.heap.size m_trace m_text m_typed m_told m_draft m_s m_past m_known m_images m_kept m_notes m_noted m_at m_sort m_start m_value m_steps m_rows m_held (8 + (m_draft 0)) 0 40 v64 w65 w66 w67 w68 w69 g63) (cwV 3 hts gX7_readsItem_X7_number rfl rfl rfl hdV_X7_number ⟨Nat.le_of_ble_eq_true rfl, Nat.le_of_ble_eq_true rfl⟩) (wq_pwV hK hP hD hE hS hFc (ci := 7) (q0 := 0) rfl rfl) rfl rfl hl.1 rfl (lv_room (Nat.le_of_ble_eq_true rfl)) dX7_readsItem_113 ⟨Nat.zero_le _, Nat.zero_le _⟩) hP hD hS hFc [0, 1, 2, 3, 4, 5, 6, 7, 8, 9, 10, 11] [] [0, 1, 2, 3, 4, 5, 6, 7, 8, 9, 10, 11] rfl rfl (by decide) (by decide) (by decide) rfl (fun H locs b70 hP hD hS => ?_)
          clear hFc
          refine lv_if_eq (tgt := 132) hx hb dX7_readsItem_116 (by decide) (fun c71 => ?_) (fun c71 => ?_)
          · replace hG := wq_t c71 hG
            refine lv_iconst (v := 0) hx hb dX7_readsItem_132 (by decide) ?_
            obtain ⟨e0, e1, e2, e3, e4, e5⟩ := wq_j6 hG
            subst e0
            subst e1
            subst e2
            subst e3
            subst e4
            subst e5
            exact W.zret hx hb hr (wq_Z1_n (Or.inl rfl)) (fun t ht hW => ⟨⟨_, (), rfl, ⟨rfl, (Or.inl rfl)⟩, by rw [ht]; exact hP, hD⟩, hS.F ht⟩) hS.2.2 dX7_readsItem_133
          · replace hG := wq_f c71 hG
            refine lv_aload_n hx hb dX7_readsItem_119 rfl (lv_at hl 2 rfl) ?_
            refine lv_bipush (v := 13) hx hb dX7_readsItem_120 (by decide) ?_
            refine lv_iload_n hx hb dX7_readsItem_122 rfl (lv_at hl 0 rfl) ?_
            refine lv_iadd hx hb dX7_readsItem_123 ?_
            refine lv_iconst (v := 0) hx hb dX7_readsItem_124 (by decide) ?_
            refine lv_iconst (v := 3) hx hb dX7_readsItem_125 (by decide) ?_
            obtain ⟨v73, w74, w75, w76, w77, w78, g72, hG⟩ := wq_b6_s hG
            have hFc := va_free (wc := wcM qa cI cJ cZ m_trace m_text m_typed m_told w65 m_s m_past m_known m_images m_kept m_notes m_noted w66 w67 w68 w69 m_steps m_rows m_held) hD hS hA [0, 1, 2, 3, 4, 5, 6, 7, 8, 9, 10, 11] rfl
            refine wq_di (D := (dC, dI)) (v := v73) (B := wq_Z1) (wr := []) (w1 := wcM qa cI cJ cZ m_trace m_text m_typed m_told w74 m_s m_past m_known m_images m_kept m_notes m_noted w75 w76 w77 w78 m_steps m_rows m_held) (w2 := wcM qa cI cJ cZ m_trace m_text m_typed m_told w74 m_s m_past m_known m_images m_kept m_notes m_noted w75 w76 w77 w78 m_steps m_rows m_held) (va_runV (As := [.int (13 + (m_draft 0)), .int 0, .int 3]) (rest := []) ⟨hx, hb, hml, hown, hts⟩ (C_X7_number l dC dI cI cJ cZ qa H.size m_trace m_text m_typed m_told w65 m_s m_past m_known m_images m_kept m_notes m_noted w66 w67 w68 w69 m_steps m_rows m_held (13 + (m_draft 0)) 0 3 v73 w74 w75 w76 w77 w78 g72) (cwV 3 hts gX7_readsItem_X7_number rfl rfl rfl hdV_X7_number ⟨Nat.le_of_ble_eq_true rfl, Nat.le_of_ble_eq_true rfl⟩) (wq_pwV hK hP hD hE hS hFc (ci := 7) (q0 := 0) rfl rfl) rfl rfl hl.1 rfl (lv_room (Nat.le_of_ble_eq_true rfl)) dX7_readsItem_126 ⟨Nat.zero_le _, Nat.zero_le _⟩) hP hD hS hFc [0, 1, 2, 3, 4, 5, 6, 7, 8, 9, 10, 11] [] [0, 1, 2, 3, 4, 5, 6, 7, 8, 9, 10, 11] rfl rfl (by decide) (by decide) (by decide) rfl (fun H locs b79 hP hD hS => ?_)
            clear hFc
            refine lv_if_ne (tgt := 134) hx hb dX7_readsItem_129 (by decide) (fun c80 => ?_) (fun c80 => ?_)
            · replace hG := wq_f c80 hG
              refine lv_aload_n hx hb dX7_readsItem_134 rfl (lv_at hl 2 rfl) ?_
              refine va_get (D := (dC, dI)) (ci := 7) (v := .ref (qa 3)) (C := RX7) (T := TX7) (N := 19) hx hb hts hinX7 hown hK hP 0 rfl rfl 4 (by decide) k2 (fun _ h9 => h9) rfl dX7_readsItem_135 ?_
              refine lv_iconst (v := 0) hx hb dX7_readsItem_138 (by decide) ?_
              refine lv_dup2_11 hx hb dX7_readsItem_139 rfl rfl ?_
              refine wq_iald (D := (dC, dI)) hx hb hK hP 3 0 rfl rfl (wq_lit (by decide)) 0 rfl dX7_readsItem_140 ?_
              refine lv_iconst (v := 1) hx hb dX7_readsItem_141 (by decide) ?_
              refine lv_iadd hx hb dX7_readsItem_142 ?_
              refine wq_iast (D := (dC, dI)) hx hb hK hP hD hS 3 0 rfl rfl (wq_lit (by decide)) 0 rfl (wcM qa cI cJ cZ m_trace m_text m_typed m_told (upd w74 0 ((w74 0) + 1)) m_s m_past m_known m_images m_kept m_notes m_noted w75 w76 w77 w78 m_steps m_rows m_held) rfl dX7_readsItem_143 (fun H locs hP hD hS => ?_)
              refine lv_iconst (v := 1) hx hb dX7_readsItem_144 (by decide) ?_
              obtain ⟨e0, e1, e2, e3, e4, e5⟩ := wq_j6 hG
              subst e0
              subst e1
              subst e2
              subst e3
              subst e4
              subst e5
              exact W.zret hx hb hr (wq_Z1_n (Or.inr rfl)) (fun t ht hW => ⟨⟨_, (), rfl, ⟨rfl, (Or.inr rfl)⟩, by rw [ht]; exact hP, hD⟩, hS.F ht⟩) hS.2.2 dX7_readsItem_145
            · replace hG := wq_t c80 hG
              refine lv_iconst (v := 0) hx hb dX7_readsItem_132 (by decide) ?_
              obtain ⟨e0, e1, e2, e3, e4, e5⟩ := wq_j6 hG
              subst e0
              subst e1
              subst e2
              subst e3
              subst e4
              subst e5
              exact W.zret hx hb hr (wq_Z1_n (Or.inl rfl)) (fun t ht hW => ⟨⟨_, (), rfl, ⟨rfl, (Or.inl rfl)⟩, by rw [ht]; exact hP, hD⟩, hS.F ht⟩) hS.2.2 dX7_readsItem_133

theorem hdV_X7_reads : yX7_reads.cls = RX7 ∧ yX7_reads.cls ≠ "java/lang/invoke/MethodHandle" ∧ yX7_reads.cls ≠ "java/lang/invoke/VarHandle" ∧ (parseMethodDescriptor yX7_reads.desc).map (fun d => d.parameters.length) = some 0 := by decide +kernel
set_option maxHeartbeats 4000000 in
set_option maxRecDepth 100000 in
theorem C_X7_reads (l : Launch) (dC : Nat → ClassId) (dI : Nat → Nat → Nat) (cI cJ cZ : ClassId) (qa : Nat → Nat) (sz : Nat) (m_trace : Int64) (m_text : Nat → Int32) (m_typed : Int32) (m_told : Nat → Int32) (m_draft : Nat → Int32) (m_s : Nat → Int32) (m_past : Nat → Int32) (m_known : Int32) (m_images : Nat → Int32) (m_kept : Nat → Int32) (m_notes : Nat → Int32) (m_noted : Int32) (m_at : Int32) (m_sort : Int32) (m_start : Int32) (m_value : Int32) (m_steps : Nat → Int32) (m_rows : Nat → Int32) (m_held : Nat → Int32) (r0 : Int32) (r_m_draft : Nat → Int32) (r_m_at : Int32) (r_m_sort : Int32) (r_m_start : Int32) (r_m_value : Int32) (hG : gX7_reads m_text m_typed m_draft m_at m_sort m_start m_value = some (r0, r_m_draft, r_m_at, r_m_sort, r_m_start, r_m_value)) : Met l yX7_reads wsX7_reads ({ frames := 6, cells := 0, slots := 0, locals := 132 } : Room) (va_Pc [.ref (qa 0)] (wq_pw (dC, dI) [(cI, .int), (cJ, .long), (cZ, .boolean)] (wcM qa cI cJ cZ m_trace m_text m_typed m_told m_draft m_s m_past m_known m_images m_kept m_notes m_noted m_at m_sort m_start m_value m_steps m_rows m_held) sz)) (wq_Wi (dC, dI) r0 wq_Z1 (wcM qa cI cJ cZ m_trace m_text m_typed m_told r_m_draft m_s m_past m_known m_images m_kept m_notes m_noted r_m_at r_m_sort r_m_start r_m_value m_steps m_rows m_held) (va_A (wcM qa cI cJ cZ m_trace m_text m_typed m_told m_draft m_s m_past m_known m_images m_kept m_notes m_noted m_at m_sort m_start m_value m_steps m_rows m_held) sz)) 0 0 (va_A (wcM qa cI cJ cZ m_trace m_text m_typed m_told m_draft m_s m_past m_known m_images m_kept m_notes m_noted m_at m_sort m_start m_value m_steps m_rows m_held) sz) := by
  refine Met.ofW (cc := cX7_reads) (maxL := 2) (ret := (some .boolean)) (by decide) rfl ?_
  intro p e s m args below meth c s₁ B hml hv
  obtain ⟨rfl, hsz, hP, hK, hD0, hE⟩ := hv
  have hx := B.exec
  have hb := B.bytes
  have hr := B.returns
  have hts := atoms_spec (ws := wsX7_reads) B.pre
  have hown : s.vm.findClass RX7 = some m.cls := findClass_of_methodNamed B.named
  have hlocks := B.notSynchronized
  subst hsz
  have hD := hD0.self (sz := s.heap.size)
  generalize hAe : va_A (wcM qa cI cJ cZ m_trace m_text m_typed m_told m_draft m_s m_past m_known m_images m_kept m_notes m_noted m_at m_sort m_start m_value m_steps m_rows m_held) s.heap.size = A at hD hE ⊢
  have hA : ∀ q : Nat, s.heap.size ≤ q → A q := fun q h => by rw [← hAe]; exact Or.inr h
  have hS : va_S A s.heap s.heap [] := va_S.rf
  have hinX7 : ∀ w ∈ u_ws RX7 TX7 19, w ∈ wsX7_reads := by decide +kernel
  have k1 := hts (.fieldLink RX7 76 "DoorMorningsModel" "sort" "I") (by decide +kernel)
  have k2 := hts (.fieldLink RX7 16 "DoorMorningsModel" "draft" "[I") (by decide +kernel)
  have k3 := hts (.fieldLink RX7 59 "DoorMorningsModel" "at" "I") (by decide +kernel)
  have hl := lv_entry ([.ref (qa 0)]) (n := 2) (Nat.le_of_ble_eq_true rfl)
  rw [lg_entry_eq]
  generalize (lg_sl ([.ref (qa 0)]) ++ List.replicate (2 - (lg_sl ([.ref (qa 0)])).length) Slot.unset).toArray = ls at hl ⊢
  have hl : lv_has ls 2 [(0, .ref (qa 0))] := hl
  have hL60 : ∀  (n : Nat) (z_m_draft : Nat → Int32) (z_m_at : Int32) (z_m_sort : Int32) (z_m_start : Int32) (z_m_value : Int32) (H : Heap) (locs : List Loc) (ls : Array Slot), gX7_reads_L60 m_text m_typed n z_m_draft z_m_at z_m_sort z_m_start z_m_value = some (r0, r_m_draft, r_m_at, r_m_sort, r_m_start, r_m_value) → va_P (dC, dI) vwCl (wcM qa cI cJ cZ m_trace m_text m_typed m_told z_m_draft m_s m_past m_known m_images m_kept m_notes m_noted z_m_at z_m_sort z_m_start z_m_value m_steps m_rows m_held) H → va_D A (wcM qa cI cJ cZ m_trace m_text m_typed m_told z_m_draft m_s m_past m_known m_images m_kept m_notes m_noted z_m_at z_m_sort z_m_start z_m_value m_steps m_rows m_held) → va_S A s.heap H locs → lv_has ls 2 [(0, .ref (qa 0))] → W p l e (headSpec wsX7_reads ({ frames := 6, cells := 0, slots := 0, locals := 132 } : Room)).room s m ([.ref (qa 0)] : List Value).toArray below meth c H locs 0 0 (MQ below (wq_Wi (dC, dI) r0 wq_Z1 (wcM qa cI cJ cZ m_trace m_text m_typed m_told r_m_draft m_s m_past m_known m_images m_kept m_notes m_noted r_m_at r_m_sort r_m_start r_m_value m_steps m_rows m_held) A) ([.ref (qa 0)] : List Value).toArray s 0 0 A) (F0 m 60 ls []) := by
    intro  n
    induction n with
    | zero =>
      intro z_m_draft z_m_at z_m_sort z_m_start z_m_value H locs ls hG
      exact absurd (show (none : Option (Int32 × (Nat → Int32) × Int32 × Int32 × Int32 × Int32)) = some (r0, r_m_draft, r_m_at, r_m_sort, r_m_start, r_m_value) from hG) (by intro h9; cases h9)
    | succ n ih60 =>
      intro z_m_draft z_m_at z_m_sort z_m_start z_m_value H locs ls hG hP hD hS hl
      rw [gX7_reads_L60] at hG
      refine lv_aload_n hx hb dX7_reads_60 rfl (lv_at hl 0 rfl) ?_
      refine va_get (D := (dC, dI)) (ci := 7) (v := .int z_m_sort) (C := RX7) (T := TX7) (N := 19) hx hb hts hinX7 hown hK hP 0 rfl rfl 13 (by decide) k1 (fun _ h9 => h9) rfl dX7_reads_61 ?_
      refine lv_if_eq (tgt := 108) hx hb dX7_reads_64 (by decide) (fun c1 => ?_) (fun c1 => ?_)
      · replace hG := wq_t c1 hG
        refine lv_iconst (v := 1) hx hb dX7_reads_108 (by decide) ?_
        obtain ⟨e0, e1, e2, e3, e4, e5⟩ := wq_j6 hG
        subst e0
        subst e1
        subst e2
        subst e3
        subst e4
        subst e5
        exact W.zret hx hb hr (wq_Z1_n (Or.inr rfl)) (fun t ht hW => ⟨⟨_, (), rfl, ⟨rfl, (Or.inr rfl)⟩, by rw [ht]; exact hP, hD⟩, hS.F ht⟩) hS.2.2 dX7_reads_109
      · replace hG := wq_f c1 hG
        refine lv_aload_n hx hb dX7_reads_67 rfl (lv_at hl 0 rfl) ?_
        obtain ⟨v3, w4, w5, w6, w7, w8, g2, hG⟩ := wq_b6_s hG
        have hFc := va_free (wc := wcM qa cI cJ cZ m_trace m_text m_typed m_told z_m_draft m_s m_past m_known m_images m_kept m_notes m_noted z_m_at z_m_sort z_m_start z_m_value m_steps m_rows m_held) hD hS hA [0, 1, 2, 3, 4, 5, 6, 7, 8, 9, 10, 11] rfl
        refine wq_di (D := (dC, dI)) (v := v3) (B := wq_Z1) (wr := []) (w1 := wcM qa cI cJ cZ m_trace m_text m_typed m_told w4 m_s m_past m_known m_images m_kept m_notes m_noted w5 w6 w7 w8 m_steps m_rows m_held) (w2 := wcM qa cI cJ cZ m_trace m_text m_typed m_told w4 m_s m_past m_known m_images m_kept m_notes m_noted w5 w6 w7 w8 m_steps m_rows m_held) (va_runV (As := []) (rest := []) ⟨hx, hb, hml, hown, hts⟩ (C_X7_readsItem l dC dI cI cJ cZ qa H.size m_trace m_text m_typed m_told z_m_draft m_s m_past m_known m_images m_kept m_notes m_noted z_m_at z_m_sort z_m_start z_m_value m_steps m_rows m_held  v3 w4 w5 w6 w7 w8 g2) (cwV 0 hts gX7_reads_X7_readsItem rfl rfl rfl hdV_X7_readsItem ⟨Nat.le_of_ble_eq_true rfl, Nat.le_of_ble_eq_true rfl⟩) (wq_pwV hK hP hD hE hS hFc (ci := 7) (q0 := 0) rfl rfl) rfl rfl hl.1 rfl (lv_room (Nat.le_of_ble_eq_true rfl)) dX7_reads_68 ⟨Nat.zero_le _, Nat.zero_le _⟩) hP hD hS hFc [0, 1, 2, 3, 4, 5, 6, 7, 8, 9, 10, 11] [] [0, 1, 2, 3, 4, 5, 6, 7, 8, 9, 10, 11] rfl rfl (by decide) (by decide) (by decide) rfl (fun H locs b9 hP hD hS => ?_)
        clear hFc
        refine lv_if_ne (tgt := 76) hx hb dX7_reads_71 (by decide) (fun c10 => ?_) (fun c10 => ?_)
        · replace hG := wq_f c10 hG
          refine lv_aload_n hx hb dX7_reads_76 rfl (lv_at hl 0 rfl) ?_
          obtain ⟨w12, w13, w14, w15, g11, hG⟩ := wq_b4_s hG
          have hFc := va_free (wc := wcM qa cI cJ cZ m_trace m_text m_typed m_told w4 m_s m_past m_known m_images m_kept m_notes m_noted w5 w6 w7 w8 m_steps m_rows m_held) hD hS hA [0, 1, 2, 3, 4, 5, 6, 7, 8, 9, 10, 11] rfl
          refine wq_dv (D := (dC, dI)) (wr := []) (w1 := wcM qa cI cJ cZ m_trace m_text m_typed m_told w4 m_s m_past m_known m_images m_kept m_notes m_noted w12 w13 w14 w15 m_steps m_rows m_held) (w2 := wcM qa cI cJ cZ m_trace m_text m_typed m_told w4 m_s m_past m_known m_images m_kept m_notes m_noted w12 w13 w14 w15 m_steps m_rows m_held) (va_runV (As := []) (rest := []) ⟨hx, hb, hml, hown, hts⟩ (C_X7_token l dC dI cI cJ cZ qa H.size m_trace m_text m_typed m_told w4 m_s m_past m_known m_images m_kept m_notes m_noted w5 w6 w7 w8 m_steps m_rows m_held  w12 w13 w14 w15 g11) (cwV 0 hts gX7_reads_X7_token rfl rfl rfl hdV_X7_token ⟨Nat.le_of_ble_eq_true rfl, Nat.le_of_ble_eq_true rfl⟩) (wq_pwV hK hP hD hE hS hFc (ci := 7) (q0 := 0) rfl rfl) rfl rfl hl.1 rfl (lv_room (Nat.le_of_ble_eq_true rfl)) dX7_reads_77 ⟨Nat.zero_le _, Nat.zero_le _⟩) hP hD hS hFc [0, 1, 2, 3, 4, 5, 6, 7, 8, 9, 10, 11] [] [0, 1, 2, 3, 4, 5, 6, 7, 8, 9, 10, 11] rfl rfl (by decide) (by decide) (by decide) rfl (fun H locs hP hD hS => ?_)
          clear hFc
          refine lv_aload_n hx hb dX7_reads_80 rfl (lv_at hl 0 rfl) ?_
          refine va_get (D := (dC, dI)) (ci := 7) (v := .int w13) (C := RX7) (T := TX7) (N := 19) hx hb hts hinX7 hown hK hP 0 rfl rfl 13 (by decide) k1 (fun _ h9 => h9) rfl dX7_reads_81 ?_
          refine lv_iconst (v := 3) hx hb dX7_reads_84 (by decide) ?_
          refine lv_icmp_eq (tgt := 90) hx hb dX7_reads_85 (by decide) (fun c16 => ?_) (fun c16 => ?_)
          · replace hG := wq_t c16 hG
            refine lv_aload_n hx hb dX7_reads_90 rfl (lv_at hl 0 rfl) ?_
            refine va_get (D := (dC, dI)) (ci := 7) (v := .ref (qa 3)) (C := RX7) (T := TX7) (N := 19) hx hb hts hinX7 hown hK hP 0 rfl rfl 4 (by decide) k2 (fun _ h9 => h9) rfl dX7_reads_91 ?_
            refine lv_bipush (v := 6) hx hb dX7_reads_94 (by decide) ?_
            refine lv_dup2_11 hx hb dX7_reads_96 rfl rfl ?_
            refine wq_iald (D := (dC, dI)) hx hb hK hP 3 0 rfl rfl (wq_lit (by decide)) 6 rfl dX7_reads_97 ?_
            refine lv_iconst (v := 1) hx hb dX7_reads_98 (by decide) ?_
            refine lv_iadd hx hb dX7_reads_99 ?_
            refine wq_iast (D := (dC, dI)) hx hb hK hP hD hS 3 0 rfl rfl (wq_lit (by decide)) 6 rfl (wcM qa cI cJ cZ m_trace m_text m_typed m_told (upd w4 6 ((w4 6) + 1)) m_s m_past m_known m_images m_kept m_notes m_noted w12 w13 w14 w15 m_steps m_rows m_held) rfl dX7_reads_100 (fun H locs hP hD hS => ?_)
            refine lv_aload_n hx hb dX7_reads_101 rfl (lv_at hl 0 rfl) ?_
            obtain ⟨w18, w19, w20, w21, g17, hG⟩ := wq_b4_s hG
            have hFc := va_free (wc := wcM qa cI cJ cZ m_trace m_text m_typed m_told (upd w4 6 ((w4 6) + 1)) m_s m_past m_known m_images m_kept m_notes m_noted w12 w13 w14 w15 m_steps m_rows m_held) hD hS hA [0, 1, 2, 3, 4, 5, 6, 7, 8, 9, 10, 11] rfl
            refine wq_dv (D := (dC, dI)) (wr := []) (w1 := wcM qa cI cJ cZ m_trace m_text m_typed m_told (upd w4 6 ((w4 6) + 1)) m_s m_past m_known m_images m_kept m_notes m_noted w18 w19 w20 w21 m_steps m_rows m_held) (w2 := wcM qa cI cJ cZ m_trace m_text m_typed m_told (upd w4 6 ((w4 6) + 1)) m_s m_past m_known m_images m_kept m_notes m_noted w18 w19 w20 w21 m_steps m_rows m_held) (va_runV (As := []) (rest := []) ⟨hx, hb, hml, hown, hts⟩ (C_X7_token l dC dI cI cJ cZ qa H.size m_trace m_text m_typed m_told (upd w4 6 ((w4 6) + 1)) m_s m_past m_known m_images m_kept m_notes m_noted w12 w13 w14 w15 m_steps m_rows m_held  w18 w19 w20 w21 g17) (cwV 0 hts gX7_reads_X7_token rfl rfl rfl hdV_X7_token ⟨Nat.le_of_ble_eq_true rfl, Nat.le_of_ble_eq_true rfl⟩) (wq_pwV hK hP hD hE hS hFc (ci := 7) (q0 := 0) rfl rfl) rfl rfl hl.1 rfl (lv_room (Nat.le_of_ble_eq_true rfl)) dX7_reads_102 ⟨Nat.zero_le _, Nat.zero_le _⟩) hP hD hS hFc [0, 1, 2, 3, 4, 5, 6, 7, 8, 9, 10, 11] [] [0, 1, 2, 3, 4, 5, 6, 7, 8, 9, 10, 11] rfl rfl (by decide) (by decide) (by decide) rfl (fun H locs hP hD hS => ?_)
            clear hFc
            refine lv_goto (tgt := 60) hx hb dX7_reads_105 (by decide) ?_
            exact ih60 (upd w4 6 ((w4 6) + 1)) w18 w19 w20 w21 _ _ _ hG hP hD hS (lv_sub hl [0] rfl)
          · replace hG := wq_f c16 hG
            refine lv_iconst (v := 0) hx hb dX7_reads_88 (by decide) ?_
            obtain ⟨e0, e1, e2, e3, e4, e5⟩ := wq_j6 hG
            subst e0
            subst e1
            subst e2
            subst e3
            subst e4
            subst e5
            exact W.zret hx hb hr (wq_Z1_n (Or.inl rfl)) (fun t ht hW => ⟨⟨_, (), rfl, ⟨rfl, (Or.inl rfl)⟩, by rw [ht]; exact hP, hD⟩, hS.F ht⟩) hS.2.2 dX7_reads_89
        · replace hG := wq_t c10 hG
          refine lv_iconst (v := 0) hx hb dX7_reads_74 (by decide) ?_
          obtain ⟨e0, e1, e2, e3, e4, e5⟩ := wq_j6 hG
          subst e0
          subst e1
          subst e2
          subst e3
          subst e4
          subst e5
          exact W.zret hx hb hr (wq_Z1_n (Or.inl rfl)) (fun t ht hW => ⟨⟨_, (), rfl, ⟨rfl, (Or.inl rfl)⟩, by rw [ht]; exact hP, hD⟩, hS.F ht⟩) hS.2.2 dX7_reads_75
  have hL2 : ∀ (z_m_at : Int32) (z_m_sort : Int32) (z_m_start : Int32) (z_m_value : Int32) (n : Nat) (x1 : Int32) (z_m_draft : Nat → Int32) (H : Heap) (locs : List Loc) (ls : Array Slot), gX7_reads_L2 m_text m_typed z_m_at z_m_sort z_m_start z_m_value n x1 z_m_draft = some (r0, r_m_draft, r_m_at, r_m_sort, r_m_start, r_m_value) → va_P (dC, dI) vwCl (wcM qa cI cJ cZ m_trace m_text m_typed m_told z_m_draft m_s m_past m_known m_images m_kept m_notes m_noted z_m_at z_m_sort z_m_start z_m_value m_steps m_rows m_held) H → va_D A (wcM qa cI cJ cZ m_trace m_text m_typed m_told z_m_draft m_s m_past m_known m_images m_kept m_notes m_noted z_m_at z_m_sort z_m_start z_m_value m_steps m_rows m_held) → va_S A s.heap H locs → lv_has ls 2 [(0, .ref (qa 0)), (1, .int x1)] → W p l e (headSpec wsX7_reads ({ frames := 6, cells := 0, slots := 0, locals := 132 } : Room)).room s m ([.ref (qa 0)] : List Value).toArray below meth c H locs 0 0 (MQ below (wq_Wi (dC, dI) r0 wq_Z1 (wcM qa cI cJ cZ m_trace m_text m_typed m_told r_m_draft m_s m_past m_known m_images m_kept m_notes m_noted r_m_at r_m_sort r_m_start r_m_value m_steps m_rows m_held) A) ([.ref (qa 0)] : List Value).toArray s 0 0 A) (F0 m 2 ls []) := by
    intro z_m_at z_m_sort z_m_start z_m_value n
    induction n with
    | zero =>
      intro x1 z_m_draft H locs ls hG
      exact absurd (show (none : Option (Int32 × (Nat → Int32) × Int32 × Int32 × Int32 × Int32)) = some (r0, r_m_draft, r_m_at, r_m_sort, r_m_start, r_m_value) from hG) (by intro h9; cases h9)
    | succ n ih2 =>
      intro x1 z_m_draft H locs ls hG hP hD hS hl
      rw [gX7_reads_L2] at hG
      refine lv_iload_n hx hb dX7_reads_2 rfl (lv_at hl 1 rfl) ?_
      refine lv_bipush (v := 22) hx hb dX7_reads_3 (by decide) ?_
      refine lv_icmp_ge (tgt := 21) hx hb dX7_reads_5 (by decide) (fun c22 => ?_) (fun c22 => ?_)
      · replace hG := wq_t c22 hG
        refine lv_aload_n hx hb dX7_reads_21 rfl (lv_at hl 0 rfl) ?_
        refine va_get (D := (dC, dI)) (ci := 7) (v := .ref (qa 3)) (C := RX7) (T := TX7) (N := 19) hx hb hts hinX7 hown hK hP 0 rfl rfl 4 (by decide) k2 (fun _ h9 => h9) rfl dX7_reads_22 ?_
        refine lv_iconst (v := 2) hx hb dX7_reads_25 (by decide) ?_
        refine lv_iconst (v := 2) hx hb dX7_reads_26 (by decide) ?_
        refine wq_iast (D := (dC, dI)) hx hb hK hP hD hS 3 0 rfl rfl (wq_lit (by decide)) 2 rfl (wcM qa cI cJ cZ m_trace m_text m_typed m_told (upd z_m_draft 2 2) m_s m_past m_known m_images m_kept m_notes m_noted z_m_at z_m_sort z_m_start z_m_value m_steps m_rows m_held) rfl dX7_reads_27 (fun H locs hP hD hS => ?_)
        refine lv_aload_n hx hb dX7_reads_28 rfl (lv_at hl 0 rfl) ?_
        refine va_get (D := (dC, dI)) (ci := 7) (v := .ref (qa 3)) (C := RX7) (T := TX7) (N := 19) hx hb hts hinX7 hown hK hP 0 rfl rfl 4 (by decide) k2 (fun _ h9 => h9) rfl dX7_reads_29 ?_
        refine lv_iconst (v := 3) hx hb dX7_reads_32 (by decide) ?_
        refine lv_iconst (v := 5) hx hb dX7_reads_33 (by decide) ?_
        refine wq_iast (D := (dC, dI)) hx hb hK hP hD hS 3 0 rfl rfl (wq_lit (by decide)) 3 rfl (wcM qa cI cJ cZ m_trace m_text m_typed m_told (upd (upd z_m_draft 2 2) 3 5) m_s m_past m_known m_images m_kept m_notes m_noted z_m_at z_m_sort z_m_start z_m_value m_steps m_rows m_held) rfl dX7_reads_34 (fun H locs hP hD hS => ?_)
        refine lv_aload_n hx hb dX7_reads_35 rfl (lv_at hl 0 rfl) ?_
        refine va_get (D := (dC, dI)) (ci := 7) (v := .ref (qa 3)) (C := RX7) (T := TX7) (N := 19) hx hb hts hinX7 hown hK hP 0 rfl rfl 4 (by decide) k2 (fun _ h9 => h9) rfl dX7_reads_36 ?_
        refine lv_iconst (v := 4) hx hb dX7_reads_39 (by decide) ?_
        refine lv_bipush (v := 25) hx hb dX7_reads_40 (by decide) ?_
        refine wq_iast (D := (dC, dI)) hx hb hK hP hD hS 3 0 rfl rfl (wq_lit (by decide)) 4 rfl (wcM qa cI cJ cZ m_trace m_text m_typed m_told (upd (upd (upd z_m_draft 2 2) 3 5) 4 25) m_s m_past m_known m_images m_kept m_notes m_noted z_m_at z_m_sort z_m_start z_m_value m_steps m_rows m_held) rfl dX7_reads_42 (fun H locs hP hD hS => ?_)
        refine lv_aload_n hx hb dX7_reads_43 rfl (lv_at hl 0 rfl) ?_
        refine va_get (D := (dC, dI)) (ci := 7) (v := .ref (qa 3)) (C := RX7) (T := TX7) (N := 19) hx hb hts hinX7 hown hK hP 0 rfl rfl 4 (by decide) k2 (fun _ h9 => h9) rfl dX7_reads_44 ?_
        refine lv_iconst (v := 5) hx hb dX7_reads_47 (by decide) ?_
        refine lv_bipush (v := 48) hx hb dX7_reads_48 (by decide) ?_
        refine wq_iast (D := (dC, dI)) hx hb hK hP hD hS 3 0 rfl rfl (wq_lit (by decide)) 5 rfl (wcM qa cI cJ cZ m_trace m_text m_typed m_told (upd (upd (upd (upd z_m_draft 2 2) 3 5) 4 25) 5 48) m_s m_past m_known m_images m_kept m_notes m_noted z_m_at z_m_sort z_m_start z_m_value m_steps m_rows m_held) rfl dX7_reads_50 (fun H locs hP hD hS => ?_)
        refine lv_aload_n hx hb dX7_reads_51 rfl (lv_at hl 0 rfl) ?_
        refine lv_iconst (v := 0) hx hb dX7_reads_52 (by decide) ?_
        refine va_put (D := (dC, dI)) (ci := 7) (v := .int 0) (ty := tyX7 12) (C := RX7) (T := TX7) (N := 19) hx hb hts hinX7 tyX7 tyX7_ok nmX7 hown hK hP hD hS 0 rfl rfl 12 (by decide) k3 (fun _ h9 => h9) rfl (tyX7_ok 12 (by decide)) rfl rfl (Nat.le_of_ble_eq_true rfl) dX7_reads_53 (fun H locs hP hD hS => ?_)
        replace hP : va_P (dC, dI) vwCl (wcM qa cI cJ cZ m_trace m_text m_typed m_told (upd (upd (upd (upd z_m_draft 2 2) 3 5) 4 25) 5 48) m_s m_past m_known m_images m_kept m_notes m_noted 0 z_m_sort z_m_start z_m_value m_steps m_rows m_held) H := hP
        replace hD : va_D A (wcM qa cI cJ cZ m_trace m_text m_typed m_told (upd (upd (upd (upd z_m_draft 2 2) 3 5) 4 25) 5 48) m_s m_past m_known m_images m_kept m_notes m_noted 0 z_m_sort z_m_start z_m_value m_steps m_rows m_held) := hD
        refine lv_aload_n hx hb dX7_reads_56 rfl (lv_at hl 0 rfl) ?_
        obtain ⟨w24, w25, w26, w27, g23, hG⟩ := wq_b4_s hG
        have hFc := va_free (wc := wcM qa cI cJ cZ m_trace m_text m_typed m_told (upd (upd (upd (upd z_m_draft 2 2) 3 5) 4 25) 5 48) m_s m_past m_known m_images m_kept m_notes m_noted 0 z_m_sort z_m_start z_m_value m_steps m_rows m_held) hD hS hA [0, 1, 2, 3, 4, 5, 6, 7, 8, 9, 10, 11] rfl
        refine wq_dv (D := (dC, dI)) (wr := []) (w1 := wcM qa cI cJ cZ m_trace m_text m_typed m_told (upd (upd (upd (upd z_m_draft 2 2) 3 5) 4 25) 5 48) m_s m_past m_known m_images m_kept m_notes m_noted w24 w25 w26 w27 m_steps m_rows m_held) (w2 := wcM qa cI cJ cZ m_trace m_text m_typed m_told (upd (upd (upd (upd z_m_draft 2 2) 3 5) 4 25) 5 48) m_s m_past m_known m_images m_kept m_notes m_noted w24 w25 w26 w27 m_steps m_rows m_held) (va_runV (As := []) (rest := []) ⟨hx, hb, hml, hown, hts⟩ (C_X7_token l dC dI cI cJ cZ qa H.size m_trace m_text m_typed m_told (upd (upd (upd (upd z_m_draft 2 2) 3 5) 4 25) 5 48) m_s m_past m_known m_images m_kept m_notes m_noted 0 z_m_sort z_m_start z_m_value m_steps m_rows m_held  w24 w25 w26 w27 g23) (cwV 0 hts gX7_reads_X7_token rfl rfl rfl hdV_X7_token ⟨Nat.le_of_ble_eq_true rfl, Nat.le_of_ble_eq_true rfl⟩) (wq_pwV hK hP hD hE hS hFc (ci := 7) (q0 := 0) rfl rfl) rfl rfl hl.1 rfl (lv_room (Nat.le_of_ble_eq_true rfl)) dX7_reads_57 ⟨Nat.zero_le _, Nat.zero_le _⟩) hP hD hS hFc [0, 1, 2, 3, 4, 5, 6, 7, 8, 9, 10, 11] [] [0, 1, 2, 3, 4, 5, 6, 7, 8, 9, 10, 11] rfl rfl (by decide) (by decide) (by decide) rfl (fun H locs hP hD hS => ?_)
        clear hFc
        exact hL60  1000 (upd (upd (upd (upd z_m_draft 2 2) 3 5) 4 25) 5 48) w24 w25 w26 w27 _ _ _ hG hP hD hS (lv_sub hl [0] rfl)
      · replace hG := wq_f c22 hG
        refine lv_aload_n hx hb dX7_reads_8 rfl (lv_at hl 0 rfl) ?_
        refine va_get (D := (dC, dI)) (ci := 7) (v := .ref (qa 3)) (C := RX7) (T := TX7) (N := 19) hx hb hts hinX7 hown hK hP 0 rfl rfl 4 (by decide) k2 (fun _ h9 => h9) rfl dX7_reads_9 ?_
        refine lv_iload_n hx hb dX7_reads_12 rfl (lv_at hl 1 rfl) ?_
        refine lv_iconst (v := 0) hx hb dX7_reads_13 (by decide) ?_
        obtain ⟨h28, hG⟩ := wq_chk_s hG
        refine wq_iast (D := (dC, dI)) hx hb hK hP hD hS 3 0 rfl rfl h28 (Int32.toNatClampNeg x1) rfl (wcM qa cI cJ cZ m_trace m_text m_typed m_told (upd z_m_draft (Int32.toNatClampNeg x1) 0) m_s m_past m_known m_images m_kept m_notes m_noted z_m_at z_m_sort z_m_start z_m_value m_steps m_rows m_held) rfl dX7_reads_14 (fun H locs hP hD hS => ?_)
        refine lv_iinc (v := (x1 + 1)) (lv' := [(1, .int (x1 + 1)), (0, .ref (qa 0))]) hx hb dX7_reads_15 hl (k := 1) rfl rfl (by decide) rfl (fun ls hl => ?_)
        refine lv_goto (tgt := 2) hx hb dX7_reads_18 (by decide) ?_
        exact ih2 (x1 + 1) (upd z_m_draft (Int32.toNatClampNeg x1) 0) _ _ _ hG hP hD hS (lv_sub hl [1, 0] rfl)
  unfold gX7_reads at hG
  refine lv_iconst (v := 0) hx hb dX7_reads_0 (by decide) ?_
  refine lv_istore_n (lv' := [(1, .int 0), (0, .ref (qa 0))]) hx hb dX7_reads_1 rfl hl (by decide) rfl (fun ls hl => ?_)
  exact hL2 m_at m_sort m_start m_value 1000 0 m_draft _ _ _ hG hP hD hS (lv_sub hl [1, 0] rfl)

theorem hdV_X7_begins : yX7_begins.cls = RX7 ∧ yX7_begins.cls ≠ "java/lang/invoke/MethodHandle" ∧ yX7_begins.cls ≠ "java/lang/invoke/VarHandle" ∧ (parseMethodDescriptor yX7_begins.desc).map (fun d => d.parameters.length) = some 0 := by decide +kernel
set_option maxHeartbeats 4000000 in
set_option maxRecDepth 100000 in
theorem C_X7_begins (l : Launch) (dC : Nat → ClassId) (dI : Nat → Nat → Nat) (cI cJ cZ : ClassId) (qa : Nat → Nat) (sz : Nat) (m_trace : Int64) (m_text : Nat → Int32) (m_typed : Int32) (m_told : Nat → Int32) (m_draft : Nat → Int32) (m_s : Nat → Int32) (m_past : Nat → Int32) (m_known : Int32) (m_images : Nat → Int32) (m_kept : Nat → Int32) (m_notes : Nat → Int32) (m_noted : Int32) (m_at : Int32) (m_sort : Int32) (m_start : Int32) (m_value : Int32) (m_steps : Nat → Int32) (m_rows : Nat → Int32) (m_held : Nat → Int32) (r_m_told : Nat → Int32) (r_m_s : Nat → Int32) (r_m_known : Int32) (r_m_kept : Nat → Int32) (r_m_noted : Int32) (hG : gX7_begins m_told m_draft m_s m_known m_kept m_noted = some (r_m_told, r_m_s, r_m_known, r_m_kept, r_m_noted)) : Met l yX7_begins wsX7_begins ({ frames := 0, cells := 0, slots := 0, locals := 0 } : Room) (va_Pc [.ref (qa 0)] (wq_pw (dC, dI) [(cI, .int), (cJ, .long), (cZ, .boolean)] (wcM qa cI cJ cZ m_trace m_text m_typed m_told m_draft m_s m_past m_known m_images m_kept m_notes m_noted m_at m_sort m_start m_value m_steps m_rows m_held) sz)) (wq_Wv (dC, dI) (wcM qa cI cJ cZ m_trace m_text m_typed r_m_told m_draft r_m_s m_past r_m_known m_images r_m_kept m_notes r_m_noted m_at m_sort m_start m_value m_steps m_rows m_held) (va_A (wcM qa cI cJ cZ m_trace m_text m_typed m_told m_draft m_s m_past m_known m_images m_kept m_notes m_noted m_at m_sort m_start m_value m_steps m_rows m_held) sz)) 0 0 (va_A (wcM qa cI cJ cZ m_trace m_text m_typed m_told m_draft m_s m_past m_known m_images m_kept m_notes m_noted m_at m_sort m_start m_value m_steps m_rows m_held) sz) := by
  refine Met.ofW (cc := cX7_begins) (maxL := 2) (ret := none) (by decide) rfl ?_
  intro p e s m args below meth c s₁ B hml hv
  obtain ⟨rfl, hsz, hP, hK, hD0, hE⟩ := hv
  have hx := B.exec
  have hb := B.bytes
  have hr := B.returns
  have hts := atoms_spec (ws := wsX7_begins) B.pre
  have hown : s.vm.findClass RX7 = some m.cls := findClass_of_methodNamed B.named
  have hlocks := B.notSynchronized
  subst hsz
  have hD := hD0.self (sz := s.heap.size)
  generalize hAe : va_A (wcM qa cI cJ cZ m_trace m_text m_typed m_told m_draft m_s m_past m_known m_images m_kept m_notes m_noted m_at m_sort m_start m_value m_steps m_rows m_held) s.heap.size = A at hD hE ⊢
  have hA : ∀ q : Nat, s.heap.size ≤ q → A q := fun q h => by rw [← hAe]; exact Or.inr h
  have hS : va_S A s.heap s.heap [] := va_S.rf
  have hinX7 : ∀ w ∈ u_ws RX7 TX7 19, w ∈ wsX7_begins := by decide +kernel
  have k1 := hts (.fieldLink RX7 95 "DoorMorningsModel" "known" "I") (by decide +kernel)
  have k2 := hts (.fieldLink RX7 98 "DoorMorningsModel" "noted" "I") (by decide +kernel)
  have k3 := hts (.fieldLink RX7 28 "DoorMorningsModel" "kept" "[Z") (by decide +kernel)
  have k4 := hts (.fieldLink RX7 19 "DoorMorningsModel" "s" "[I") (by decide +kernel)
  have k5 := hts (.fieldLink RX7 13 "DoorMorningsModel" "told" "[I") (by decide +kernel)
  have k6 := hts (.fieldLink RX7 16 "DoorMorningsModel" "draft" "[I") (by decide +kernel)
  have hl := lv_entry ([.ref (qa 0)]) (n := 2) (Nat.le_of_ble_eq_true rfl)
  rw [lg_entry_eq]
  generalize (lg_sl ([.ref (qa 0)]) ++ List.replicate (2 - (lg_sl ([.ref (qa 0)])).length) Slot.unset).toArray = ls at hl ⊢
  have hl : lv_has ls 2 [(0, .ref (qa 0))] := hl
  have hL28 : ∀ (z_m_told : Nat → Int32) (z_m_known : Int32) (z_m_kept : Nat → Int32) (z_m_noted : Int32) (n : Nat) (x1 : Int32) (z_m_s : Nat → Int32) (H : Heap) (locs : List Loc) (ls : Array Slot), gX7_begins_L28 z_m_told z_m_known z_m_kept z_m_noted n x1 z_m_s = some (r_m_told, r_m_s, r_m_known, r_m_kept, r_m_noted) → va_P (dC, dI) vwCl (wcM qa cI cJ cZ m_trace m_text m_typed z_m_told m_draft z_m_s m_past z_m_known m_images z_m_kept m_notes z_m_noted m_at m_sort m_start m_value m_steps m_rows m_held) H → va_D A (wcM qa cI cJ cZ m_trace m_text m_typed z_m_told m_draft z_m_s m_past z_m_known m_images z_m_kept m_notes z_m_noted m_at m_sort m_start m_value m_steps m_rows m_held) → va_S A s.heap H locs → lv_has ls 2 [(0, .ref (qa 0)), (1, .int x1)] → W p l e (headSpec wsX7_begins ({ frames := 0, cells := 0, slots := 0, locals := 0 } : Room)).room s m ([.ref (qa 0)] : List Value).toArray below meth c H locs 0 0 (MQ below (wq_Wv (dC, dI) (wcM qa cI cJ cZ m_trace m_text m_typed r_m_told m_draft r_m_s m_past r_m_known m_images r_m_kept m_notes r_m_noted m_at m_sort m_start m_value m_steps m_rows m_held) A) ([.ref (qa 0)] : List Value).toArray s 0 0 A) (F0 m 28 ls []) := by
    intro z_m_told z_m_known z_m_kept z_m_noted n
    induction n with
    | zero =>
      intro x1 z_m_s H locs ls hG
      exact absurd (show (none : Option ((Nat → Int32) × (Nat → Int32) × Int32 × (Nat → Int32) × Int32)) = some (r_m_told, r_m_s, r_m_known, r_m_kept, r_m_noted) from hG) (by intro h9; cases h9)
    | succ n ih28 =>
      intro x1 z_m_s H locs ls hG hP hD hS hl
      rw [gX7_begins_L28] at hG
      refine lv_iload_n hx hb dX7_begins_28 rfl (lv_at hl 1 rfl) ?_
      refine lv_bipush (v := 8) hx hb dX7_begins_29 (by decide) ?_
      refine lv_icmp_ge (tgt := 66) hx hb dX7_begins_31 (by decide) (fun c1 => ?_) (fun c1 => ?_)
      · replace hG := wq_t c1 hG
        refine lv_aload_n hx hb dX7_begins_66 rfl (lv_at hl 0 rfl) ?_
        refine lv_iconst (v := 0) hx hb dX7_begins_67 (by decide) ?_
        refine va_put (D := (dC, dI)) (ci := 7) (v := .int 0) (ty := tyX7 7) (C := RX7) (T := TX7) (N := 19) hx hb hts hinX7 tyX7 tyX7_ok nmX7 hown hK hP hD hS 0 rfl rfl 7 (by decide) k1 (fun _ h9 => h9) rfl (tyX7_ok 7 (by decide)) rfl rfl (Nat.le_of_ble_eq_true rfl) dX7_begins_68 (fun H locs hP hD hS => ?_)
        replace hP : va_P (dC, dI) vwCl (wcM qa cI cJ cZ m_trace m_text m_typed z_m_told m_draft z_m_s m_past 0 m_images z_m_kept m_notes z_m_noted m_at m_sort m_start m_value m_steps m_rows m_held) H := hP
        replace hD : va_D A (wcM qa cI cJ cZ m_trace m_text m_typed z_m_told m_draft z_m_s m_past 0 m_images z_m_kept m_notes z_m_noted m_at m_sort m_start m_value m_steps m_rows m_held) := hD
        refine lv_aload_n hx hb dX7_begins_71 rfl (lv_at hl 0 rfl) ?_
        refine lv_iconst (v := 0) hx hb dX7_begins_72 (by decide) ?_
        refine va_put (D := (dC, dI)) (ci := 7) (v := .int 0) (ty := tyX7 11) (C := RX7) (T := TX7) (N := 19) hx hb hts hinX7 tyX7 tyX7_ok nmX7 hown hK hP hD hS 0 rfl rfl 11 (by decide) k2 (fun _ h9 => h9) rfl (tyX7_ok 11 (by decide)) rfl rfl (Nat.le_of_ble_eq_true rfl) dX7_begins_73 (fun H locs hP hD hS => ?_)
        replace hP : va_P (dC, dI) vwCl (wcM qa cI cJ cZ m_trace m_text m_typed z_m_told m_draft z_m_s m_past 0 m_images z_m_kept m_notes 0 m_at m_sort m_start m_value m_steps m_rows m_held) H := hP
        replace hD : va_D A (wcM qa cI cJ cZ m_trace m_text m_typed z_m_told m_draft z_m_s m_past 0 m_images z_m_kept m_notes 0 m_at m_sort m_start m_value m_steps m_rows m_held) := hD
        refine lv_aload_n hx hb dX7_begins_76 rfl (lv_at hl 0 rfl) ?_
        refine va_get (D := (dC, dI)) (ci := 7) (v := .ref (qa 7)) (C := RX7) (T := TX7) (N := 19) hx hb hts hinX7 hown hK hP 0 rfl rfl 9 (by decide) k3 (fun _ h9 => h9) rfl dX7_begins_77 ?_
        refine lv_iconst (v := 0) hx hb dX7_begins_80 (by decide) ?_
        refine lv_iconst (v := 0) hx hb dX7_begins_81 (by decide) ?_
        refine wq_zast (D := (dC, dI)) (y := 0) hx hb hK hP hD hS 7 2 rfl rfl (wq_lit (by decide)) 0 rfl (by decide) (wcM qa cI cJ cZ m_trace m_text m_typed z_m_told m_draft z_m_s m_past 0 m_images (upd z_m_kept 0 0) m_notes 0 m_at m_sort m_start m_value m_steps m_rows m_held) rfl dX7_begins_82 (fun H locs hP hD hS => ?_)
        refine lv_aload_n hx hb dX7_begins_83 rfl (lv_at hl 0 rfl) ?_
        refine va_get (D := (dC, dI)) (ci := 7) (v := .ref (qa 7)) (C := RX7) (T := TX7) (N := 19) hx hb hts hinX7 hown hK hP 0 rfl rfl 9 (by decide) k3 (fun _ h9 => h9) rfl dX7_begins_84 ?_
        refine lv_iconst (v := 1) hx hb dX7_begins_87 (by decide) ?_
        refine lv_iconst (v := 0) hx hb dX7_begins_88 (by decide) ?_
        refine wq_zast (D := (dC, dI)) (y := 0) hx hb hK hP hD hS 7 2 rfl rfl (wq_lit (by decide)) 1 rfl (by decide) (wcM qa cI cJ cZ m_trace m_text m_typed z_m_told m_draft z_m_s m_past 0 m_images (upd (upd z_m_kept 0 0) 1 0) m_notes 0 m_at m_sort m_start m_value m_steps m_rows m_held) rfl dX7_begins_89 (fun H locs hP hD hS => ?_)
        obtain ⟨e0, e1, e2, e3, e4⟩ := wq_j5 hG
        subst e0
        subst e1
        subst e2
        subst e3
        subst e4
        exact W.vret hx hb hr (fun t ht hW => ⟨⟨(), rfl, trivial, by rw [ht]; exact hP, hD⟩, hS.F ht⟩) hS.2.2 dX7_begins_90
      · replace hG := wq_f c1 hG
        refine lv_aload_n hx hb dX7_begins_34 rfl (lv_at hl 0 rfl) ?_
        refine va_get (D := (dC, dI)) (ci := 7) (v := .ref (qa 4)) (C := RX7) (T := TX7) (N := 19) hx hb hts hinX7 hown hK hP 0 rfl rfl 5 (by decide) k4 (fun _ h9 => h9) rfl dX7_begins_35 ?_
        refine lv_iload_n hx hb dX7_begins_38 rfl (lv_at hl 1 rfl) ?_
        refine lv_iload_n hx hb dX7_begins_39 rfl (lv_at hl 1 rfl) ?_
        refine lv_iconst (v := 4) hx hb dX7_begins_40 (by decide) ?_
        refine lv_icmp_ge (tgt := 48) hx hb dX7_begins_41 (by decide) (fun c2 => ?_) (fun c2 => ?_)
        · replace hG := wq_t c2 hG
          refine lv_aload_n hx hb dX7_begins_48 rfl (lv_at hl 0 rfl) ?_
          refine va_get (D := (dC, dI)) (ci := 7) (v := .ref (qa 2)) (C := RX7) (T := TX7) (N := 19) hx hb hts hinX7 hown hK hP 0 rfl rfl 3 (by decide) k5 (fun _ h9 => h9) rfl dX7_begins_49 ?_
          refine lv_bipush (v := 18) hx hb dX7_begins_52 (by decide) ?_
          refine lv_iload_n hx hb dX7_begins_54 rfl (lv_at hl 1 rfl) ?_
          refine lv_iadd hx hb dX7_begins_55 ?_
          refine lv_iconst (v := 4) hx hb dX7_begins_56 (by decide) ?_
          refine lv_isub hx hb dX7_begins_57 ?_
          obtain ⟨h3, hG⟩ := wq_chk_s hG
          refine wq_iald (D := (dC, dI)) hx hb hK hP 2 0 rfl rfl h3 (Int32.toNatClampNeg ((18 + x1) - 4)) rfl dX7_begins_58 ?_
          obtain ⟨h4, hG⟩ := wq_chk_s hG
          refine wq_iast (D := (dC, dI)) hx hb hK hP hD hS 4 0 rfl rfl h4 (Int32.toNatClampNeg x1) rfl (wcM qa cI cJ cZ m_trace m_text m_typed z_m_told m_draft (upd z_m_s (Int32.toNatClampNeg x1) (z_m_told (Int32.toNatClampNeg ((18 + x1) - 4)))) m_past z_m_known m_images z_m_kept m_notes z_m_noted m_at m_sort m_start m_value m_steps m_rows m_held) rfl dX7_begins_59 (fun H locs hP hD hS => ?_)
          refine lv_iinc (v := (x1 + 1)) (lv' := [(1, .int (x1 + 1)), (0, .ref (qa 0))]) hx hb dX7_begins_60 hl (k := 1) rfl rfl (by decide) rfl (fun ls hl => ?_)
          refine lv_goto (tgt := 28) hx hb dX7_begins_63 (by decide) ?_
          exact ih28 (x1 + 1) (upd z_m_s (Int32.toNatClampNeg x1) (z_m_told (Int32.toNatClampNeg ((18 + x1) - 4)))) _ _ _ hG hP hD hS (lv_sub hl [1, 0] rfl)
        · replace hG := wq_f c2 hG
          refine lv_iconst (v := 0) hx hb dX7_begins_44 (by decide) ?_
          refine lv_goto (tgt := 59) hx hb dX7_begins_45 (by decide) ?_
          obtain ⟨h5, hG⟩ := wq_chk_s hG
          refine wq_iast (D := (dC, dI)) hx hb hK hP hD hS 4 0 rfl rfl h5 (Int32.toNatClampNeg x1) rfl (wcM qa cI cJ cZ m_trace m_text m_typed z_m_told m_draft (upd z_m_s (Int32.toNatClampNeg x1) 0) m_past z_m_known m_images z_m_kept m_notes z_m_noted m_at m_sort m_start m_value m_steps m_rows m_held) rfl dX7_begins_59 (fun H locs hP hD hS => ?_)
          refine lv_iinc (v := (x1 + 1)) (lv' := [(1, .int (x1 + 1)), (0, .ref (qa 0))]) hx hb dX7_begins_60 hl (k := 1) rfl rfl (by decide) rfl (fun ls hl => ?_)
          refine lv_goto (tgt := 28) hx hb dX7_begins_63 (by decide) ?_
          exact ih28 (x1 + 1) (upd z_m_s (Int32.toNatClampNeg x1) 0) _ _ _ hG hP hD hS (lv_sub hl [1, 0] rfl)
  have hL2 : ∀ (z_m_s : Nat → Int32) (z_m_known : Int32) (z_m_kept : Nat → Int32) (z_m_noted : Int32) (n : Nat) (x1 : Int32) (z_m_told : Nat → Int32) (H : Heap) (locs : List Loc) (ls : Array Slot), gX7_begins_L2 m_draft z_m_s z_m_known z_m_kept z_m_noted n x1 z_m_told = some (r_m_told, r_m_s, r_m_known, r_m_kept, r_m_noted) → va_P (dC, dI) vwCl (wcM qa cI cJ cZ m_trace m_text m_typed z_m_told m_draft z_m_s m_past z_m_known m_images z_m_kept m_notes z_m_noted m_at m_sort m_start m_value m_steps m_rows m_held) H → va_D A (wcM qa cI cJ cZ m_trace m_text m_typed z_m_told m_draft z_m_s m_past z_m_known m_images z_m_kept m_notes z_m_noted m_at m_sort m_start m_value m_steps m_rows m_held) → va_S A s.heap H locs → lv_has ls 2 [(0, .ref (qa 0)), (1, .int x1)] → W p l e (headSpec wsX7_begins ({ frames := 0, cells := 0, slots := 0, locals := 0 } : Room)).room s m ([.ref (qa 0)] : List Value).toArray below meth c H locs 0 0 (MQ below (wq_Wv (dC, dI) (wcM qa cI cJ cZ m_trace m_text m_typed r_m_told m_draft r_m_s m_past r_m_known m_images r_m_kept m_notes r_m_noted m_at m_sort m_start m_value m_steps m_rows m_held) A) ([.ref (qa 0)] : List Value).toArray s 0 0 A) (F0 m 2 ls []) := by
    intro z_m_s z_m_known z_m_kept z_m_noted n
    induction n with
    | zero =>
      intro x1 z_m_told H locs ls hG
      exact absurd (show (none : Option ((Nat → Int32) × (Nat → Int32) × Int32 × (Nat → Int32) × Int32)) = some (r_m_told, r_m_s, r_m_known, r_m_kept, r_m_noted) from hG) (by intro h9; cases h9)
    | succ n ih2 =>
      intro x1 z_m_told H locs ls hG hP hD hS hl
      rw [gX7_begins_L2] at hG
      refine lv_iload_n hx hb dX7_begins_2 rfl (lv_at hl 1 rfl) ?_
      refine lv_bipush (v := 22) hx hb dX7_begins_3 (by decide) ?_
      refine lv_icmp_ge (tgt := 26) hx hb dX7_begins_5 (by decide) (fun c6 => ?_) (fun c6 => ?_)
      · replace hG := wq_t c6 hG
        refine lv_iconst (v := 0) hx hb dX7_begins_26 (by decide) ?_
        refine lv_istore_n (lv' := [(1, .int 0), (0, .ref (qa 0))]) hx hb dX7_begins_27 rfl hl (by decide) rfl (fun ls hl => ?_)
        exact hL28 z_m_told z_m_known z_m_kept z_m_noted 1000 0 z_m_s _ _ _ hG hP hD hS (lv_sub hl [1, 0] rfl)
      · replace hG := wq_f c6 hG
        refine lv_aload_n hx hb dX7_begins_8 rfl (lv_at hl 0 rfl) ?_
        refine va_get (D := (dC, dI)) (ci := 7) (v := .ref (qa 2)) (C := RX7) (T := TX7) (N := 19) hx hb hts hinX7 hown hK hP 0 rfl rfl 3 (by decide) k5 (fun _ h9 => h9) rfl dX7_begins_9 ?_
        refine lv_iload_n hx hb dX7_begins_12 rfl (lv_at hl 1 rfl) ?_
        refine lv_aload_n hx hb dX7_begins_13 rfl (lv_at hl 0 rfl) ?_
        refine va_get (D := (dC, dI)) (ci := 7) (v := .ref (qa 3)) (C := RX7) (T := TX7) (N := 19) hx hb hts hinX7 hown hK hP 0 rfl rfl 4 (by decide) k6 (fun _ h9 => h9) rfl dX7_begins_14 ?_
        refine lv_iload_n hx hb dX7_begins_17 rfl (lv_at hl 1 rfl) ?_
        obtain ⟨h7, hG⟩ := wq_chk_s hG
        refine wq_iald (D := (dC, dI)) hx hb hK hP 3 0 rfl rfl h7 (Int32.toNatClampNeg x1) rfl dX7_begins_18 ?_
        refine wq_iast (D := (dC, dI)) hx hb hK hP hD hS 2 0 rfl rfl h7 (Int32.toNatClampNeg x1) rfl (wcM qa cI cJ cZ m_trace m_text m_typed (upd z_m_told (Int32.toNatClampNeg x1) (m_draft (Int32.toNatClampNeg x1))) m_draft z_m_s m_past z_m_known m_images z_m_kept m_notes z_m_noted m_at m_sort m_start m_value m_steps m_rows m_held) rfl dX7_begins_19 (fun H locs hP hD hS => ?_)
        refine lv_iinc (v := (x1 + 1)) (lv' := [(1, .int (x1 + 1)), (0, .ref (qa 0))]) hx hb dX7_begins_20 hl (k := 1) rfl rfl (by decide) rfl (fun ls hl => ?_)
        refine lv_goto (tgt := 2) hx hb dX7_begins_23 (by decide) ?_
        exact ih2 (x1 + 1) (upd z_m_told (Int32.toNatClampNeg x1) (m_draft (Int32.toNatClampNeg x1))) _ _ _ hG hP hD hS (lv_sub hl [1, 0] rfl)
  unfold gX7_begins at hG
  refine lv_iconst (v := 0) hx hb dX7_begins_0 (by decide) ?_
  refine lv_istore_n (lv' := [(1, .int 0), (0, .ref (qa 0))]) hx hb dX7_begins_1 rfl hl (by decide) rfl (fun ls hl => ?_)
  exact hL2 m_s m_known m_kept m_noted 1000 0 m_told _ _ _ hG hP hD hS (lv_sub hl [1, 0] rfl)

