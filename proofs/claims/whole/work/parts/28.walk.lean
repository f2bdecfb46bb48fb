theorem hdV_X7_ways : yX7_ways.cls = RX7 ∧ yX7_ways.cls ≠ "java/lang/invoke/MethodHandle" ∧ yX7_ways.cls ≠ "java/lang/invoke/VarHandle" ∧ (parseMethodDescriptor yX7_ways.desc).map (fun d => d.parameters.length) = some 1 := by decide +kernel
set_option maxHeartbeats 4000000 in
set_option maxRecDepth 100000 in
theorem C_X7_ways (l : Launch) (dC : Nat → ClassId) (dI : Nat → Nat → Nat) (cI cJ cZ : ClassId) (qa : Nat → Nat) (sz : Nat) (m_trace : Int64) (m_text : Nat → Int32) (m_typed : Int32) (m_told : Nat → Int32) (m_draft : Nat → Int32) (m_s : Nat → Int32) (m_past : Nat → Int32) (m_known : Int32) (m_images : Nat → Int32) (m_kept : Nat → Int32) (m_notes : Nat → Int32) (m_noted : Int32) (m_at : Int32) (m_sort : Int32) (m_start : Int32) (m_value : Int32) (m_steps : Nat → Int32) (m_rows : Nat → Int32) (m_held : Nat → Int32) (a1 : Int32) (r0 : Int32) (r_m_steps : Nat → Int32) (r_m_rows : Nat → Int32) (hG : gX7_ways m_told m_s m_steps m_rows a1 = some (r0, r_m_steps, r_m_rows)) : Met l yX7_ways wsX7_ways ({ frames := 5, cells := 0, slots := 0, locals := 119 } : Room) (va_Pc [.ref (qa 0), .int a1] (wq_pw (dC, dI) [(cI, .int), (cJ, .long), (cZ, .boolean)] (wcM qa cI cJ cZ m_trace m_text m_typed m_told m_draft m_s m_past m_known m_images m_kept m_notes m_noted m_at m_sort m_start m_value m_steps m_rows m_held) sz)) (wq_Wi (dC, dI) r0 wq_tr (wcM qa cI cJ cZ m_trace m_text m_typed m_told m_draft m_s m_past m_known m_images m_kept m_notes m_noted m_at m_sort m_start m_value r_m_steps r_m_rows m_held) (va_A (wcM qa cI cJ cZ m_trace m_text m_typed m_told m_draft m_s m_past m_known m_images m_kept m_notes m_noted m_at m_sort m_start m_value m_steps m_rows m_held) sz)) 0 0 (va_A (wcM qa cI cJ cZ m_trace m_text m_typed m_told m_draft m_s m_past m_known m_images m_kept m_notes m_noted m_at m_sort m_start m_value m_steps m_rows m_held) sz) := by
  refine Met.ofW (cc := cX7_ways) (maxL := 3) (ret := (some .int)) (by decide) rfl ?_
  intro p e s m args below meth c s₁ B hml hv
  obtain ⟨rfl, hsz, hP, hK, hD0, hE⟩ := hv
  have hx := B.exec
  have hb := B.bytes
  have hr := B.returns
  have hts := atoms_spec (ws := wsX7_ways) B.pre
  have hown : s.vm.findClass RX7 = some m.cls := findClass_of_methodNamed B.named
  have hlocks := B.notSynchronized
  subst hsz
  have hD := hD0.self (sz := s.heap.size)
  generalize hAe : va_A (wcM qa cI cJ cZ m_trace m_text m_typed m_told m_draft m_s m_past m_known m_images m_kept m_notes m_noted m_at m_sort m_start m_value m_steps m_rows m_held) s.heap.size = A at hD hE ⊢
  have hA : ∀ q : Nat, s.heap.size ≤ q → A q := fun q h => by rw [← hAe]; exact Or.inr h
  have hS : va_S A s.heap s.heap [] := va_S.rf
  have hinX7 : ∀ w ∈ u_ws RX7 TX7 19, w ∈ wsX7_ways := by decide +kernel
  have k1 := hts (.fieldLink RX7 19 "DoorMorningsModel" "s" "[I") (by decide +kernel)
  have k2 := hts (.fieldLink RX7 38 "DoorMorningsModel" "rows" "[I") (by decide +kernel)
  have hl := lv_entry ([.ref (qa 0), .int a1]) (n := 3) (Nat.le_of_ble_eq_true rfl)
  rw [lg_entry_eq]
  generalize (lg_sl ([.ref (qa 0), .int a1]) ++ List.replicate (3 - (lg_sl ([.ref (qa 0), .int a1])).length) Slot.unset).toArray = ls at hl ⊢
  have hl : lv_has ls 3 [(0, .ref (qa 0)), (1, .int a1)] := hl
  unfold gX7_ways at hG
  refine lv_aload_n hx hb dX7_ways_0 rfl (lv_at hl 0 rfl) ?_
  refine lv_iload_n hx hb dX7_ways_1 rfl (lv_at hl 1 rfl) ?_
  obtain ⟨v2, g1, hG⟩ := wq_b1_s hG
  refine wq_ci (v := v2) (B := wq_Z1) (va_runV (As := [.int a1]) (rest := []) ⟨hx, hb, hml, hown, hts⟩ (C_X7_isWoman l dC dI cI cJ cZ qa s.heap.size m_trace m_text m_typed m_told m_draft m_s m_past m_known m_images m_kept m_notes m_noted m_at m_sort m_start m_value m_steps m_rows m_held a1 v2 g1) (cwV 1 hts gX7_ways_X7_isWoman rfl rfl rfl hdV_X7_isWoman ⟨Nat.le_of_ble_eq_true rfl, Nat.le_of_ble_eq_true rfl⟩) (wq_ppV hK hP hE hS hA (ci := 7) (q0 := 0) rfl rfl) rfl rfl hl.1 rfl (lv_room (Nat.le_of_ble_eq_true rfl)) dX7_ways_2 ⟨Nat.zero_le _, Nat.zero_le _⟩) hS hA (fun H locs b3 hk hS => ?_)
  replace hP := wq_kp hP hk
  clear hk
  refine lv_if_ne (tgt := 10) hx hb dX7_ways_5 (by decide) (fun c4 => ?_) (fun c4 => ?_)
  · replace hG := wq_f c4 hG
    refine lv_aload_n hx hb dX7_ways_10 rfl (lv_at hl 0 rfl) ?_
    refine lv_aload_n hx hb dX7_ways_11 rfl (lv_at hl 0 rfl) ?_
    refine va_get (D := (dC, dI)) (ci := 7) (v := .ref (qa 4)) (C := RX7) (T := TX7) (N := 19) hx hb hts hinX7 hown hK hP 0 rfl rfl 5 (by decide) k1 (fun _ h9 => h9) rfl dX7_ways_12 ?_
    refine lv_iconst (v := 1) hx hb dX7_ways_15 (by decide) ?_
    refine wq_iald (D := (dC, dI)) hx hb hK hP 4 0 rfl rfl (wq_lit (by decide)) 1 rfl dX7_ways_16 ?_
    refine lv_aload_n hx hb dX7_ways_17 rfl (lv_at hl 0 rfl) ?_
    refine va_get (D := (dC, dI)) (ci := 7) (v := .ref (qa 4)) (C := RX7) (T := TX7) (N := 19) hx hb hts hinX7 hown hK hP 0 rfl rfl 5 (by decide) k1 (fun _ h9 => h9) rfl dX7_ways_18 ?_
    refine lv_iconst (v := 4) hx hb dX7_ways_21 (by decide) ?_
    refine lv_iload_n hx hb dX7_ways_22 rfl (lv_at hl 1 rfl) ?_
    refine lv_iadd hx hb dX7_ways_23 ?_
    obtain ⟨h5, hG⟩ := wq_chk_s hG
    refine wq_iald (D := (dC, dI)) hx hb hK hP 4 0 rfl rfl h5 (Int32.toNatClampNeg (4 + a1)) rfl dX7_ways_24 ?_
    obtain ⟨v7, w8, w9, g6, hG⟩ := wq_b3_s hG
    have hFc := va_free (wc := wcM qa cI cJ cZ m_trace m_text m_typed m_told m_draft m_s m_past m_known m_images m_kept m_notes m_noted m_at m_sort m_start m_value m_steps m_rows m_held) hD hS hA [0, 1, 2, 3, 4, 5, 6, 7, 8, 9, 10, 11] rfl
    refine wq_di (D := (dC, dI)) (v := v7) (B := wq_tr) (wr := []) (w1 := wcM qa cI cJ cZ m_trace m_text m_typed m_told m_draft m_s m_past m_known m_images m_kept m_notes m_noted m_at m_sort m_start m_value w8 w9 m_held) (w2 := wcM qa cI cJ cZ m_trace m_text m_typed m_told m_draft m_s m_past m_known m_images m_kept m_notes m_noted m_at m_sort m_start m_value w8 w9 m_held) (va_runV (As := [.int (m_s 1), .int (m_s (Int32.toNatClampNeg (4 + a1)))]) (rest := []) ⟨hx, hb, hml, hown, hts⟩ (C_X7_reckons l dC dI cI cJ cZ qa H.size m_trace m_text m_typed m_told m_draft m_s m_past m_known m_images m_kept m_notes m_noted m_at m_sort m_start m_value m_steps m_rows m_held (m_s 1) (m_s (Int32.toNatClampNeg (4 + a1))) v7 w8 w9 g6) (cwV 2 hts gX7_ways_X7_reckons rfl rfl rfl hdV_X7_reckons ⟨Nat.le_of_ble_eq_true rfl, Nat.le_of_ble_eq_true rfl⟩) (wq_pwV hK hP hD hE hS hFc (ci := 7) (q0 := 0) rfl rfl) rfl rfl hl.1 rfl (lv_room (Nat.le_of_ble_eq_true rfl)) dX7_ways_25 ⟨Nat.zero_le _, Nat.zero_le _⟩) hP hD hS hFc [0, 1, 2, 3, 4, 5, 6, 7, 8, 9, 10, 11] [] [0, 1, 2, 3, 4, 5, 6, 7, 8, 9, 10, 11] rfl rfl (by decide) (by decide) (by decide) rfl (fun H locs b10 hP hD hS => ?_)
    clear hFc
    refine lv_istore_n (lv' := [(2, .int v7), (0, .ref (qa 0)), (1, .int a1)]) hx hb dX7_ways_28 rfl hl (by decide) rfl (fun ls hl => ?_)
    refine lv_iload_n hx hb dX7_ways_29 rfl (lv_at hl 0 rfl) ?_
    refine lv_bipush (v := (-9)) hx hb dX7_ways_30 (by decide) ?_
    refine lv_icmp_ne (tgt := 39) hx hb dX7_ways_32 (by decide) (fun c11 => ?_) (fun c11 => ?_)
    · replace hG := wq_f c11 hG
      refine lv_aload_n hx hb dX7_ways_39 rfl (lv_at hl 1 rfl) ?_
      refine va_get (D := (dC, dI)) (ci := 7) (v := .ref (qa 10)) (C := RX7) (T := TX7) (N := 19) hx hb hts hinX7 hown hK hP 0 rfl rfl 17 (by decide) k2 (fun _ h9 => h9) rfl dX7_ways_40 ?_
      refine lv_aload_n hx hb dX7_ways_43 rfl (lv_at hl 1 rfl) ?_
      refine va_get (D := (dC, dI)) (ci := 7) (v := .ref (qa 4)) (C := RX7) (T := TX7) (N := 19) hx hb hts hinX7 hown hK hP 0 rfl rfl 5 (by decide) k1 (fun _ h9 => h9) rfl dX7_ways_44 ?_
      refine lv_iconst (v := 1) hx hb dX7_ways_47 (by decide) ?_
      refine wq_iald (D := (dC, dI)) hx hb hK hP 4 0 rfl rfl (wq_lit (by decide)) 1 rfl dX7_ways_48 ?_
      refine lv_aload_n hx hb dX7_ways_49 rfl (lv_at hl 1 rfl) ?_
      refine va_get (D := (dC, dI)) (ci := 7) (v := .ref (qa 4)) (C := RX7) (T := TX7) (N := 19) hx hb hts hinX7 hown hK hP 0 rfl rfl 5 (by decide) k1 (fun _ h9 => h9) rfl dX7_ways_50 ?_
      refine lv_iconst (v := 4) hx hb dX7_ways_53 (by decide) ?_
      refine lv_iload_n hx hb dX7_ways_54 rfl (lv_at hl 2 rfl) ?_
      refine lv_iadd hx hb dX7_ways_55 ?_
      refine wq_iald (D := (dC, dI)) hx hb hK hP 4 0 rfl rfl h5 (Int32.toNatClampNeg (4 + a1)) rfl dX7_ways_56 ?_
      obtain ⟨v13, g12, hG⟩ := wq_b1_s hG
      refine wq_ci (v := v13) (B := wq_tr) (va_runS (As := [.int (m_s 1), .int (m_s (Int32.toNatClampNeg (4 + a1)))]) (rest := [.ref (qa 10)]) ⟨hx, hb, hml, hown, hts⟩ (C_X7_place l dC dI cI cJ cZ qa H.size  (m_s 1) (m_s (Int32.toNatClampNeg (4 + a1))) v13 g12) (va_cwS 2 hts gX7_ways_X7_place rfl rfl rfl hdS_X7_place ⟨Nat.le_of_ble_eq_true rfl, Nat.le_of_ble_eq_true rfl⟩) (wq_ppS hK (hP.sub (ws' := []) [] rfl) hE hS hA) rfl rfl hl.1 rfl (lv_room (Nat.le_of_ble_eq_true rfl)) dX7_ways_57 ⟨Nat.zero_le _, Nat.zero_le _⟩) hS hA (fun H locs b14 hk hS => ?_)
      replace hP := wq_kp hP hk
      clear hk
      obtain ⟨h15, hG⟩ := wq_chk_s hG
      refine wq_iald (D := (dC, dI)) hx hb hK hP 10 0 rfl rfl h15 (Int32.toNatClampNeg v13) rfl dX7_ways_60 ?_
      obtain ⟨e0, e1, e2⟩ := wq_j3 hG
      subst e0
      subst e1
      subst e2
      exact W.iret hx hb hr (fun t ht hW => ⟨⟨_, (), rfl, ⟨rfl, trivial⟩, by rw [ht]; exact hP, hD⟩, hS.F ht⟩) hS.2.2 dX7_ways_61
    · replace hG := wq_t c11 hG
      refine lv_iconst (v := 0) hx hb dX7_ways_35 (by decide) ?_
      refine lv_goto (tgt := 61) hx hb dX7_ways_36 (by decide) ?_
      obtain ⟨e0, e1, e2⟩ := wq_j3 hG
      subst e0
      subst e1
      subst e2
      exact W.iret hx hb hr (fun t ht hW => ⟨⟨_, (), rfl, ⟨rfl, trivial⟩, by rw [ht]; exact hP, hD⟩, hS.F ht⟩) hS.2.2 dX7_ways_61
  · replace hG := wq_t c4 hG
    refine lv_iconst (v := (-1)) hx hb dX7_ways_8 (by decide) ?_
    obtain ⟨e0, e1, e2⟩ := wq_j3 hG
    subst e0
    subst e1
    subst e2
    exact W.iret hx hb hr (fun t ht hW => ⟨⟨_, (), rfl, ⟨rfl, trivial⟩, by rw [ht]; exact hP, hD⟩, hS.F ht⟩) hS.2.2 dX7_ways_9

theorem hdV_X7_holds : yX7_holds.cls = RX7 ∧ yX7_holds.cls ≠ "java/lang/invoke/MethodHandle" ∧ yX7_holds.cls ≠ "java/lang/invoke/VarHandle" ∧ (parseMethodDescriptor yX7_holds.desc).map (fun d => d.parameters.length) = some 0 := by decide +kernel
set_option maxHeartbeats 4000000 in
set_option maxRecDepth 100000 in
theorem C_X7_holds (l : Launch) (dC : Nat → ClassId) (dI : Nat → Nat → Nat) (cI cJ cZ : ClassId) (qa : Nat → Nat) (sz : Nat) (m_trace : Int64) (m_text : Nat → Int32) (m_typed : Int32) (m_told : Nat → Int32) (m_draft : Nat → Int32) (m_s : Nat → Int32) (m_past : Nat → Int32) (m_known : Int32) (m_images : Nat → Int32) (m_kept : Nat → Int32) (m_notes : Nat → Int32) (m_noted : Int32) (m_at : Int32) (m_sort : Int32) (m_start : Int32) (m_value : Int32) (m_steps : Nat → Int32) (m_rows : Nat → Int32) (m_held : Nat → Int32) (r_m_held : Nat → Int32) (hG : gX7_holds m_s m_held = some r_m_held) : Met l yX7_holds wsX7_holds ({ frames := 0, cells := 0, slots := 0, locals := 0 } : Room) (va_Pc [.ref (qa 0)] (wq_pw (dC, dI) [(cI, .int), (cJ, .long), (cZ, .boolean)] (wcM qa cI cJ cZ m_trace m_text m_typed m_told m_draft m_s m_past m_known m_images m_kept m_notes m_noted m_at m_sort m_start m_value m_steps m_rows m_held) sz)) (wq_Wv (dC, dI) (wcM qa cI cJ cZ m_trace m_text m_typed m_told m_draft m_s m_past m_known m_images m_kept m_notes m_noted m_at m_sort m_start m_value m_steps m_rows r_m_held) (va_A (wcM qa cI cJ cZ m_trace m_text m_typed m_told m_draft m_s m_past m_known m_images m_kept m_notes m_noted m_at m_sort m_start m_value m_steps m_rows m_held) sz)) 0 0 (va_A (wcM qa cI cJ cZ m_trace m_text m_typed m_told m_draft m_s m_past m_known m_images m_kept m_notes m_noted m_at m_sort m_start m_value m_steps m_rows m_held) sz) := by
  refine Met.ofW (cc := cX7_holds) (maxL := 2) (ret := none) (by decide) rfl ?_
  intro p e s m args below meth c s₁ B hml hv
  obtain ⟨rfl, hsz, hP, hK, hD0, hE⟩ := hv
  have hx := B.exec
  have hb := B.bytes
  have hr := B.returns
  have hts := atoms_spec (ws := wsX7_holds) B.pre
  have hown : s.vm.findClass RX7 = some m.cls := findClass_of_methodNamed B.named
  have hlocks := B.notSynchronized
  subst hsz
  have hD := hD0.self (sz := s.heap.size)
  generalize hAe : va_A (wcM qa cI cJ cZ m_trace m_text m_typed m_told m_draft m_s m_past m_known m_images m_kept m_notes m_noted m_at m_sort m_start m_value m_steps m_rows m_held) s.heap.size = A at hD hE ⊢
  have hA : ∀ q : Nat, s.heap.size ≤ q → A q := fun q h => by rw [← hAe]; exact Or.inr h
  have hS : va_S A s.heap s.heap [] := va_S.rf
  have hinX7 : ∀ w ∈ u_ws RX7 TX7 19, w ∈ wsX7_holds := by decide +kernel
  have k1 := hts (.fieldLink RX7 41 "DoorMorningsModel" "held" "[I") (by decide +kernel)
  have k2 := hts (.fieldLink RX7 19 "DoorMorningsModel" "s" "[I") (by decide +kernel)
  have hl := lv_entry ([.ref (qa 0)]) (n := 2) (Nat.le_of_ble_eq_true rfl)
  rw [lg_entry_eq]
  generalize (lg_sl ([.ref (qa 0)]) ++ List.replicate (2 - (lg_sl ([.ref (qa 0)])).length) Slot.unset).toArray = ls at hl ⊢
  have hl : lv_has ls 2 [(0, .ref (qa 0))] := hl
  have hL2 : ∀  (n : Nat) (x1 : Int32) (z_m_held : Nat → Int32) (H : Heap) (locs : List Loc) (ls : Array Slot), gX7_holds_L2 m_s n x1 z_m_held = some r_m_held → va_P (dC, dI) vwCl (wcM qa cI cJ cZ m_trace m_text m_typed m_told m_draft m_s m_past m_known m_images m_kept m_notes m_noted m_at m_sort m_start m_value m_steps m_rows z_m_held) H → va_D A (wcM qa cI cJ cZ m_trace m_text m_typed m_told m_draft m_s m_past m_known m_images m_kept m_notes m_noted m_at m_sort m_start m_value m_steps m_rows z_m_held) → va_S A s.heap H locs → lv_has ls 2 [(0, .ref (qa 0)), (1, .int x1)] → W p l e (headSpec wsX7_holds ({ frames := 0, cells := 0, slots := 0, locals := 0 } : Room)).room s m ([.ref (qa 0)] : List Value).toArray below meth c H locs 0 0 (MQ below (wq_Wv (dC, dI) (wcM qa cI cJ cZ m_trace m_text m_typed m_told m_draft m_s m_past m_known m_images m_kept m_notes m_noted m_at m_sort m_start m_value m_steps m_rows r_m_held) A) ([.ref (qa 0)] : List Value).toArray s 0 0 A) (F0 m 2 ls []) := by
    intro  n
    induction n with
    | zero =>
      intro x1 z_m_held H locs ls hG
      exact absurd (show (none : Option ((Nat → Int32))) = some r_m_held from hG) (by intro h9; cases h9)
    | succ n ih2 =>
      intro x1 z_m_held H locs ls hG hP hD hS hl
      rw [gX7_holds_L2] at hG
      refine lv_iload_n hx hb dX7_holds_2 rfl (lv_at hl 1 rfl) ?_
      refine lv_bipush (v := 8) hx hb dX7_holds_3 (by decide) ?_
      refine lv_icmp_ge (tgt := 26) hx hb dX7_holds_5 (by decide) (fun c1 => ?_) (fun c1 => ?_)
      · replace hG := wq_t c1 hG
        have e0 := Option.some.inj hG
        subst e0
        exact W.vret hx hb hr (fun t ht hW => ⟨⟨(), rfl, trivial, by rw [ht]; exact hP, hD⟩, hS.F ht⟩) hS.2.2 dX7_holds_26
      · replace hG := wq_f c1 hG
        refine lv_aload_n hx hb dX7_holds_8 rfl (lv_at hl 0 rfl) ?_
        refine va_get (D := (dC, dI)) (ci := 7) (v := .ref (qa 11)) (C := RX7) (T := TX7) (N := 19) hx hb hts hinX7 hown hK hP 0 rfl rfl 18 (by decide) k1 (fun _ h9 => h9) rfl dX7_holds_9 ?_
        refine lv_iload_n hx hb dX7_holds_12 rfl (lv_at hl 1 rfl) ?_
        refine lv_aload_n hx hb dX7_holds_13 rfl (lv_at hl 0 rfl) ?_
        refine va_get (D := (dC, dI)) (ci := 7) (v := .ref (qa 4)) (C := RX7) (T := TX7) (N := 19) hx hb hts hinX7 hown hK hP 0 rfl rfl 5 (by decide) k2 (fun _ h9 => h9) rfl dX7_holds_14 ?_
        refine lv_iload_n hx hb dX7_holds_17 rfl (lv_at hl 1 rfl) ?_
        obtain ⟨h2, hG⟩ := wq_chk_s hG
        refine wq_iald (D := (dC, dI)) hx hb hK hP 4 0 rfl rfl h2 (Int32.toNatClampNeg x1) rfl dX7_holds_18 ?_
        refine wq_iast (D := (dC, dI)) hx hb hK hP hD hS 11 0 rfl rfl h2 (Int32.toNatClampNeg x1) rfl (wcM qa cI cJ cZ m_trace m_text m_typed m_told m_draft m_s m_past m_known m_images m_kept m_notes m_noted m_at m_sort m_start m_value m_steps m_rows (upd z_m_held (Int32.toNatClampNeg x1) (m_s (Int32.toNatClampNeg x1)))) rfl dX7_holds_19 (fun H locs hP hD hS => ?_)
        refine lv_iinc (v := (x1 + 1)) (lv' := [(1, .int (x1 + 1)), (0, .ref (qa 0))]) hx hb dX7_holds_20 hl (k := 1) rfl rfl (by decide) rfl (fun ls hl => ?_)
        refine lv_goto (tgt := 2) hx hb dX7_holds_23 (by decide) ?_
        exact ih2 (x1 + 1) (upd z_m_held (Int32.toNatClampNeg x1) (m_s (Int32.toNatClampNeg x1))) _ _ _ hG hP hD hS (lv_sub hl [1, 0] rfl)
  unfold gX7_holds at hG
  refine lv_iconst (v := 0) hx hb dX7_holds_0 (by decide) ?_
  refine lv_istore_n (lv' := [(1, .int 0), (0, .ref (qa 0))]) hx hb dX7_holds_1 rfl hl (by decide) rfl (fun ls hl => ?_)
  exact hL2  1000 0 m_held _ _ _ hG hP hD hS (lv_sub hl [1, 0] rfl)

theorem hdV_X7_lets : yX7_lets.cls = RX7 ∧ yX7_lets.cls ≠ "java/lang/invoke/MethodHandle" ∧ yX7_lets.cls ≠ "java/lang/invoke/VarHandle" ∧ (parseMethodDescriptor yX7_lets.desc).map (fun d => d.parameters.length) = some 0 := by decide +kernel
set_option maxHeartbeats 4000000 in
set_option maxRecDepth 100000 in
theorem C_X7_lets (l : Launch) (dC : Nat → ClassId) (dI : Nat → Nat → Nat) (cI cJ cZ : ClassId) (qa : Nat → Nat) (sz : Nat) (m_trace : Int64) (m_text : Nat → Int32) (m_typed : Int32) (m_told : Nat → Int32) (m_draft : Nat → Int32) (m_s : Nat → Int32) (m_past : Nat → Int32) (m_known : Int32) (m_images : Nat → Int32) (m_kept : Nat → Int32) (m_notes : Nat → Int32) (m_noted : Int32) (m_at : Int32) (m_sort : Int32) (m_start : Int32) (m_value : Int32) (m_steps : Nat → Int32) (m_rows : Nat → Int32) (m_held : Nat → Int32) (r_m_s : Nat → Int32) (hG : gX7_lets m_s m_held = some r_m_s) : Met l yX7_lets wsX7_lets ({ frames := 0, cells := 0, slots := 0, locals := 0 } : Room) (va_Pc [.ref (qa 0)] (wq_pw (dC, dI) [(cI, .int), (cJ, .long), (cZ, .boolean)] (wcM qa cI cJ cZ m_trace m_text m_typed m_told m_draft m_s m_past m_known m_images m_kept m_notes m_noted m_at m_sort m_start m_value m_steps m_rows m_held) sz)) (wq_Wv (dC, dI) (wcM qa cI cJ cZ m_trace m_text m_typed m_told m_draft r_m_s m_past m_known m_images m_kept m_notes m_noted m_at m_sort m_start m_value m_steps m_rows m_held) (va_A (wcM qa cI cJ cZ m_trace m_text m_typed m_told m_draft m_s m_past m_known m_images m_kept m_notes m_noted m_at m_sort m_start m_value m_steps m_rows m_held) sz)) 0 0 (va_A (wcM qa cI cJ cZ m_trace m_text m_typed m_told m_draft m_s m_past m_known m_images m_kept m_notes m_noted m_at m_sort m_start m_value m_steps m_rows m_held) sz) := by
  refine Met.ofW (cc := cX7_lets) (maxL := 2) (ret := none) (by decide) rfl ?_
  intro p e s m args below meth c s₁ B hml hv
  obtain ⟨rfl, hsz, hP, hK, hD0, hE⟩ := hv
  have hx := B.exec
  have hb := B.bytes
  have hr := B.returns
  have hts := atoms_spec (ws := wsX7_lets) B.pre
  have hown : s.vm.findClass RX7 = some m.cls := findClass_of_methodNamed B.named
  have hlocks := B.notSynchronized
  subst hsz
  have hD := hD0.self (sz := s.heap.size)
  generalize hAe : va_A (wcM qa cI cJ cZ m_trace m_text m_typed m_told m_draft m_s m_past m_known m_images m_kept m_notes m_noted m_at m_sort m_start m_value m_steps m_rows m_held) s.heap.size = A at hD hE ⊢
  have hA : ∀ q : Nat, s.heap.size ≤ q → A q := fun q h => by rw [← hAe]; exact Or.inr h
  have hS : va_S A s.heap s.heap [] := va_S.rf
  have hinX7 : ∀ w ∈ u_ws RX7 TX7 19, w ∈ wsX7_lets := by decide +kernel
  have k1 := hts (.fieldLink RX7 19 "DoorMorningsModel" "s" "[I") (by decide +kernel)
  have k2 := hts (.fieldLink RX7 41 "DoorMorningsModel" "held" "[I") (by decide +kernel)
  have hl := lv_entry ([.ref (qa 0)]) (n := 2) (Nat.le_of_ble_eq_true rfl)
  rw [lg_entry_eq]
  generalize (lg_sl ([.ref (qa 0)]) ++ List.replicate (2 - (lg_sl ([.ref (qa 0)])).length) Slot.unset).toArray = ls at hl ⊢
  have hl : lv_has ls 2 [(0, .ref (qa 0))] := hl
  have hL2 : ∀  (n : Nat) (x1 : Int32) (z_m_s : Nat → Int32) (H : Heap) (locs : List Loc) (ls : Array Slot), gX7_lets_L2 m_held n x1 z_m_s = some r_m_s → va_P (dC, dI) vwCl (wcM qa cI cJ cZ m_trace m_text m_typed m_told m_draft z_m_s m_past m_known m_images m_kept m_notes m_noted m_at m_sort m_start m_value m_steps m_rows m_held) H → va_D A (wcM qa cI cJ cZ m_trace m_text m_typed m_told m_draft z_m_s m_past m_known m_images m_kept m_notes m_noted m_at m_sort m_start m_value m_steps m_rows m_held) → va_S A s.heap H locs → lv_has ls 2 [(0, .ref (qa 0)), (1, .int x1)] → W p l e (headSpec wsX7_lets ({ frames := 0, cells := 0, slots := 0, locals := 0 } : Room)).room s m ([.ref (qa 0)] : List Value).toArray below meth c H locs 0 0 (MQ below (wq_Wv (dC, dI) (wcM qa cI cJ cZ m_trace m_text m_typed m_told m_draft r_m_s m_past m_known m_images m_kept m_notes m_noted m_at m_sort m_start m_value m_steps m_rows m_held) A) ([.ref (qa 0)] : List Value).toArray s 0 0 A) (F0 m 2 ls []) := by
    intro  n
    induction n with
    | zero =>
      intro x1 z_m_s H locs ls hG
      exact absurd (show (none : Option ((Nat → Int32))) = some r_m_s from hG) (by intro h9; cases h9)
    | succ n ih2 =>
      intro x1 z_m_s H locs ls hG hP hD hS hl
      rw [gX7_lets_L2] at hG
      refine lv_iload_n hx hb dX7_lets_2 rfl (lv_at hl 1 rfl) ?_
      refine lv_bipush (v := 8) hx hb dX7_lets_3 (by decide) ?_
      refine lv_icmp_ge (tgt := 26) hx hb dX7_lets_5 (by decide) (fun c1 => ?_) (fun c1 => ?_)
      · replace hG := wq_t c1 hG
        have e0 := Option.some.inj hG
        subst e0
        exact W.vret hx hb hr (fun t ht hW => ⟨⟨(), rfl, trivial, by rw [ht]; exact hP, hD⟩, hS.F ht⟩) hS.2.2 dX7_lets_26
      · replace hG := wq_f c1 hG
        refine lv_aload_n hx hb dX7_lets_8 rfl (lv_at hl 0 rfl) ?_
        refine va_get (D := (dC, dI)) (ci := 7) (v := .ref (qa 4)) (C := RX7) (T := TX7) (N := 19) hx hb hts hinX7 hown hK hP 0 rfl rfl 5 (by decide) k1 (fun _ h9 => h9) rfl dX7_lets_9 ?_
        refine lv_iload_n hx hb dX7_lets_12 rfl (lv_at hl 1 rfl) ?_
        refine lv_aload_n hx hb dX7_lets_13 rfl (lv_at hl 0 rfl) ?_
        refine va_get (D := (dC, dI)) (ci := 7) (v := .ref (qa 11)) (C := RX7) (T := TX7) (N := 19) hx hb hts hinX7 hown hK hP 0 rfl rfl 18 (by decide) k2 (fun _ h9 => h9) rfl dX7_lets_14 ?_
        refine lv_iload_n hx hb dX7_lets_17 rfl (lv_at hl 1 rfl) ?_
        obtain ⟨h2, hG⟩ := wq_chk_s hG
        refine wq_iald (D := (dC, dI)) hx hb hK hP 11 0 rfl rfl h2 (Int32.toNatClampNeg x1) rfl dX7_lets_18 ?_
        refine wq_iast (D := (dC, dI)) hx hb hK hP hD hS 4 0 rfl rfl h2 (Int32.toNatClampNeg x1) rfl (wcM qa cI cJ cZ m_trace m_text m_typed m_told m_draft (upd z_m_s (Int32.toNatClampNeg x1) (m_held (Int32.toNatClampNeg x1))) m_past m_known m_images m_kept m_notes m_noted m_at m_sort m_start m_value m_steps m_rows m_held) rfl dX7_lets_19 (fun H locs hP hD hS => ?_)
        refine lv_iinc (v := (x1 + 1)) (lv' := [(1, .int (x1 + 1)), (0, .ref (qa 0))]) hx hb dX7_lets_20 hl (k := 1) rfl rfl (by decide) rfl (fun ls hl => ?_)
        refine lv_goto (tgt := 2) hx hb dX7_lets_23 (by decide) ?_
        exact ih2 (x1 + 1) (upd z_m_s (Int32.toNatClampNeg x1) (m_held (Int32.toNatClampNeg x1))) _ _ _ hG hP hD hS (lv_sub hl [1, 0] rfl)
  unfold gX7_lets at hG
  refine lv_iconst (v := 0) hx hb dX7_lets_0 (by decide) ?_
  refine lv_istore_n (lv' := [(1, .int 0), (0, .ref (qa 0))]) hx hb dX7_lets_1 rfl hl (by decide) rfl (fun ls hl => ?_)
  exact hL2  1000 0 m_s _ _ _ hG hP hD hS (lv_sub hl [1, 0] rfl)

theorem hdV_X7_setback : yX7_setback.cls = RX7 ∧ yX7_setback.cls ≠ "java/lang/invoke/MethodHandle" ∧ yX7_setback.cls ≠ "java/lang/invoke/VarHandle" ∧ (parseMethodDescriptor yX7_setback.desc).map (fun d => d.parameters.length) = some 3 := by decide +kernel
set_option maxHeartbeats 4000000 in
set_option maxRecDepth 100000 in
theorem C_X7_setback (l : Launch) (dC : Nat → ClassId) (dI : Nat → Nat → Nat) (cI cJ cZ : ClassId) (qa : Nat → Nat) (sz : Nat) (m_trace : Int64) (m_text : Nat → Int32) (m_typed : Int32) (m_told : Nat → Int32) (m_draft : Nat → Int32) (m_s : Nat → Int32) (m_past : Nat → Int32) (m_known : Int32) (m_images : Nat → Int32) (m_kept : Nat → Int32) (m_notes : Nat → Int32) (m_noted : Int32) (m_at : Int32) (m_sort : Int32) (m_start : Int32) (m_value : Int32) (m_steps : Nat → Int32) (m_rows : Nat → Int32) (m_held : Nat → Int32) (a1 : Int32) (a2 : Int32) (a3 : Int32) (r0 : Int32) (r_m_s : Nat → Int32) (r_m_steps : Nat → Int32) (r_m_rows : Nat → Int32) (r_m_held : Nat → Int32) (hG : gX7_setback m_told m_s m_steps m_rows m_held a1 a2 a3 = some (r0, r_m_s, r_m_steps, r_m_rows, r_m_held)) : Met l yX7_setback wsX7_setback ({ frames := 5, cells := 0, slots := 0, locals := 119 } : Room) (va_Pc [.ref (qa 0), .int a1, .int a2, .int a3] (wq_pw (dC, dI) [(cI, .int), (cJ, .long), (cZ, .boolean)] (wcM qa cI cJ cZ m_trace m_text m_typed m_told m_draft m_s m_past m_known m_images m_kept m_notes m_noted m_at m_sort m_start m_value m_steps m_rows m_held) sz)) (wq_Wi (dC, dI) r0 wq_tr (wcM qa cI cJ cZ m_trace m_text m_typed m_told m_draft r_m_s m_past m_known m_images m_kept m_notes m_noted m_at m_sort m_start m_value r_m_steps r_m_rows r_m_held) (va_A (wcM qa cI cJ cZ m_trace m_text m_typed m_told m_draft m_s m_past m_known m_images m_kept m_notes m_noted m_at m_sort m_start m_value m_steps m_rows m_held) sz)) 0 0 (va_A (wcM qa cI cJ cZ m_trace m_text m_typed m_told m_draft m_s m_past m_known m_images m_kept m_notes m_noted m_at m_sort m_start m_value m_steps m_rows m_held) sz) := by
  refine Met.ofW (cc := cX7_setback) (maxL := 6) (ret := (some .int)) (by decide) rfl ?_
  intro p e s m args below meth c s₁ B hml hv
  obtain ⟨rfl, hsz, hP, hK, hD0, hE⟩ := hv
  have hx := B.exec
  have hb := B.bytes
  have hr := B.returns
  have hts := atoms_spec (ws := wsX7_setback) B.pre
  have hown : s.vm.findClass RX7 = some m.cls := findClass_of_methodNamed B.named
  have hlocks := B.notSynchronized
  subst hsz
  have hD := hD0.self (sz := s.heap.size)
  generalize hAe : va_A (wcM qa cI cJ cZ m_trace m_text m_typed m_told m_draft m_s m_past m_known m_images m_kept m_notes m_noted m_at m_sort m_start m_value m_steps m_rows m_held) s.heap.size = A at hD hE ⊢
  have hA : ∀ q : Nat, s.heap.size ≤ q → A q := fun q h => by rw [← hAe]; exact Or.inr h
  have hS : va_S A s.heap s.heap [] := va_S.rf
  have hinX7 : ∀ w ∈ u_ws RX7 TX7 19, w ∈ wsX7_setback := by decide +kernel
  have k1 := hts (.fieldLink RX7 19 "DoorMorningsModel" "s" "[I") (by decide +kernel)
  have k2 := hts (.constant RX7 169 (-1000000)) (by decide +kernel)
  have hl := lv_entry ([.ref (qa 0), .int a1, .int a2, .int a3]) (n := 6) (Nat.le_of_ble_eq_true rfl)
  rw [lg_entry_eq]
  generalize (lg_sl ([.ref (qa 0), .int a1, .int a2, .int a3]) ++ List.replicate (6 - (lg_sl ([.ref (qa 0), .int a1, .int a2, .int a3])).length) Slot.unset).toArray = ls at hl ⊢
  have hl : lv_has ls 6 [(0, .ref (qa 0)), (1, .int a1), (2, .int a2), (3, .int a3)] := hl
  unfold gX7_setback at hG
  refine lv_aload_n hx hb dX7_setback_0 rfl (lv_at hl 0 rfl) ?_
  refine lv_iload_n hx hb dX7_setback_1 rfl (lv_at hl 1 rfl) ?_
  refine lv_iload_n hx hb dX7_setback_2 rfl (lv_at hl 2 rfl) ?_
  refine lv_iload_n hx hb dX7_setback_3 rfl (lv_at hl 3 rfl) ?_
  obtain ⟨v2, g1, hG⟩ := wq_b1_s hG
  refine wq_ci (v := v2) (B := wq_Z1) (va_runV (As := [.int a1, .int a2, .int a3]) (rest := []) ⟨hx, hb, hml, hown, hts⟩ (C_X7_isMorning l dC dI cI cJ cZ qa s.heap.size m_trace m_text m_typed m_told m_draft m_s m_past m_known m_images m_kept m_notes m_noted m_at m_sort m_start m_value m_steps m_rows m_held a1 a2 a3 v2 g1) (cwV 3 hts gX7_setback_X7_isMorning rfl rfl rfl hdV_X7_isMorning ⟨Nat.le_of_ble_eq_true rfl, Nat.le_of_ble_eq_true rfl⟩) (wq_ppV hK hP hE hS hA (ci := 7) (q0 := 0) rfl rfl) rfl rfl hl.1 rfl (lv_room (Nat.le_of_ble_eq_true rfl)) dX7_setback_4 ⟨Nat.zero_le _, Nat.zero_le _⟩) hS hA (fun H locs b3 hk hS => ?_)
  replace hP := wq_kp hP hk
  clear hk
  refine lv_if_ne (tgt := 13) hx hb dX7_setback_7 (by decide) (fun c4 => ?_) (fun c4 => ?_)
  · replace hG := wq_f c4 hG
    refine lv_aload_n hx hb dX7_setback_13 rfl (lv_at hl 0 rfl) ?_
    refine lv_aload_n hx hb dX7_setback_14 rfl (lv_at hl 0 rfl) ?_
    refine va_get (D := (dC, dI)) (ci := 7) (v := .ref (qa 4)) (C := RX7) (T := TX7) (N := 19) hx hb hts hinX7 hown hK hP 0 rfl rfl 5 (by decide) k1 (fun _ h9 => h9) rfl dX7_setback_15 ?_
    refine lv_iconst (v := 1) hx hb dX7_setback_18 (by decide) ?_
    refine wq_iald (D := (dC, dI)) hx hb hK hP 4 0 rfl rfl (wq_lit (by decide)) 1 rfl dX7_setback_19 ?_
    refine lv_aload_n hx hb dX7_setback_20 rfl (lv_at hl 0 rfl) ?_
    refine va_get (D := (dC, dI)) (ci := 7) (v := .ref (qa 4)) (C := RX7) (T := TX7) (N := 19) hx hb hts hinX7 hown hK hP 0 rfl rfl 5 (by decide) k1 (fun _ h9 => h9) rfl dX7_setback_21 ?_
    refine lv_iconst (v := 4) hx hb dX7_setback_24 (by decide) ?_
    refine lv_iload_n hx hb dX7_setback_25 rfl (lv_at hl 3 rfl) ?_
    refine lv_iadd hx hb dX7_setback_26 ?_
    obtain ⟨h5, hG⟩ := wq_chk_s hG
    refine wq_iald (D := (dC, dI)) hx hb hK hP 4 0 rfl rfl h5 (Int32.toNatClampNeg (4 + a3)) rfl dX7_setback_27 ?_
    obtain ⟨v7, w8, w9, g6, hG⟩ := wq_b3_s hG
    have hFc := va_free (wc := wcM qa cI cJ cZ m_trace m_text m_typed m_told m_draft m_s m_past m_known m_images m_kept m_notes m_noted m_at m_sort m_start m_value m_steps m_rows m_held) hD hS hA [0, 1, 2, 3, 4, 5, 6, 7, 8, 9, 10, 11] rfl
    refine wq_di (D := (dC, dI)) (v := v7) (B := wq_tr) (wr := []) (w1 := wcM qa cI cJ cZ m_trace m_text m_typed m_told m_draft m_s m_past m_known m_images m_kept m_notes m_noted m_at m_sort m_start m_value w8 w9 m_held) (w2 := wcM qa cI cJ cZ m_trace m_text m_typed m_told m_draft m_s m_past m_known m_images m_kept m_notes m_noted m_at m_sort m_start m_value w8 w9 m_held) (va_runV (As := [.int (m_s 1), .int (m_s (Int32.toNatClampNeg (4 + a3)))]) (rest := []) ⟨hx, hb, hml, hown, hts⟩ (C_X7_reckons l dC dI cI cJ cZ qa H.size m_trace m_text m_typed m_told m_draft m_s m_past m_known m_images m_kept m_notes m_noted m_at m_sort m_start m_value m_steps m_rows m_held (m_s 1) (m_s (Int32.toNatClampNeg (4 + a3))) v7 w8 w9 g6) (cwV 2 hts gX7_setback_X7_reckons rfl rfl rfl hdV_X7_reckons ⟨Nat.le_of_ble_eq_true rfl, Nat.le_of_ble_eq_true rfl⟩) (wq_pwV hK hP hD hE hS hFc (ci := 7) (q0 := 0) rfl rfl) rfl rfl hl.1 rfl (lv_room (Nat.le_of_ble_eq_true rfl)) dX7_setback_28 ⟨Nat.zero_le _, Nat.zero_le _⟩) hP hD hS hFc [0, 1, 2, 3, 4, 5, 6, 7, 8, 9, 10, 11] [] [0, 1, 2, 3, 4, 5, 6, 7, 8, 9, 10, 11] rfl rfl (by decide) (by decide) (by decide) rfl (fun H locs b10 hP hD hS => ?_)
    clear hFc
    refine lv_istore (lv' := [(4, .int v7), (0, .ref (qa 0)), (1, .int a1), (2, .int a2), (3, .int a3)]) hx hb dX7_setback_31 hl (by decide) rfl (fun ls hl => ?_)
    refine lv_aload_n hx hb dX7_setback_33 rfl (lv_at hl 1 rfl) ?_
    obtain ⟨w12, g11, hG⟩ := wq_b1_s hG
    have hFc := va_free (wc := wcM qa cI cJ cZ m_trace m_text m_typed m_told m_draft m_s m_past m_known m_images m_kept m_notes m_noted m_at m_sort m_start m_value w8 w9 m_held) hD hS hA [0, 1, 2, 3, 4, 5, 6, 7, 8, 9, 10, 11] rfl
    refine wq_dv (D := (dC, dI)) (wr := []) (w1 := wcM qa cI cJ cZ m_trace m_text m_typed m_told m_draft m_s m_past m_known m_images m_kept m_notes m_noted m_at m_sort m_start m_value w8 w9 w12) (w2 := wcM qa cI cJ cZ m_trace m_text m_typed m_told m_draft m_s m_past m_known m_images m_kept m_notes m_noted m_at m_sort m_start m_value w8 w9 w12) (va_runV (As := []) (rest := []) ⟨hx, hb, hml, hown, hts⟩ (C_X7_holds l dC dI cI cJ cZ qa H.size m_trace m_text m_typed m_told m_draft m_s m_past m_known m_images m_kept m_notes m_noted m_at m_sort m_start m_value w8 w9 m_held  w12 g11) (cwV 0 hts gX7_setback_X7_holds rfl rfl rfl hdV_X7_holds ⟨Nat.le_of_ble_eq_true rfl, Nat.le_of_ble_eq_true rfl⟩) (wq_pwV hK hP hD hE hS hFc (ci := 7) (q0 := 0) rfl rfl) rfl rfl hl.1 rfl (lv_room (Nat.le_of_ble_eq_true rfl)) dX7_setback_34 ⟨Nat.zero_le _, Nat.zero_le _⟩) hP hD hS hFc [0, 1, 2, 3, 4, 5, 6, 7, 8, 9, 10, 11] [] [0, 1, 2, 3, 4, 5, 6, 7, 8, 9, 10, 11] rfl rfl (by decide) (by decide) (by decide) rfl (fun H locs hP hD hS => ?_)
    clear hFc
    refine lv_aload_n hx hb dX7_setback_37 rfl (lv_at hl 1 rfl) ?_
    refine lv_iload_n hx hb dX7_setback_38 rfl (lv_at hl 2 rfl) ?_
    refine lv_iload_n hx hb dX7_setback_39 rfl (lv_at hl 3 rfl) ?_
    refine lv_iload_n hx hb dX7_setback_40 rfl (lv_at hl 4 rfl) ?_
    obtain ⟨v14, w15, g13, hG⟩ := wq_b2_s hG
    have hFc := va_free (wc := wcM qa cI cJ cZ m_trace m_text m_typed m_told m_draft m_s m_past m_known m_images m_kept m_notes m_noted m_at m_sort m_start m_value w8 w9 w12) hD hS hA [0, 1, 2, 3, 4, 5, 6, 7, 8, 9, 10, 11] rfl
    refine wq_di (D := (dC, dI)) (v := v14) (B := wq_tr) (wr := []) (w1 := wcM qa cI cJ cZ m_trace m_text m_typed m_told m_draft w15 m_past m_known m_images m_kept m_notes m_noted m_at m_sort m_start m_value w8 w9 w12) (w2 := wcM qa cI cJ cZ m_trace m_text m_typed m_told m_draft w15 m_past m_known m_images m_kept m_notes m_noted m_at m_sort m_start m_value w8 w9 w12) (va_runV (As := [.int a1, .int a2, .int a3]) (rest := []) ⟨hx, hb, hml, hown, hts⟩ (C_X7_goes l dC dI cI cJ cZ qa H.size m_trace m_text m_typed m_told m_draft m_s m_past m_known m_images m_kept m_notes m_noted m_at m_sort m_start m_value w8 w9 w12 a1 a2 a3 v14 w15 g13) (cwV 3 hts gX7_setback_X7_goes rfl rfl rfl hdV_X7_goes ⟨Nat.le_of_ble_eq_true rfl, Nat.le_of_ble_eq_true rfl⟩) (wq_pwV hK hP hD hE hS hFc (ci := 7) (q0 := 0) rfl rfl) rfl rfl hl.1 rfl (lv_room (Nat.le_of_ble_eq_true rfl)) dX7_setback_41 ⟨Nat.zero_le _, Nat.zero_le _⟩) hP hD hS hFc [0, 1, 2, 3, 4, 5, 6, 7, 8, 9, 10, 11] [] [0, 1, 2, 3, 4, 5, 6, 7, 8, 9, 10, 11] rfl rfl (by decide) (by decide) (by decide) rfl (fun H locs b16 hP hD hS => ?_)
    clear hFc
    refine lv_pop hx hb dX7_setback_44 rfl ?_
    refine lv_aload_n hx hb dX7_setback_45 rfl (lv_at hl 1 rfl) ?_
    refine lv_aload_n hx hb dX7_setback_46 rfl (lv_at hl 1 rfl) ?_
    refine va_get (D := (dC, dI)) (ci := 7) (v := .ref (qa 4)) (C := RX7) (T := TX7) (N := 19) hx hb hts hinX7 hown hK hP 0 rfl rfl 5 (by decide) k1 (fun _ h9 => h9) rfl dX7_setback_47 ?_
    refine lv_iconst (v := 1) hx hb dX7_setback_50 (by decide) ?_
    refine wq_iald (D := (dC, dI)) hx hb hK hP 4 0 rfl rfl (wq_lit (by decide)) 1 rfl dX7_setback_51 ?_
    refine lv_aload_n hx hb dX7_setback_52 rfl (lv_at hl 1 rfl) ?_
    refine va_get (D := (dC, dI)) (ci := 7) (v := .ref (qa 4)) (C := RX7) (T := TX7) (N := 19) hx hb hts hinX7 hown hK hP 0 rfl rfl 5 (by decide) k1 (fun _ h9 => h9) rfl dX7_setback_53 ?_
    refine lv_iconst (v := 4) hx hb dX7_setback_56 (by decide) ?_
    refine lv_iload_n hx hb dX7_setback_57 rfl (lv_at hl 4 rfl) ?_
    refine lv_iadd hx hb dX7_setback_58 ?_
    refine wq_iald (D := (dC, dI)) hx hb hK hP 4 0 rfl rfl h5 (Int32.toNatClampNeg (4 + a3)) rfl dX7_setback_59 ?_
    obtain ⟨v18, w19, w20, g17, hG⟩ := wq_b3_s hG
    have hFc := va_free (wc := wcM qa cI cJ cZ m_trace m_text m_typed m_told m_draft w15 m_past m_known m_images m_kept m_notes m_noted m_at m_sort m_start m_value w8 w9 w12) hD hS hA [0, 1, 2, 3, 4, 5, 6, 7, 8, 9, 10, 11] rfl
    refine wq_di (D := (dC, dI)) (v := v18) (B := wq_tr) (wr := []) (w1 := wcM qa cI cJ cZ m_trace m_text m_typed m_told m_draft w15 m_past m_known m_images m_kept m_notes m_noted m_at m_sort m_start m_value w19 w20 w12) (w2 := wcM qa cI cJ cZ m_trace m_text m_typed m_told m_draft w15 m_past m_known m_images m_kept m_notes m_noted m_at m_sort m_start m_value w19 w20 w12) (va_runV (As := [.int (w15 1), .int (w15 (Int32.toNatClampNeg (4 + a3)))]) (rest := []) ⟨hx, hb, hml, hown, hts⟩ (C_X7_reckons l dC dI cI cJ cZ qa H.size m_trace m_text m_typed m_told m_draft w15 m_past m_known m_images m_kept m_notes m_noted m_at m_sort m_start m_value w8 w9 w12 (w15 1) (w15 (Int32.toNatClampNeg (4 + a3))) v18 w19 w20 g17) (cwV 2 hts gX7_setback_X7_reckons rfl rfl rfl hdV_X7_reckons ⟨Nat.le_of_ble_eq_true rfl, Nat.le_of_ble_eq_true rfl⟩) (wq_pwV hK hP hD hE hS hFc (ci := 7) (q0 := 0) rfl rfl) rfl rfl hl.1 rfl (lv_room (Nat.le_of_ble_eq_true rfl)) dX7_setback_60 ⟨Nat.zero_le _, Nat.zero_le _⟩) hP hD hS hFc [0, 1, 2, 3, 4, 5, 6, 7, 8, 9, 10, 11] [] [0, 1, 2, 3, 4, 5, 6, 7, 8, 9, 10, 11] rfl rfl (by decide) (by decide) (by decide) rfl (fun H locs b21 hP hD hS => ?_)
    clear hFc
    refine lv_istore (lv' := [(5, .int v18), (4, .int v7), (0, .ref (qa 0)), (1, .int a1), (2, .int a2), (3, .int a3)]) hx hb dX7_setback_63 hl (by decide) rfl (fun ls hl => ?_)
    refine lv_aload_n hx hb dX7_setback_65 rfl (lv_at hl 2 rfl) ?_
    obtain ⟨w23, g22, hG⟩ := wq_b1_s hG
    have hFc := va_free (wc := wcM qa cI cJ cZ m_trace m_text m_typed m_told m_draft w15 m_past m_known m_images m_kept m_notes m_noted m_at m_sort m_start m_value w19 w20 w12) hD hS hA [0, 1, 2, 3, 4, 5, 6, 7, 8, 9, 10, 11] rfl
    refine wq_dv (D := (dC, dI)) (wr := []) (w1 := wcM qa cI cJ cZ m_trace m_text m_typed m_told m_draft w23 m_past m_known m_images m_kept m_notes m_noted m_at m_sort m_start m_value w19 w20 w12) (w2 := wcM qa cI cJ cZ m_trace m_text m_typed m_told m_draft w23 m_past m_known m_images m_kept m_notes m_noted m_at m_sort m_start m_value w19 w20 w12) (va_runV (As := []) (rest := []) ⟨hx, hb, hml, hown, hts⟩ (C_X7_lets l dC dI cI cJ cZ qa H.size m_trace m_text m_typed m_told m_draft w15 m_past m_known m_images m_kept m_notes m_noted m_at m_sort m_start m_value w19 w20 w12  w23 g22) (cwV 0 hts gX7_setback_X7_lets rfl rfl rfl hdV_X7_lets ⟨Nat.le_of_ble_eq_true rfl, Nat.le_of_ble_eq_true rfl⟩) (wq_pwV hK hP hD hE hS hFc (ci := 7) (q0 := 0) rfl rfl) rfl rfl hl.1 rfl (lv_room (Nat.le_of_ble_eq_true rfl)) dX7_setback_66 ⟨Nat.zero_le _, Nat.zero_le _⟩) hP hD hS hFc [0, 1, 2, 3, 4, 5, 6, 7, 8, 9, 10, 11] [] [0, 1, 2, 3, 4, 5, 6, 7, 8, 9, 10, 11] rfl rfl (by decide) (by decide) (by decide) rfl (fun H locs hP hD hS => ?_)
    clear hFc
    refine lv_iload hx hb dX7_setback_69 (lv_at hl 1 rfl) ?_
    refine lv_bipush (v := (-9)) hx hb dX7_setback_71 (by decide) ?_
    refine lv_icmp_eq (tgt := 83) hx hb dX7_setback_73 (by decide) (fun c24 => ?_) (fun c24 => ?_)
    · replace hG := wq_t c24 hG
      refine lv_ldc (v := (-1000000)) hx hb hown k2 dX7_setback_83 ?_
      refine lv_goto (tgt := 93) hx hb dX7_setback_85 (by decide) ?_
      obtain ⟨e0, e1, e2, e3, e4⟩ := wq_j5 hG
      subst e0
      subst e1
      subst e2
      subst e3
      subst e4
      exact W.iret hx hb hr (fun t ht hW => ⟨⟨_, (), rfl, ⟨rfl, trivial⟩, by rw [ht]; exact hP, hD⟩, hS.F ht⟩) hS.2.2 dX7_setback_93
    · replace hG := wq_f c24 hG
      refine lv_iload hx hb dX7_setback_76 (lv_at hl 0 rfl) ?_
      refine lv_bipush (v := (-9)) hx hb dX7_setback_78 (by decide) ?_
      refine lv_icmp_ne (tgt := 88) hx hb dX7_setback_80 (by decide) (fun c25 => ?_) (fun c25 => ?_)
      · replace hG := wq_f c25 hG
        refine lv_iload hx hb dX7_setback_88 (lv_at hl 0 rfl) ?_
        refine lv_iload hx hb dX7_setback_90 (lv_at hl 1 rfl) ?_
        refine lv_isub hx hb dX7_setback_92 ?_
        obtain ⟨e0, e1, e2, e3, e4⟩ := wq_j5 hG
        subst e0
        subst e1
        subst e2
        subst e3
        subst e4
        exact W.iret hx hb hr (fun t ht hW => ⟨⟨_, (), rfl, ⟨rfl, trivial⟩, by rw [ht]; exact hP, hD⟩, hS.F ht⟩) hS.2.2 dX7_setback_93
      · replace hG := wq_t c25 hG
        refine lv_ldc (v := (-1000000)) hx hb hown k2 dX7_setback_83 ?_
        refine lv_goto (tgt := 93) hx hb dX7_setback_85 (by decide) ?_
        obtain ⟨e0, e1, e2, e3, e4⟩ := wq_j5 hG
        subst e0
        subst e1
        subst e2
        subst e3
        subst e4
        exact W.iret hx hb hr (fun t ht hW => ⟨⟨_, (), rfl, ⟨rfl, trivial⟩, by rw [ht]; exact hP, hD⟩, hS.F ht⟩) hS.2.2 dX7_setback_93
  · replace hG := wq_t c4 hG
    refine lv_ldc (v := (-1000000)) hx hb hown k2 dX7_setback_10 ?_
    obtain ⟨e0, e1, e2, e3, e4⟩ := wq_j5 hG
    subst e0
    subst e1
    subst e2
    subst e3
    subst e4
    exact W.iret hx hb hr (fun t ht hW => ⟨⟨_, (), rfl, ⟨rfl, trivial⟩, by rw [ht]; exact hP, hD⟩, hS.F ht⟩) hS.2.2 dX7_setback_12

theorem hdV_X7_odds : yX7_odds.cls = RX7 ∧ yX7_odds.cls ≠ "java/lang/invoke/MethodHandle" ∧ yX7_odds.cls ≠ "java/lang/invoke/VarHandle" ∧ (parseMethodDescriptor yX7_odds.desc).map (fun d => d.parameters.length) = some 7 := by decide +kernel
set_option maxHeartbeats 4000000 in
set_option maxRecDepth 100000 in
theorem C_X7_odds (l : Launch) (dC : Nat → ClassId) (dI : Nat → Nat → Nat) (cI cJ cZ : ClassId) (qa : Nat → Nat) (sz : Nat) (m_trace : Int64) (m_text : Nat → Int32) (m_typed : Int32) (m_told : Nat → Int32) (m_draft : Nat → Int32) (m_s : Nat → Int32) (m_past : Nat → Int32) (m_known : Int32) (m_images : Nat → Int32) (m_kept : Nat → Int32) (m_notes : Nat → Int32) (m_noted : Int32) (m_at : Int32) (m_sort : Int32) (m_start : Int32) (m_value : Int32) (m_steps : Nat → Int32) (m_rows : Nat → Int32) (m_held : Nat → Int32) (a1 : Int32) (a2 : Int32) (a3 : Int32) (a4 : Int32) (a5 : Int32) (a6 : Int32) (a7 : Int32) (r0 : Int32) (r_m_s : Nat → Int32) (r_m_held : Nat → Int32) (hG : gX7_odds m_told m_s m_held a1 a2 a3 a4 a5 a6 a7 = some (r0, r_m_s, r_m_held)) : Met l yX7_odds wsX7_odds ({ frames := 4, cells := 0, slots := 0, locals := 94 } : Room) (va_Pc [.ref (qa 0), .int a1, .int a2, .int a3, .int a4, .int a5, .int a6, .int a7] (wq_pw (dC, dI) [(cI, .int), (cJ, .long), (cZ, .boolean)] (wcM qa cI cJ cZ m_trace m_text m_typed m_told m_draft m_s m_past m_known m_images m_kept m_notes m_noted m_at m_sort m_start m_value m_steps m_rows m_held) sz)) (wq_Wi (dC, dI) r0 wq_tr (wcM qa cI cJ cZ m_trace m_text m_typed m_told m_draft r_m_s m_past m_known m_images m_kept m_notes m_noted m_at m_sort m_start m_value m_steps m_rows r_m_held) (va_A (wcM qa cI cJ cZ m_trace m_text m_typed m_told m_draft m_s m_past m_known m_images m_kept m_notes m_noted m_at m_sort m_start m_value m_steps m_rows m_held) sz)) 0 0 (va_A (wcM qa cI cJ cZ m_trace m_text m_typed m_told m_draft m_s m_past m_known m_images m_kept m_notes m_noted m_at m_sort m_start m_value m_steps m_rows m_held) sz) := by
  refine Met.ofW (cc := cX7_odds) (maxL := 13) (ret := (some .int)) (by decide) rfl ?_
  intro p e s m args below meth c s₁ B hml hv
  obtain ⟨rfl, hsz, hP, hK, hD0, hE⟩ := hv
  have hx := B.exec
  have hb := B.bytes
  have hr := B.returns
  have hts := atoms_spec (ws := wsX7_odds) B.pre
  have hown : s.vm.findClass RX7 = some m.cls := findClass_of_methodNamed B.named
  have hlocks := B.notSynchronized
  subst hsz
  have hD := hD0.self (sz := s.heap.size)
  generalize hAe : va_A (wcM qa cI cJ cZ m_trace m_text m_typed m_told m_draft m_s m_past m_known m_images m_kept m_notes m_noted m_at m_sort m_start m_value m_steps m_rows m_held) s.heap.size = A at hD hE ⊢
  have hA : ∀ q : Nat, s.heap.size ≤ q → A q := fun q h => by rw [← hAe]; exact Or.inr h
  have hS : va_S A s.heap s.heap [] := va_S.rf
  have hinX7 : ∀ w ∈ u_ws RX7 TX7 19, w ∈ wsX7_odds := by decide +kernel
  have k1 := hts (.fieldLink RX7 13 "DoorMorningsModel" "told" "[I") (by decide +kernel)
  have hl := lv_entry ([.ref (qa 0), .int a1, .int a2, .int a3, .int a4, .int a5, .int a6, .int a7]) (n := 13) (Nat.le_of_ble_eq_true rfl)
  rw [lg_entry_eq]
  generalize (lg_sl ([.ref (qa 0), .int a1, .int a2, .int a3, .int a4, .int a5, .int a6, .int a7]) ++ List.replicate (13 - (lg_sl ([.ref (qa 0), .int a1, .int a2, .int a3, .int a4, .int a5, .int a6, .int a7])).length) Slot.unset).toArray = ls at hl ⊢
  have hl : lv_has ls 13 [(0, .ref (qa 0)), (1, .int a1), (2, .int a2), (3, .int a3), (4, .int a4), (5, .int a5), (6, .int a6), (7, .int a7)] := hl
  have hL172 : ∀ (z_m_s : Nat → Int32) (z_m_held : Nat → Int32) (x8 : Int32) (x9 : Int32) (n : Nat) (x10 : Int32) (x11 : Int32) (H : Heap) (locs : List Loc) (ls : Array Slot), gX7_odds_L172 z_m_s z_m_held a7 x8 x9 n x10 x11 = some (r0, r_m_s, r_m_held) → va_P (dC, dI) vwCl (wcM qa cI cJ cZ m_trace m_text m_typed m_told m_draft z_m_s m_past m_known m_images m_kept m_notes m_noted m_at m_sort m_start m_value m_steps m_rows z_m_held) H → va_D A (wcM qa cI cJ cZ m_trace m_text m_typed m_told m_draft z_m_s m_past m_known m_images m_kept m_notes m_noted m_at m_sort m_start m_value m_steps m_rows z_m_held) → va_S A s.heap H locs → lv_has ls 13 [(7, .int a7), (8, .int x8), (9, .int x9), (10, .int x10), (11, .int x11)] → W p l e (headSpec wsX7_odds ({ frames := 4, cells := 0, slots := 0, locals := 94 } : Room)).room s m ([.ref (qa 0), .int a1, .int a2, .int a3, .int a4, .int a5, .int a6, .int a7] : List Value).toArray below meth c H locs 0 0 (MQ below (wq_Wi (dC, dI) r0 wq_tr (wcM qa cI cJ cZ m_trace m_text m_typed m_told m_draft r_m_s m_past m_known m_images m_kept m_notes m_noted m_at m_sort m_start m_value m_steps m_rows r_m_held) A) ([.ref (qa 0), .int a1, .int a2, .int a3, .int a4, .int a5, .int a6, .int a7] : List Value).toArray s 0 0 A) (F0 m 172 ls []) := by
    intro z_m_s z_m_held x8 x9 n
    induction n with
    | zero =>
      intro x10 x11 H locs ls hG
      exact absurd (show (none : Option (Int32 × (Nat → Int32) × (Nat → Int32))) = some (r0, r_m_s, r_m_held) from hG) (by intro h9; cases h9)
    | succ n ih172 =>
      intro x10 x11 H locs ls hG hP hD hS hl
      rw [gX7_odds_L172] at hG
      refine lv_iload hx hb dX7_odds_172 (lv_at hl 4 rfl) ?_
      refine lv_if_le (tgt := 195) hx hb dX7_odds_174 (by decide) (fun c1 => ?_) (fun c1 => ?_)
      · replace hG := wq_t c1 hG
        refine lv_iload hx hb dX7_odds_195 (lv_at hl 0 rfl) ?_
        refine lv_if_ne (tgt := 208) hx hb dX7_odds_197 (by decide) (fun c2 => ?_) (fun c2 => ?_)
        · replace hG := wq_f c2 hG
          refine lv_iload hx hb dX7_odds_208 (lv_at hl 2 rfl) ?_
          refine lv_iload hx hb dX7_odds_210 (lv_at hl 3 rfl) ?_
          obtain ⟨z3, hG⟩ := wq_nz_s hG
          refine lv_idiv hx hb dX7_odds_212 z3 ?_
          obtain ⟨e0, e1, e2⟩ := wq_j3 hG
          subst e0
          subst e1
          subst e2
          exact W.iret hx hb hr (fun t ht hW => ⟨⟨_, (), rfl, ⟨rfl, trivial⟩, by rw [ht]; exact hP, hD⟩, hS.F ht⟩) hS.2.2 dX7_odds_213
        · replace hG := wq_t c2 hG
          refine lv_iload hx hb dX7_odds_200 (lv_at hl 1 rfl) ?_
          refine lv_iload hx hb dX7_odds_202 (lv_at hl 3 rfl) ?_
          obtain ⟨z4, hG⟩ := wq_nz_s hG
          refine lv_idiv hx hb dX7_odds_204 z4 ?_
          refine lv_goto (tgt := 213) hx hb dX7_odds_205 (by decide) ?_
          obtain ⟨e0, e1, e2⟩ := wq_j3 hG
          subst e0
          subst e1
          subst e2
          exact W.iret hx hb hr (fun t ht hW => ⟨⟨_, (), rfl, ⟨rfl, trivial⟩, by rw [ht]; exact hP, hD⟩, hS.F ht⟩) hS.2.2 dX7_odds_213
      · replace hG := wq_f c1 hG
        refine lv_iload hx hb dX7_odds_177 (lv_at hl 3 rfl) ?_
        refine lv_iload hx hb dX7_odds_179 (lv_at hl 4 rfl) ?_
        obtain ⟨z5, hG⟩ := wq_nz_s hG
        refine lv_irem hx hb dX7_odds_181 z5 ?_
        refine lv_istore (lv' := [(12, .int (x10 - x10 / x11 * x11)), (7, .int a7), (8, .int x8), (9, .int x9), (10, .int x10), (11, .int x11)]) hx hb dX7_odds_182 hl (by decide) rfl (fun ls hl => ?_)
        refine lv_iload hx hb dX7_odds_184 (lv_at hl 5 rfl) ?_
        refine lv_istore (lv' := [(10, .int x11), (12, .int (x10 - x10 / x11 * x11)), (7, .int a7), (8, .int x8), (9, .int x9), (11, .int x11)]) hx hb dX7_odds_186 hl (by decide) rfl (fun ls hl => ?_)
        refine lv_iload hx hb dX7_odds_188 (lv_at hl 1 rfl) ?_
        refine lv_istore (lv' := [(11, .int (x10 - x10 / x11 * x11)), (10, .int x11), (12, .int (x10 - x10 / x11 * x11)), (7, .int a7), (8, .int x8), (9, .int x9)]) hx hb dX7_odds_190 hl (by decide) rfl (fun ls hl => ?_)
        refine lv_goto (tgt := 172) hx hb dX7_odds_192 (by decide) ?_
        exact ih172 x11 (x10 - x10 / x11 * x11) _ _ _ hG hP hD hS (lv_sub hl [3, 4, 5, 1, 0] rfl)
  have hL67 : ∀ (z_m_held : Nat → Int32) (n : Nat) (x8 : Int32) (x9 : Int32) (x10 : Int32) (z_m_s : Nat → Int32) (H : Heap) (locs : List Loc) (ls : Array Slot), gX7_odds_L67 m_told z_m_held a1 a2 a3 a4 a5 a6 a7 n x8 x9 x10 z_m_s = some (r0, r_m_s, r_m_held) → va_P (dC, dI) vwCl (wcM qa cI cJ cZ m_trace m_text m_typed m_told m_draft z_m_s m_past m_known m_images m_kept m_notes m_noted m_at m_sort m_start m_value m_steps m_rows z_m_held) H → va_D A (wcM qa cI cJ cZ m_trace m_text m_typed m_told m_draft z_m_s m_past m_known m_images m_kept m_notes m_noted m_at m_sort m_start m_value m_steps m_rows z_m_held) → va_S A s.heap H locs → lv_has ls 13 [(0, .ref (qa 0)), (1, .int a1), (2, .int a2), (3, .int a3), (4, .int a4), (5, .int a5), (6, .int a6), (7, .int a7), (8, .int x8), (9, .int x9), (10, .int x10)] → W p l e (headSpec wsX7_odds ({ frames := 4, cells := 0, slots := 0, locals := 94 } : Room)).room s m ([.ref (qa 0), .int a1, .int a2, .int a3, .int a4, .int a5, .int a6, .int a7] : List Value).toArray below meth c H locs 0 0 (MQ below (wq_Wi (dC, dI) r0 wq_tr (wcM qa cI cJ cZ m_trace m_text m_typed m_told m_draft r_m_s m_past m_known m_images m_kept m_notes m_noted m_at m_sort m_start m_value m_steps m_rows r_m_held) A) ([.ref (qa 0), .int a1, .int a2, .int a3, .int a4, .int a5, .int a6, .int a7] : List Value).toArray s 0 0 A) (F0 m 67 ls []) := by
    intro z_m_held n
    induction n with
    | zero =>
      intro x8 x9 x10 z_m_s H locs ls hG
      exact absurd (show (none : Option (Int32 × (Nat → Int32) × (Nat → Int32))) = some (r0, r_m_s, r_m_held) from hG) (by intro h9; cases h9)
    | succ n ih67 =>
      intro x8 x9 x10 z_m_s H locs ls hG hP hD hS hl
      rw [gX7_odds_L67] at hG
      refine lv_iload hx hb dX7_odds_67 (lv_at hl 10 rfl) ?_
      refine lv_iload hx hb dX7_odds_69 (lv_at hl 4 rfl) ?_
      refine lv_icmp_ge (tgt := 160) hx hb dX7_odds_71 (by decide) (fun c6 => ?_) (fun c6 => ?_)
      · replace hG := wq_t c6 hG
        refine lv_aload_n hx hb dX7_odds_160 rfl (lv_at hl 0 rfl) ?_
        obtain ⟨w8, g7, hG⟩ := wq_b1_s hG
        have hFc := va_free (wc := wcM qa cI cJ cZ m_trace m_text m_typed m_told m_draft z_m_s m_past m_known m_images m_kept m_notes m_noted m_at m_sort m_start m_value m_steps m_rows z_m_held) hD hS hA [0, 1, 2, 3, 4, 5, 6, 7, 8, 9, 10, 11] rfl
        refine wq_dv (D := (dC, dI)) (wr := []) (w1 := wcM qa cI cJ cZ m_trace m_text m_typed m_told m_draft w8 m_past m_known m_images m_kept m_notes m_noted m_at m_sort m_start m_value m_steps m_rows z_m_held) (w2 := wcM qa cI cJ cZ m_trace m_text m_typed m_told m_draft w8 m_past m_known m_images m_kept m_notes m_noted m_at m_sort m_start m_value m_steps m_rows z_m_held) (va_runV (As := []) (rest := []) ⟨hx, hb, hml, hown, hts⟩ (C_X7_lets l dC dI cI cJ cZ qa H.size m_trace m_text m_typed m_told m_draft z_m_s m_past m_known m_images m_kept m_notes m_noted m_at m_sort m_start m_value m_steps m_rows z_m_held  w8 g7) (cwV 0 hts gX7_odds_X7_lets rfl rfl rfl hdV_X7_lets ⟨Nat.le_of_ble_eq_true rfl, Nat.le_of_ble_eq_true rfl⟩) (wq_pwV hK hP hD hE hS hFc (ci := 7) (q0 := 0) rfl rfl) rfl rfl hl.1 rfl (lv_room (Nat.le_of_ble_eq_true rfl)) dX7_odds_161 ⟨Nat.zero_le _, Nat.zero_le _⟩) hP hD hS hFc [0, 1, 2, 3, 4, 5, 6, 7, 8, 9, 10, 11] [] [0, 1, 2, 3, 4, 5, 6, 7, 8, 9, 10, 11] rfl rfl (by decide) (by decide) (by decide) rfl (fun H locs hP hD hS => ?_)
        clear hFc
        refine lv_iload hx hb dX7_odds_164 (lv_at hl 8 rfl) ?_
        refine lv_istore (lv' := [(10, .int x8), (0, .ref (qa 0)), (1, .int a1), (2, .int a2), (3, .int a3), (4, .int a4), (5, .int a5), (6, .int a6), (7, .int a7), (8, .int x8), (9, .int x9)]) hx hb dX7_odds_166 hl (by decide) rfl (fun ls hl => ?_)
        refine lv_iload hx hb dX7_odds_168 (lv_at hl 10 rfl) ?_
        refine lv_istore (lv' := [(11, .int x9), (10, .int x8), (0, .ref (qa 0)), (1, .int a1), (2, .int a2), (3, .int a3), (4, .int a4), (5, .int a5), (6, .int a6), (7, .int a7), (8, .int x8), (9, .int x9)]) hx hb dX7_odds_170 hl (by decide) rfl (fun ls hl => ?_)
        exact hL172 w8 z_m_held x8 x9 1000 x8 x9 _ _ _ hG hP hD hS (lv_sub hl [9, 10, 11, 1, 0] rfl)
      · replace hG := wq_f c6 hG
        refine lv_aload_n hx hb dX7_odds_74 rfl (lv_at hl 0 rfl) ?_
        refine lv_iload_n hx hb dX7_odds_75 rfl (lv_at hl 1 rfl) ?_
        refine lv_iload_n hx hb dX7_odds_76 rfl (lv_at hl 2 rfl) ?_
        refine lv_iload_n hx hb dX7_odds_77 rfl (lv_at hl 3 rfl) ?_
        obtain ⟨v10, g9, hG⟩ := wq_b1_s hG
        refine wq_ci (v := v10) (B := wq_tr) (va_runV (As := [.int a1, .int a2, .int a3]) (rest := []) ⟨hx, hb, hml, hown, hts⟩ (C_X7_criesNow l dC dI cI cJ cZ qa H.size m_trace m_text m_typed m_told m_draft z_m_s m_past m_known m_images m_kept m_notes m_noted m_at m_sort m_start m_value m_steps m_rows z_m_held a1 a2 a3 v10 g9) (cwV 3 hts gX7_odds_X7_criesNow rfl rfl rfl hdV_X7_criesNow ⟨Nat.le_of_ble_eq_true rfl, Nat.le_of_ble_eq_true rfl⟩) (wq_ppV hK hP hE hS hA (ci := 7) (q0 := 0) rfl rfl) rfl rfl hl.1 rfl (lv_room (Nat.le_of_ble_eq_true rfl)) dX7_odds_78 ⟨Nat.zero_le _, Nat.zero_le _⟩) hS hA (fun H locs b11 hk hS => ?_)
        replace hP := wq_kp hP hk
        clear hk
        refine lv_istore (lv' := [(11, .int v10), (0, .ref (qa 0)), (1, .int a1), (2, .int a2), (3, .int a3), (4, .int a4), (5, .int a5), (6, .int a6), (7, .int a7), (8, .int x8), (9, .int x9), (10, .int x10)]) hx hb dX7_odds_81 hl (by decide) rfl (fun ls hl => ?_)
        refine lv_iload hx hb dX7_odds_83 (lv_at hl 0 rfl) ?_
        refine lv_iload hx hb dX7_odds_85 (lv_at hl 7 rfl) ?_
        refine lv_iadd hx hb dX7_odds_87 ?_
        refine lv_iconst (v := 0) hx hb dX7_odds_88 (by decide) ?_
        refine lv_bipush (v := 60) hx hb dX7_odds_89 (by decide) ?_
        obtain ⟨v13, g12, hG⟩ := wq_b1_s hG
        refine wq_ci (v := v13) (B := wq_tr) (va_runS (As := [.int (v10 + a6), .int 0, .int 60]) (rest := []) ⟨hx, hb, hml, hown, hts⟩ (C_X7_bound l dC dI cI cJ cZ qa H.size  (v10 + a6) 0 60 v13 g12) (va_cwS 3 hts gX7_odds_X7_bound rfl rfl rfl hdS_X7_bound ⟨Nat.le_of_ble_eq_true rfl, Nat.le_of_ble_eq_true rfl⟩) (wq_ppS hK (hP.sub (ws' := []) [] rfl) hE hS hA) rfl rfl hl.1 rfl (lv_room (Nat.le_of_ble_eq_true rfl)) dX7_odds_91 ⟨Nat.zero_le _, Nat.zero_le _⟩) hS hA (fun H locs b14 hk hS => ?_)
        replace hP := wq_kp hP hk
        clear hk
        refine lv_istore (lv' := [(12, .int v13), (11, .int v10), (0, .ref (qa 0)), (1, .int a1), (2, .int a2), (3, .int a3), (4, .int a4), (5, .int a5), (6, .int a6), (7, .int a7), (8, .int x8), (9, .int x9), (10, .int x10)]) hx hb dX7_odds_94 hl (by decide) rfl (fun ls hl => ?_)
        refine lv_iload hx hb dX7_odds_96 (lv_at hl 10 rfl) ?_
        refine lv_iload hx hb dX7_odds_98 (lv_at hl 1 rfl) ?_
        refine lv_aload_n hx hb dX7_odds_100 rfl (lv_at hl 2 rfl) ?_
        refine va_get (D := (dC, dI)) (ci := 7) (v := .ref (qa 2)) (C := RX7) (T := TX7) (N := 19) hx hb hts hinX7 hown hK hP 0 rfl rfl 3 (by decide) k1 (fun _ h9 => h9) rfl dX7_odds_101 ?_
        refine lv_iconst (v := 3) hx hb dX7_odds_104 (by decide) ?_
        refine wq_iald (D := (dC, dI)) hx hb hK hP 2 0 rfl rfl (wq_lit (by decide)) 3 rfl dX7_odds_105 ?_
        refine lv_icmp_gt (tgt := 117) hx hb dX7_odds_106 (by decide) (fun c15 => ?_) (fun c15 => ?_)
        · replace hG := wq_t c15 hG
          refine lv_iconst (v := 0) hx hb dX7_odds_117 (by decide) ?_
          refine lv_iload hx hb dX7_odds_118 (lv_at hl 0 rfl) ?_
          refine lv_aload_n hx hb dX7_odds_120 rfl (lv_at hl 2 rfl) ?_
          refine va_get (D := (dC, dI)) (ci := 7) (v := .ref (qa 2)) (C := RX7) (T := TX7) (N := 19) hx hb hts hinX7 hown hK hP 0 rfl rfl 3 (by decide) k1 (fun _ h9 => h9) rfl dX7_odds_121 ?_
          refine lv_iconst (v := 3) hx hb dX7_odds_124 (by decide) ?_
          refine wq_iald (D := (dC, dI)) hx hb hK hP 2 0 rfl rfl (wq_lit (by decide)) 3 rfl dX7_odds_125 ?_
          refine lv_icmp_gt (tgt := 134) hx hb dX7_odds_126 (by decide) (fun c16 => ?_) (fun c16 => ?_)
          · replace hG := wq_t c16 hG
            refine lv_iconst (v := 0) hx hb dX7_odds_134 (by decide) ?_
            refine lv_iadd hx hb dX7_odds_135 ?_
            refine lv_imul hx hb dX7_odds_136 ?_
            refine lv_istore (lv' := [(8, .int (x8 * (0 + 0))), (12, .int v13), (11, .int v10), (0, .ref (qa 0)), (1, .int a1), (2, .int a2), (3, .int a3), (4, .int a4), (5, .int a5), (6, .int a6), (7, .int a7), (9, .int x9), (10, .int x10)]) hx hb dX7_odds_137 hl (by decide) rfl (fun ls hl => ?_)
            refine lv_iload hx hb dX7_odds_139 (lv_at hl 11 rfl) ?_
            refine lv_bipush (v := 10) hx hb dX7_odds_141 (by decide) ?_
            refine lv_imul hx hb dX7_odds_143 ?_
            refine lv_istore (lv' := [(9, .int (x9 * 10)), (8, .int (x8 * (0 + 0))), (12, .int v13), (11, .int v10), (0, .ref (qa 0)), (1, .int a1), (2, .int a2), (3, .int a3), (4, .int a4), (5, .int a5), (6, .int a6), (7, .int a7), (10, .int x10)]) hx hb dX7_odds_144 hl (by decide) rfl (fun ls hl => ?_)
            refine lv_aload_n hx hb dX7_odds_146 rfl (lv_at hl 4 rfl) ?_
            refine lv_iload_n hx hb dX7_odds_147 rfl (lv_at hl 5 rfl) ?_
            refine lv_iload_n hx hb dX7_odds_148 rfl (lv_at hl 6 rfl) ?_
            refine lv_iload_n hx hb dX7_odds_149 rfl (lv_at hl 7 rfl) ?_
            obtain ⟨v18, w19, g17, hG⟩ := wq_b2_s hG
            have hFc := va_free (wc := wcM qa cI cJ cZ m_trace m_text m_typed m_told m_draft z_m_s m_past m_known m_images m_kept m_notes m_noted m_at m_sort m_start m_value m_steps m_rows z_m_held) hD hS hA [0, 1, 2, 3, 4, 5, 6, 7, 8, 9, 10, 11] rfl
            refine wq_di (D := (dC, dI)) (v := v18) (B := wq_tr) (wr := []) (w1 := wcM qa cI cJ cZ m_trace m_text m_typed m_told m_draft w19 m_past m_known m_images m_kept m_notes m_noted m_at m_sort m_start m_value m_steps m_rows z_m_held) (w2 := wcM qa cI cJ cZ m_trace m_text m_typed m_told m_draft w19 m_past m_known m_images m_kept m_notes m_noted m_at m_sort m_start m_value m_steps m_rows z_m_held) (va_runV (As := [.int a1, .int a2, .int a3]) (rest := []) ⟨hx, hb, hml, hown, hts⟩ (C_X7_goes l dC dI cI cJ cZ qa H.size m_trace m_text m_typed m_told m_draft z_m_s m_past m_known m_images m_kept m_notes m_noted m_at m_sort m_start m_value m_steps m_rows z_m_held a1 a2 a3 v18 w19 g17) (cwV 3 hts gX7_odds_X7_goes rfl rfl rfl hdV_X7_goes ⟨Nat.le_of_ble_eq_true rfl, Nat.le_of_ble_eq_true rfl⟩) (wq_pwV hK hP hD hE hS hFc (ci := 7) (q0 := 0) rfl rfl) rfl rfl hl.1 rfl (lv_room (Nat.le_of_ble_eq_true rfl)) dX7_odds_150 ⟨Nat.zero_le _, Nat.zero_le _⟩) hP hD hS hFc [0, 1, 2, 3, 4, 5, 6, 7, 8, 9, 10, 11] [] [0, 1, 2, 3, 4, 5, 6, 7, 8, 9, 10, 11] rfl rfl (by decide) (by decide) (by decide) rfl (fun H locs b20 hP hD hS => ?_)
            clear hFc
            refine lv_pop hx hb dX7_odds_153 rfl ?_
            refine lv_iinc (v := (x10 + 1)) (lv' := [(10, .int (x10 + 1)), (9, .int (x9 * 10)), (8, .int (x8 * (0 + 0))), (12, .int v13), (11, .int v10), (0, .ref (qa 0)), (1, .int a1), (2, .int a2), (3, .int a3), (4, .int a4), (5, .int a5), (6, .int a6), (7, .int a7)]) hx hb dX7_odds_154 hl (k := 12) rfl rfl (by decide) rfl (fun ls hl => ?_)
            refine lv_goto (tgt := 67) hx hb dX7_odds_157 (by decide) ?_
            exact ih67 (x8 * (0 + 0)) (x9 * 10) (x10 + 1) w19 _ _ _ hG hP hD hS (lv_sub hl [5, 6, 7, 8, 9, 10, 11, 12, 2, 1, 0] rfl)
          · replace hG := wq_f c16 hG
            refine lv_iload hx hb dX7_odds_129 (lv_at hl 7 rfl) ?_
            refine lv_goto (tgt := 135) hx hb dX7_odds_131 (by decide) ?_
            refine lv_iadd hx hb dX7_odds_135 ?_
            refine lv_imul hx hb dX7_odds_136 ?_
            refine lv_istore (lv' := [(8, .int (x8 * (0 + a5))), (12, .int v13), (11, .int v10), (0, .ref (qa 0)), (1, .int a1), (2, .int a2), (3, .int a3), (4, .int a4), (5, .int a5), (6, .int a6), (7, .int a7), (9, .int x9), (10, .int x10)]) hx hb dX7_odds_137 hl (by decide) rfl (fun ls hl => ?_)
            refine lv_iload hx hb dX7_odds_139 (lv_at hl 11 rfl) ?_
            refine lv_bipush (v := 10) hx hb dX7_odds_141 (by decide) ?_
            refine lv_imul hx hb dX7_odds_143 ?_
            refine lv_istore (lv' := [(9, .int (x9 * 10)), (8, .int (x8 * (0 + a5))), (12, .int v13), (11, .int v10), (0, .ref (qa 0)), (1, .int a1), (2, .int a2), (3, .int a3), (4, .int a4), (5, .int a5), (6, .int a6), (7, .int a7), (10, .int x10)]) hx hb dX7_odds_144 hl (by decide) rfl (fun ls hl => ?_)
            refine lv_aload_n hx hb dX7_odds_146 rfl (lv_at hl 4 rfl) ?_
            refine lv_iload_n hx hb dX7_odds_147 rfl (lv_at hl 5 rfl) ?_
            refine lv_iload_n hx hb dX7_odds_148 rfl (lv_at hl 6 rfl) ?_
            refine lv_iload_n hx hb dX7_odds_149 rfl (lv_at hl 7 rfl) ?_
            obtain ⟨v22, w23, g21, hG⟩ := wq_b2_s hG
            have hFc := va_free (wc := wcM qa cI cJ cZ m_trace m_text m_typed m_told m_draft z_m_s m_past m_known m_images m_kept m_notes m_noted m_at m_sort m_start m_value m_steps m_rows z_m_held) hD hS hA [0, 1, 2, 3, 4, 5, 6, 7, 8, 9, 10, 11] rfl
            refine wq_di (D := (dC, dI)) (v := v22) (B := wq_tr) (wr := []) (w1 := wcM qa cI cJ cZ m_trace m_text m_typed m_told m_draft w23 m_past m_known m_images m_kept m_notes m_noted m_at m_sort m_start m_value m_steps m_rows z_m_held) (w2 := wcM qa cI cJ cZ m_trace m_text m_typed m_told m_draft w23 m_past m_known m_images m_kept m_notes m_noted m_at m_sort m_start m_value m_steps m_rows z_m_held) (va_runV (As := [.int a1, .int a2, .int a3]) (rest := []) ⟨hx, hb, hml, hown, hts⟩ (C_X7_goes l dC dI cI cJ cZ qa H.size m_trace m_text m_typed m_told m_draft z_m_s m_past m_known m_images m_kept m_notes m_noted m_at m_sort m_start m_value m_steps m_rows z_m_held a1 a2 a3 v22 w23 g21) (cwV 3 hts gX7_odds_X7_goes rfl rfl rfl hdV_X7_goes ⟨Nat.le_of_ble_eq_true rfl, Nat.le_of_ble_eq_true rfl⟩) (wq_pwV hK hP hD hE hS hFc (ci := 7) (q0 := 0) rfl rfl) rfl rfl hl.1 rfl (lv_room (Nat.le_of_ble_eq_true rfl)) dX7_odds_150 ⟨Nat.zero_le _, Nat.zero_le _⟩) hP hD hS hFc [0, 1, 2, 3, 4, 5, 6, 7, 8, 9, 10, 11] [] [0, 1, 2, 3, 4, 5, 6, 7, 8, 9, 10, 11] rfl rfl (by decide) (by decide) (by decide) rfl (fun H locs b24 hP hD hS => ?_)
            clear hFc
            refine lv_pop hx hb dX7_odds_153 rfl ?_
            refine lv_iinc (v := (x10 + 1)) (lv' := [(10, .int (x10 + 1)), (9, .int (x9 * 10)), (8, .int (x8 * (0 + a5))), (12, .int v13), (11, .int v10), (0, .ref (qa 0)), (1, .int a1), (2, .int a2), (3, .int a3), (4, .int a4), (5, .int a5), (6, .int a6), (7, .int a7)]) hx hb dX7_odds_154 hl (k := 12) rfl rfl (by decide) rfl (fun ls hl => ?_)
            refine lv_goto (tgt := 67) hx hb dX7_odds_157 (by decide) ?_
            exact ih67 (x8 * (0 + a5)) (x9 * 10) (x10 + 1) w23 _ _ _ hG hP hD hS (lv_sub hl [5, 6, 7, 8, 9, 10, 11, 12, 2, 1, 0] rfl)
        · replace hG := wq_f c15 hG
          refine lv_bipush (v := 10) hx hb dX7_odds_109 (by decide) ?_
          refine lv_iload hx hb dX7_odds_111 (lv_at hl 7 rfl) ?_
          refine lv_isub hx hb dX7_odds_113 ?_
          refine lv_goto (tgt := 118) hx hb dX7_odds_114 (by decide) ?_
          refine lv_iload hx hb dX7_odds_118 (lv_at hl 0 rfl) ?_
          refine lv_aload_n hx hb dX7_odds_120 rfl (lv_at hl 2 rfl) ?_
          refine va_get (D := (dC, dI)) (ci := 7) (v := .ref (qa 2)) (C := RX7) (T := TX7) (N := 19) hx hb hts hinX7 hown hK hP 0 rfl rfl 3 (by decide) k1 (fun _ h9 => h9) rfl dX7_odds_121 ?_
          refine lv_iconst (v := 3) hx hb dX7_odds_124 (by decide) ?_
          refine wq_iald (D := (dC, dI)) hx hb hK hP 2 0 rfl rfl (wq_lit (by decide)) 3 rfl dX7_odds_125 ?_
          refine lv_icmp_gt (tgt := 134) hx hb dX7_odds_126 (by decide) (fun c25 => ?_) (fun c25 => ?_)
          · replace hG := wq_t c25 hG
            refine lv_iconst (v := 0) hx hb dX7_odds_134 (by decide) ?_
            refine lv_iadd hx hb dX7_odds_135 ?_
            refine lv_imul hx hb dX7_odds_136 ?_
            refine lv_istore (lv' := [(8, .int (x8 * ((10 - a5) + 0))), (12, .int v13), (11, .int v10), (0, .ref (qa 0)), (1, .int a1), (2, .int a2), (3, .int a3), (4, .int a4), (5, .int a5), (6, .int a6), (7, .int a7), (9, .int x9), (10, .int x10)]) hx hb dX7_odds_137 hl (by decide) rfl (fun ls hl => ?_)
            refine lv_iload hx hb dX7_odds_139 (lv_at hl 11 rfl) ?_
            refine lv_bipush (v := 10) hx hb dX7_odds_141 (by decide) ?_
            refine lv_imul hx hb dX7_odds_143 ?_
            refine lv_istore (lv' := [(9, .int (x9 * 10)), (8, .int (x8 * ((10 - a5) + 0))), (12, .int v13), (11, .int v10), (0, .ref (qa 0)), (1, .int a1), (2, .int a2), (3, .int a3), (4, .int a4), (5, .int a5), (6, .int a6), (7, .int a7), (10, .int x10)]) hx hb dX7_odds_144 hl (by decide) rfl (fun ls hl => ?_)
            refine lv_aload_n hx hb dX7_odds_146 rfl (lv_at hl 4 rfl) ?_
            refine lv_iload_n hx hb dX7_odds_147 rfl (lv_at hl 5 rfl) ?_
            refine lv_iload_n hx hb dX7_odds_148 rfl (lv_at hl 6 rfl) ?_
            refine lv_iload_n hx hb dX7_odds_149 rfl (lv_at hl 7 rfl) ?_
            obtain ⟨v27, w28, g26, hG⟩ := wq_b2_s hG
            have hFc := va_free (wc := wcM qa cI cJ cZ m_trace m_text m_typed m_told m_draft z_m_s m_past m_known m_images m_kept m_notes m_noted m_at m_sort m_start m_value m_steps m_rows z_m_held) hD hS hA [0, 1, 2, 3, 4, 5, 6, 7, 8, 9, 10, 11] rfl
            refine wq_di (D := (dC, dI)) (v := v27) (B := wq_tr) (wr := []) (w1 := wcM qa cI cJ cZ m_trace m_text m_typed m_told m_draft w28 m_past m_known m_images m_kept m_notes m_noted m_at m_sort m_start m_value m_steps m_rows z_m_held) (w2 := wcM qa cI cJ cZ m_trace m_text m_typed m_told m_draft w28 m_past m_known m_images m_kept m_notes m_noted m_at m_sort m_start m_value m_steps m_rows z_m_held) (va_runV (As := [.int a1, .int a2, .int a3]) (rest := []) ⟨hx, hb, hml, hown, hts⟩ (C_X7_goes l dC dI cI cJ cZ qa H.size m_trace m_text m_typed m_told m_draft z_m_s m_past m_known m_images m_kept m_notes m_noted m_at m_sort m_start m_value m_steps m_rows z_m_held a1 a2 a3 v27 w28 g26) (cwV 3 hts gX7_odds_X7_goes rfl rfl rfl hdV_X7_goes ⟨Nat.le_of_ble_eq_true rfl, Nat.le_of_ble_eq_true rfl⟩) (wq_pwV hK hP hD hE hS hFc (ci := 7) (q0 := 0) rfl rfl) rfl rfl hl.1 rfl (lv_room (Nat.le_of_ble_eq_true rfl)) dX7_odds_150 ⟨Nat.zero_le _, Nat.zero_le _⟩) hP hD hS hFc [0, 1, 2, 3, 4, 5, 6, 7, 8, 9, 10, 11] [] [0, 1, 2, 3, 4, 5, 6, 7, 8, 9, 10, 11] rfl rfl (by decide) (by decide) (by decide) rfl (fun H locs b29 hP hD hS => ?_)
            clear hFc
            refine lv_pop hx hb dX7_odds_153 rfl ?_
            refine lv_iinc (v := (x10 + 1)) (lv' := [(10, .int (x10 + 1)), (9, .int (x9 * 10)), (8, .int (x8 * ((10 - a5) + 0))), (12, .int v13), (11, .int v10), (0, .ref (qa 0)), (1, .int a1), (2, .int a2), (3, .int a3), (4, .int a4), (5, .int a5), (6, .int a6), (7, .int a7)]) hx hb dX7_odds_154 hl (k := 12) rfl rfl (by decide) rfl (fun ls hl => ?_)
            refine lv_goto (tgt := 67) hx hb dX7_odds_157 (by decide) ?_
            exact ih67 (x8 * ((10 - a5) + 0)) (x9 * 10) (x10 + 1) w28 _ _ _ hG hP hD hS (lv_sub hl [5, 6, 7, 8, 9, 10, 11, 12, 2, 1, 0] rfl)
          · replace hG := wq_f c25 hG
            refine lv_iload hx hb dX7_odds_129 (lv_at hl 7 rfl) ?_
            refine lv_goto (tgt := 135) hx hb dX7_odds_131 (by decide) ?_
            refine lv_iadd hx hb dX7_odds_135 ?_
            refine lv_imul hx hb dX7_odds_136 ?_
            refine lv_istore (lv' := [(8, .int (x8 * ((10 - a5) + a5))), (12, .int v13), (11, .int v10), (0, .ref (qa 0)), (1, .int a1), (2, .int a2), (3, .int a3), (4, .int a4), (5, .int a5), (6, .int a6), (7, .int a7), (9, .int x9), (10, .int x10)]) hx hb dX7_odds_137 hl (by decide) rfl (fun ls hl => ?_)
            refine lv_iload hx hb dX7_odds_139 (lv_at hl 11 rfl) ?_
            refine lv_bipush (v := 10) hx hb dX7_odds_141 (by decide) ?_
            refine lv_imul hx hb dX7_odds_143 ?_
            refine lv_istore (lv' := [(9, .int (x9 * 10)), (8, .int (x8 * ((10 - a5) + a5))), (12, .int v13), (11, .int v10), (0, .ref (qa 0)), (1, .int a1), (2, .int a2), (3, .int a3), (4, .int a4), (5, .int a5), (6, .int a6), (7, .int a7), (10, .int x10)]) hx hb dX7_odds_144 hl (by decide) rfl (fun ls hl => ?_)
            refine lv_aload_n hx hb dX7_odds_146 rfl (lv_at hl 4 rfl) ?_
            refine lv_iload_n hx hb dX7_odds_147 rfl (lv_at hl 5 rfl) ?_
            refine lv_iload_n hx hb dX7_odds_148 rfl (lv_at hl 6 rfl) ?_
            refine lv_iload_n hx hb dX7_odds_149 rfl (lv_at hl 7 rfl) ?_
            obtain ⟨v31, w32, g30, hG⟩ := wq_b2_s hG
            have hFc := va_free (wc := wcM qa cI cJ cZ m_trace m_text m_typed m_told m_draft z_m_s m_past m_known m_images m_kept m_notes m_noted m_at m_sort m_start m_value m_steps m_rows z_m_held) hD hS hA [0, 1, 2, 3, 4, 5, 6, 7, 8, 9, 10, 11] rfl
            refine wq_di (D := (dC, dI)) (v := v31) (B := wq_tr) (wr := []) (w1 := wcM qa cI cJ cZ m_trace m_text m_typed m_told m_draft w32 m_past m_known m_images m_kept m_notes m_noted m_at m_sort m_start m_value m_steps m_rows z_m_held) (w2 := wcM qa cI cJ cZ m_trace m_text m_typed m_told m_draft w32 m_past m_known m_images m_kept m_notes m_noted m_at m_sort m_start m_value m_steps m_rows z_m_held) (va_runV (As := [.int a1, .int a2, .int a3]) (rest := []) ⟨hx, hb, hml, hown, hts⟩ (C_X7_goes l dC dI cI cJ cZ qa H.size m_trace m_text m_typed m_told m_draft z_m_s m_past m_known m_images m_kept m_notes m_noted m_at m_sort m_start m_value m_steps m_rows z_m_held a1 a2 a3 v31 w32 g30) (cwV 3 hts gX7_odds_X7_goes rfl rfl rfl hdV_X7_goes ⟨Nat.le_of_ble_eq_true rfl, Nat.le_of_ble_eq_true rfl⟩) (wq_pwV hK hP hD hE hS hFc (ci := 7) (q0 := 0) rfl rfl) rfl rfl hl.1 rfl (lv_room (Nat.le_of_ble_eq_true rfl)) dX7_odds_150 ⟨Nat.zero_le _, Nat.zero_le _⟩) hP hD hS hFc [0, 1, 2, 3, 4, 5, 6, 7, 8, 9, 10, 11] [] [0, 1, 2, 3, 4, 5, 6, 7, 8, 9, 10, 11] rfl rfl (by decide) (by decide) (by decide) rfl (fun H locs b33 hP hD hS => ?_)
            clear hFc
            refine lv_pop hx hb dX7_odds_153 rfl ?_
            refine lv_iinc (v := (x10 + 1)) (lv' := [(10, .int (x10 + 1)), (9, .int (x9 * 10)), (8, .int (x8 * ((10 - a5) + a5))), (12, .int v13), (11, .int v10), (0, .ref (qa 0)), (1, .int a1), (2, .int a2), (3, .int a3), (4, .int a4), (5, .int a5), (6, .int a6), (7, .int a7)]) hx hb dX7_odds_154 hl (k := 12) rfl rfl (by decide) rfl (fun ls hl => ?_)
            refine lv_goto (tgt := 67) hx hb dX7_odds_157 (by decide) ?_
            exact ih67 (x8 * ((10 - a5) + a5)) (x9 * 10) (x10 + 1) w32 _ _ _ hG hP hD hS (lv_sub hl [5, 6, 7, 8, 9, 10, 11, 12, 2, 1, 0] rfl)
  unfold gX7_odds at hG
  refine lv_aload_n hx hb dX7_odds_0 rfl (lv_at hl 0 rfl) ?_
  refine lv_iload_n hx hb dX7_odds_1 rfl (lv_at hl 1 rfl) ?_
  refine lv_iload_n hx hb dX7_odds_2 rfl (lv_at hl 2 rfl) ?_
  refine lv_iload_n hx hb dX7_odds_3 rfl (lv_at hl 3 rfl) ?_
  obtain ⟨v35, g34, hG⟩ := wq_b1_s hG
  refine wq_ci (v := v35) (B := wq_Z1) (va_runV (As := [.int a1, .int a2, .int a3]) (rest := []) ⟨hx, hb, hml, hown, hts⟩ (C_X7_isMorning l dC dI cI cJ cZ qa s.heap.size m_trace m_text m_typed m_told m_draft m_s m_past m_known m_images m_kept m_notes m_noted m_at m_sort m_start m_value m_steps m_rows m_held a1 a2 a3 v35 g34) (cwV 3 hts gX7_odds_X7_isMorning rfl rfl rfl hdV_X7_isMorning ⟨Nat.le_of_ble_eq_true rfl, Nat.le_of_ble_eq_true rfl⟩) (wq_ppV hK hP hE hS hA (ci := 7) (q0 := 0) rfl rfl) rfl rfl hl.1 rfl (lv_room (Nat.le_of_ble_eq_true rfl)) dX7_odds_4 ⟨Nat.zero_le _, Nat.zero_le _⟩) hS hA (fun H locs b36 hk hS => ?_)
  replace hP := wq_kp hP hk
  clear hk
  refine lv_if_eq (tgt := 52) hx hb dX7_odds_7 (by decide) (fun c37 => ?_) (fun c37 => ?_)
  · replace hG := wq_t c37 hG
    refine lv_iconst (v := (-1)) hx hb dX7_odds_52 (by decide) ?_
    obtain ⟨e0, e1, e2⟩ := wq_j3 hG
    subst e0
    subst e1
    subst e2
    exact W.iret hx hb hr (fun t ht hW => ⟨⟨_, (), rfl, ⟨rfl, trivial⟩, by rw [ht]; exact hP, hD⟩, hS.F ht⟩) hS.2.2 dX7_odds_53
  · replace hG := wq_f c37 hG
    refine lv_iload hx hb dX7_odds_10 (lv_at hl 4 rfl) ?_
    refine lv_iconst (v := 0) hx hb dX7_odds_12 (by decide) ?_
    refine lv_iconst (v := 5) hx hb dX7_odds_13 (by decide) ?_
    obtain ⟨v39, g38, hG⟩ := wq_b1_s hG
    refine wq_ci (v := v39) (B := wq_Z1) (va_runS (As := [.int a4, .int 0, .int 5]) (rest := []) ⟨hx, hb, hml, hown, hts⟩ (C_X7_in l dC dI cI cJ cZ qa H.size  a4 0 5 v39 g38) (va_cwS 3 hts gX7_odds_X7_in rfl rfl rfl hdS_X7_in ⟨Nat.le_of_ble_eq_true rfl, Nat.le_of_ble_eq_true rfl⟩) (wq_ppS hK (hP.sub (ws' := []) [] rfl) hE hS hA) rfl rfl hl.1 rfl (lv_room (Nat.le_of_ble_eq_true rfl)) dX7_odds_14 ⟨Nat.zero_le _, Nat.zero_le _⟩) hS hA (fun H locs b40 hk hS => ?_)
    replace hP := wq_kp hP hk
    clear hk
    refine lv_if_eq (tgt := 52) hx hb dX7_odds_17 (by decide) (fun c41 => ?_) (fun c41 => ?_)
    · replace hG := wq_t c41 hG
      refine lv_iconst (v := (-1)) hx hb dX7_odds_52 (by decide) ?_
      obtain ⟨e0, e1, e2⟩ := wq_j3 hG
      subst e0
      subst e1
      subst e2
      exact W.iret hx hb hr (fun t ht hW => ⟨⟨_, (), rfl, ⟨rfl, trivial⟩, by rw [ht]; exact hP, hD⟩, hS.F ht⟩) hS.2.2 dX7_odds_53
    · replace hG := wq_f c41 hG
      refine lv_iload hx hb dX7_odds_20 (lv_at hl 5 rfl) ?_
      refine lv_iconst (v := 0) hx hb dX7_odds_22 (by decide) ?_
      refine lv_bipush (v := 10) hx hb dX7_odds_23 (by decide) ?_
      obtain ⟨v43, g42, hG⟩ := wq_b1_s hG
      refine wq_ci (v := v43) (B := wq_Z1) (va_runS (As := [.int a5, .int 0, .int 10]) (rest := []) ⟨hx, hb, hml, hown, hts⟩ (C_X7_in l dC dI cI cJ cZ qa H.size  a5 0 10 v43 g42) (va_cwS 3 hts gX7_odds_X7_in rfl rfl rfl hdS_X7_in ⟨Nat.le_of_ble_eq_true rfl, Nat.le_of_ble_eq_true rfl⟩) (wq_ppS hK (hP.sub (ws' := []) [] rfl) hE hS hA) rfl rfl hl.1 rfl (lv_room (Nat.le_of_ble_eq_true rfl)) dX7_odds_25 ⟨Nat.zero_le _, Nat.zero_le _⟩) hS hA (fun H locs b44 hk hS => ?_)
      replace hP := wq_kp hP hk
      clear hk
      refine lv_if_eq (tgt := 52) hx hb dX7_odds_28 (by decide) (fun c45 => ?_) (fun c45 => ?_)
      · replace hG := wq_t c45 hG
        refine lv_iconst (v := (-1)) hx hb dX7_odds_52 (by decide) ?_
        obtain ⟨e0, e1, e2⟩ := wq_j3 hG
        subst e0
        subst e1
        subst e2
        exact W.iret hx hb hr (fun t ht hW => ⟨⟨_, (), rfl, ⟨rfl, trivial⟩, by rw [ht]; exact hP, hD⟩, hS.F ht⟩) hS.2.2 dX7_odds_53
      · replace hG := wq_f c45 hG
        refine lv_iload hx hb dX7_odds_31 (lv_at hl 6 rfl) ?_
        refine lv_iconst (v := 1) hx hb dX7_odds_33 (by decide) ?_
        refine lv_bipush (v := 20) hx hb dX7_odds_34 (by decide) ?_
        obtain ⟨v47, g46, hG⟩ := wq_b1_s hG
        refine wq_ci (v := v47) (B := wq_Z1) (va_runS (As := [.int a6, .int 1, .int 20]) (rest := []) ⟨hx, hb, hml, hown, hts⟩ (C_X7_in l dC dI cI cJ cZ qa H.size  a6 1 20 v47 g46) (va_cwS 3 hts gX7_odds_X7_in rfl rfl rfl hdS_X7_in ⟨Nat.le_of_ble_eq_true rfl, Nat.le_of_ble_eq_true rfl⟩) (wq_ppS hK (hP.sub (ws' := []) [] rfl) hE hS hA) rfl rfl hl.1 rfl (lv_room (Nat.le_of_ble_eq_true rfl)) dX7_odds_36 ⟨Nat.zero_le _, Nat.zero_le _⟩) hS hA (fun H locs b48 hk hS => ?_)
        replace hP := wq_kp hP hk
        clear hk
        refine lv_if_eq (tgt := 52) hx hb dX7_odds_39 (by decide) (fun c49 => ?_) (fun c49 => ?_)
        · replace hG := wq_t c49 hG
          refine lv_iconst (v := (-1)) hx hb dX7_odds_52 (by decide) ?_
          obtain ⟨e0, e1, e2⟩ := wq_j3 hG
          subst e0
          subst e1
          subst e2
          exact W.iret hx hb hr (fun t ht hW => ⟨⟨_, (), rfl, ⟨rfl, trivial⟩, by rw [ht]; exact hP, hD⟩, hS.F ht⟩) hS.2.2 dX7_odds_53
        · replace hG := wq_f c49 hG
          refine lv_iload hx hb dX7_odds_42 (lv_at hl 7 rfl) ?_
          refine lv_iconst (v := 0) hx hb dX7_odds_44 (by decide) ?_
          refine lv_iconst (v := 1) hx hb dX7_odds_45 (by decide) ?_
          obtain ⟨v51, g50, hG⟩ := wq_b1_s hG
          refine wq_ci (v := v51) (B := wq_Z1) (va_runS (As := [.int a7, .int 0, .int 1]) (rest := []) ⟨hx, hb, hml, hown, hts⟩ (C_X7_in l dC dI cI cJ cZ qa H.size  a7 0 1 v51 g50) (va_cwS 3 hts gX7_odds_X7_in rfl rfl rfl hdS_X7_in ⟨Nat.le_of_ble_eq_true rfl, Nat.le_of_ble_eq_true rfl⟩) (wq_ppS hK (hP.sub (ws' := []) [] rfl) hE hS hA) rfl rfl hl.1 rfl (lv_room (Nat.le_of_ble_eq_true rfl)) dX7_odds_46 ⟨Nat.zero_le _, Nat.zero_le _⟩) hS hA (fun H locs b52 hk hS => ?_)
          replace hP := wq_kp hP hk
          clear hk
          refine lv_if_ne (tgt := 54) hx hb dX7_odds_49 (by decide) (fun c53 => ?_) (fun c53 => ?_)
          · replace hG := wq_f c53 hG
            refine lv_aload_n hx hb dX7_odds_54 rfl (lv_at hl 0 rfl) ?_
            obtain ⟨w55, g54, hG⟩ := wq_b1_s hG
            have hFc := va_free (wc := wcM qa cI cJ cZ m_trace m_text m_typed m_told m_draft m_s m_past m_known m_images m_kept m_notes m_noted m_at m_sort m_start m_value m_steps m_rows m_held) hD hS hA [0, 1, 2, 3, 4, 5, 6, 7, 8, 9, 10, 11] rfl
            refine wq_dv (D := (dC, dI)) (wr := []) (w1 := wcM qa cI cJ cZ m_trace m_text m_typed m_told m_draft m_s m_past m_known m_images m_kept m_notes m_noted m_at m_sort m_start m_value m_steps m_rows w55) (w2 := wcM qa cI cJ cZ m_trace m_text m_typed m_told m_draft m_s m_past m_known m_images m_kept m_notes m_noted m_at m_sort m_start m_value m_steps m_rows w55) (va_runV (As := []) (rest := []) ⟨hx, hb, hml, hown, hts⟩ (C_X7_holds l dC dI cI cJ cZ qa H.size m_trace m_text m_typed m_told m_draft m_s m_past m_known m_images m_kept m_notes m_noted m_at m_sort m_start m_value m_steps m_rows m_held  w55 g54) (cwV 0 hts gX7_odds_X7_holds rfl rfl rfl hdV_X7_holds ⟨Nat.le_of_ble_eq_true rfl, Nat.le_of_ble_eq_true rfl⟩) (wq_pwV hK hP hD hE hS hFc (ci := 7) (q0 := 0) rfl rfl) rfl rfl hl.1 rfl (lv_room (Nat.le_of_ble_eq_true rfl)) dX7_odds_55 ⟨Nat.zero_le _, Nat.zero_le _⟩) hP hD hS hFc [0, 1, 2, 3, 4, 5, 6, 7, 8, 9, 10, 11] [] [0, 1, 2, 3, 4, 5, 6, 7, 8, 9, 10, 11] rfl rfl (by decide) (by decide) (by decide) rfl (fun H locs hP hD hS => ?_)
            clear hFc
            refine lv_iconst (v := 1) hx hb dX7_odds_58 (by decide) ?_
            refine lv_istore (lv' := [(8, .int 1), (0, .ref (qa 0)), (1, .int a1), (2, .int a2), (3, .int a3), (4, .int a4), (5, .int a5), (6, .int a6), (7, .int a7)]) hx hb dX7_odds_59 hl (by decide) rfl (fun ls hl => ?_)
            refine lv_iconst (v := 1) hx hb dX7_odds_61 (by decide) ?_
            refine lv_istore (lv' := [(9, .int 1), (8, .int 1), (0, .ref (qa 0)), (1, .int a1), (2, .int a2), (3, .int a3), (4, .int a4), (5, .int a5), (6, .int a6), (7, .int a7)]) hx hb dX7_odds_62 hl (by decide) rfl (fun ls hl => ?_)
            refine lv_iconst (v := 0) hx hb dX7_odds_64 (by decide) ?_
            refine lv_istore (lv' := [(10, .int 0), (9, .int 1), (8, .int 1), (0, .ref (qa 0)), (1, .int a1), (2, .int a2), (3, .int a3), (4, .int a4), (5, .int a5), (6, .int a6), (7, .int a7)]) hx hb dX7_odds_65 hl (by decide) rfl (fun ls hl => ?_)
            exact hL67 w55 1000 1 1 0 m_s _ _ _ hG hP hD hS (lv_sub hl [3, 4, 5, 6, 7, 8, 9, 10, 2, 1, 0] rfl)
          · replace hG := wq_t c53 hG
            refine lv_iconst (v := (-1)) hx hb dX7_odds_52 (by decide) ?_
            obtain ⟨e0, e1, e2⟩ := wq_j3 hG
            subst e0
            subst e1
            subst e2
            exact W.iret hx hb hr (fun t ht hW => ⟨⟨_, (), rfl, ⟨rfl, trivial⟩, by rw [ht]; exact hP, hD⟩, hS.F ht⟩) hS.2.2 dX7_odds_53

