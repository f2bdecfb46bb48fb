theorem hdV_X7_undo : yX7_undo.cls = RX7 ∧ yX7_undo.cls ≠ "java/lang/invoke/MethodHandle" ∧ yX7_undo.cls ≠ "java/lang/invoke/VarHandle" ∧ (parseMethodDescriptor yX7_undo.desc).map (fun d => d.parameters.length) = some 0 := by decide +kernel
set_option maxHeartbeats 4000000 in
set_option maxRecDepth 100000 in
theorem C_X7_undo (l : Launch) (dC : Nat → ClassId) (dI : Nat → Nat → Nat) (cI cJ cZ : ClassId) (qa : Nat → Nat) (sz : Nat) (m_trace : Int64) (m_text : Nat → Int32) (m_typed : Int32) (m_told : Nat → Int32) (m_draft : Nat → Int32) (m_s : Nat → Int32) (m_past : Nat → Int32) (m_known : Int32) (m_images : Nat → Int32) (m_kept : Nat → Int32) (m_notes : Nat → Int32) (m_noted : Int32) (m_at : Int32) (m_sort : Int32) (m_start : Int32) (m_value : Int32) (m_steps : Nat → Int32) (m_rows : Nat → Int32) (m_held : Nat → Int32) (r0 : Int32) (r_m_s : Nat → Int32) (r_m_known : Int32) (hG : gX7_undo m_s m_past m_known = some (r0, r_m_s, r_m_known)) : Met l yX7_undo wsX7_undo ({ frames := 0, cells := 0, slots := 0, locals := 0 } : Room) (va_Pc [.ref (qa 0)] (wq_pw (dC, dI) [(cI, .int), (cJ, .long), (cZ, .boolean)] (wcM qa cI cJ cZ m_trace m_text m_typed m_told m_draft m_s m_past m_known m_images m_kept m_notes m_noted m_at m_sort m_start m_value m_steps m_rows m_held) sz)) (wq_Wi (dC, dI) r0 wq_tr (wcM qa cI cJ cZ m_trace m_text m_typed m_told m_draft r_m_s m_past r_m_known m_images m_kept m_notes m_noted m_at m_sort m_start m_value m_steps m_rows m_held) (va_A (wcM qa cI cJ cZ m_trace m_text m_typed m_told m_draft m_s m_past m_known m_images m_kept m_notes m_noted m_at m_sort m_start m_value m_steps m_rows m_held) sz)) 0 0 (va_A (wcM qa cI cJ cZ m_trace m_text m_typed m_told m_draft m_s m_past m_known m_images m_kept m_notes m_noted m_at m_sort m_start m_value m_steps m_rows m_held) sz) := by
  refine Met.ofW (cc := cX7_undo) (maxL := 2) (ret := (some .int)) (by decide) rfl ?_
  intro p e s m args below meth c s₁ B hml hv
  obtain ⟨rfl, hsz, hP, hK, hD0, hE⟩ := hv
  have hx := B.exec
  have hb := B.bytes
  have hr := B.returns
  have hts := atoms_spec (ws := wsX7_undo) B.pre
  have hown : s.vm.findClass RX7 = some m.cls := findClass_of_methodNamed B.named
  have hlocks := B.notSynchronized
  subst hsz
  have hD := hD0.self (sz := s.heap.size)
  generalize hAe : va_A (wcM qa cI cJ cZ m_trace m_text m_typed m_told m_draft m_s m_past m_known m_images m_kept m_notes m_noted m_at m_sort m_start m_value m_steps m_rows m_held) s.heap.size = A at hD hE ⊢
  have hA : ∀ q : Nat, s.heap.size ≤ q → A q := fun q h => by rw [← hAe]; exact Or.inr h
  have hS : va_S A s.heap s.heap [] := va_S.rf
  have hinX7 : ∀ w ∈ u_ws RX7 TX7 19, w ∈ wsX7_undo := by decide +kernel
  have k1 := hts (.fieldLink RX7 95 "DoorMorningsModel" "known" "I") (by decide +kernel)
  have k2 := hts (.fieldLink RX7 19 "DoorMorningsModel" "s" "[I") (by decide +kernel)
  have k3 := hts (.fieldLink RX7 22 "DoorMorningsModel" "past" "[I") (by decide +kernel)
  have hl := lv_entry ([.ref (qa 0)]) (n := 2) (Nat.le_of_ble_eq_true rfl)
  rw [lg_entry_eq]
  generalize (lg_sl ([.ref (qa 0)]) ++ List.replicate (2 - (lg_sl ([.ref (qa 0)])).length) Slot.unset).toArray = ls at hl ⊢
  have hl : lv_has ls 2 [(0, .ref (qa 0))] := hl
  have hL22 : ∀ (z_m_known : Int32) (n : Nat) (x1 : Int32) (z_m_s : Nat → Int32) (H : Heap) (locs : List Loc) (ls : Array Slot), gX7_undo_L22 m_past z_m_known n x1 z_m_s = some (r0, r_m_s, r_m_known) → va_P (dC, dI) vwCl (wcM qa cI cJ cZ m_trace m_text m_typed m_told m_draft z_m_s m_past z_m_known m_images m_kept m_notes m_noted m_at m_sort m_start m_value m_steps m_rows m_held) H → va_D A (wcM qa cI cJ cZ m_trace m_text m_typed m_told m_draft z_m_s m_past z_m_known m_images m_kept m_notes m_noted m_at m_sort m_start m_value m_steps m_rows m_held) → va_S A s.heap H locs → lv_has ls 2 [(0, .ref (qa 0)), (1, .int x1)] → W p l e (headSpec wsX7_undo ({ frames := 0, cells := 0, slots := 0, locals := 0 } : Room)).room s m ([.ref (qa 0)] : List Value).toArray below meth c H locs 0 0 (MQ below (wq_Wi (dC, dI) r0 wq_tr (wcM qa cI cJ cZ m_trace m_text m_typed m_told m_draft r_m_s m_past r_m_known m_images m_kept m_notes m_noted m_at m_sort m_start m_value m_steps m_rows m_held) A) ([.ref (qa 0)] : List Value).toArray s 0 0 A) (F0 m 22 ls []) := by
    intro z_m_known n
    induction n with
    | zero =>
      intro x1 z_m_s H locs ls hG
      exact absurd (show (none : Option (Int32 × (Nat → Int32) × Int32)) = some (r0, r_m_s, r_m_known) from hG) (by intro h9; cases h9)
    | succ n ih22 =>
      intro x1 z_m_s H locs ls hG hP hD hS hl
      rw [gX7_undo_L22] at hG
      refine lv_iload_n hx hb dX7_undo_22 rfl (lv_at hl 1 rfl) ?_
      refine lv_bipush (v := 8) hx hb dX7_undo_23 (by decide) ?_
      refine lv_icmp_ge (tgt := 54) hx hb dX7_undo_25 (by decide) (fun c1 => ?_) (fun c1 => ?_)
      · replace hG := wq_t c1 hG
        refine lv_aload_n hx hb dX7_undo_54 rfl (lv_at hl 0 rfl) ?_
        refine va_get (D := (dC, dI)) (ci := 7) (v := .int z_m_known) (C := RX7) (T := TX7) (N := 19) hx hb hts hinX7 hown hK hP 0 rfl rfl 7 (by decide) k1 (fun _ h9 => h9) rfl dX7_undo_55 ?_
        obtain ⟨e0, e1, e2⟩ := wq_j3 hG
        subst e0
        subst e1
        subst e2
        exact W.iret hx hb hr (fun t ht hW => ⟨⟨_, (), rfl, ⟨rfl, trivial⟩, by rw [ht]; exact hP, hD⟩, hS.F ht⟩) hS.2.2 dX7_undo_58
      · replace hG := wq_f c1 hG
        refine lv_aload_n hx hb dX7_undo_28 rfl (lv_at hl 0 rfl) ?_
        refine va_get (D := (dC, dI)) (ci := 7) (v := .ref (qa 4)) (C := RX7) (T := TX7) (N := 19) hx hb hts hinX7 hown hK hP 0 rfl rfl 5 (by decide) k2 (fun _ h9 => h9) rfl dX7_undo_29 ?_
        refine lv_iload_n hx hb dX7_undo_32 rfl (lv_at hl 1 rfl) ?_
        refine lv_aload_n hx hb dX7_undo_33 rfl (lv_at hl 0 rfl) ?_
        refine va_get (D := (dC, dI)) (ci := 7) (v := .ref (qa 5)) (C := RX7) (T := TX7) (N := 19) hx hb hts hinX7 hown hK hP 0 rfl rfl 6 (by decide) k3 (fun _ h9 => h9) rfl dX7_undo_34 ?_
        refine lv_bipush (v := 8) hx hb dX7_undo_37 (by decide) ?_
        refine lv_aload_n hx hb dX7_undo_39 rfl (lv_at hl 0 rfl) ?_
        refine va_get (D := (dC, dI)) (ci := 7) (v := .int z_m_known) (C := RX7) (T := TX7) (N := 19) hx hb hts hinX7 hown hK hP 0 rfl rfl 7 (by decide) k1 (fun _ h9 => h9) rfl dX7_undo_40 ?_
        refine lv_imul hx hb dX7_undo_43 ?_
        refine lv_iload_n hx hb dX7_undo_44 rfl (lv_at hl 1 rfl) ?_
        refine lv_iadd hx hb dX7_undo_45 ?_
        obtain ⟨h2, hG⟩ := wq_chk_s hG
        refine wq_iald (D := (dC, dI)) hx hb hK hP 5 0 rfl rfl h2 (Int32.toNatClampNeg ((8 * z_m_known) + x1)) rfl dX7_undo_46 ?_
        obtain ⟨h3, hG⟩ := wq_chk_s hG
        refine wq_iast (D := (dC, dI)) hx hb hK hP hD hS 4 0 rfl rfl h3 (Int32.toNatClampNeg x1) rfl (wcM qa cI cJ cZ m_trace m_text m_typed m_told m_draft (upd z_m_s (Int32.toNatClampNeg x1) (m_past (Int32.toNatClampNeg ((8 * z_m_known) + x1)))) m_past z_m_known m_images m_kept m_notes m_noted m_at m_sort m_start m_value m_steps m_rows m_held) rfl dX7_undo_47 (fun H locs hP hD hS => ?_)
        refine lv_iinc (v := (x1 + 1)) (lv' := [(1, .int (x1 + 1)), (0, .ref (qa 0))]) hx hb dX7_undo_48 hl (k := 1) rfl rfl (by decide) rfl (fun ls hl => ?_)
        refine lv_goto (tgt := 22) hx hb dX7_undo_51 (by decide) ?_
        exact ih22 (x1 + 1) (upd z_m_s (Int32.toNatClampNeg x1) (m_past (Int32.toNatClampNeg ((8 * z_m_known) + x1)))) _ _ _ hG hP hD hS (lv_sub hl [1, 0] rfl)
  unfold gX7_undo at hG
  refine lv_aload_n hx hb dX7_undo_0 rfl (lv_at hl 0 rfl) ?_
  refine va_get (D := (dC, dI)) (ci := 7) (v := .int m_known) (C := RX7) (T := TX7) (N := 19) hx hb hts hinX7 hown hK hP 0 rfl rfl 7 (by decide) k1 (fun _ h9 => h9) rfl dX7_undo_1 ?_
  refine lv_if_ne (tgt := 10) hx hb dX7_undo_4 (by decide) (fun c4 => ?_) (fun c4 => ?_)
  · replace hG := wq_f c4 hG
    refine lv_aload_n hx hb dX7_undo_10 rfl (lv_at hl 0 rfl) ?_
    refine lv_dup hx hb dX7_undo_11 rfl ?_
    refine va_get (D := (dC, dI)) (ci := 7) (v := .int m_known) (C := RX7) (T := TX7) (N := 19) hx hb hts hinX7 hown hK hP 0 rfl rfl 7 (by decide) k1 (fun _ h9 => h9) rfl dX7_undo_12 ?_
    refine lv_iconst (v := 1) hx hb dX7_undo_15 (by decide) ?_
    refine lv_isub hx hb dX7_undo_16 ?_
    refine va_put (D := (dC, dI)) (ci := 7) (v := .int (m_known - 1)) (ty := tyX7 7) (C := RX7) (T := TX7) (N := 19) hx hb hts hinX7 tyX7 tyX7_ok nmX7 hown hK hP hD hS 0 rfl rfl 7 (by decide) k1 (fun _ h9 => h9) rfl (tyX7_ok 7 (by decide)) rfl rfl (Nat.le_of_ble_eq_true rfl) dX7_undo_17 (fun H locs hP hD hS => ?_)
    replace hP : va_P (dC, dI) vwCl (wcM qa cI cJ cZ m_trace m_text m_typed m_told m_draft m_s m_past (m_known - 1) m_images m_kept m_notes m_noted m_at m_sort m_start m_value m_steps m_rows m_held) H := hP
    replace hD : va_D A (wcM qa cI cJ cZ m_trace m_text m_typed m_told m_draft m_s m_past (m_known - 1) m_images m_kept m_notes m_noted m_at m_sort m_start m_value m_steps m_rows m_held) := hD
    refine lv_iconst (v := 0) hx hb dX7_undo_20 (by decide) ?_
    refine lv_istore_n (lv' := [(1, .int 0), (0, .ref (qa 0))]) hx hb dX7_undo_21 rfl hl (by decide) rfl (fun ls hl => ?_)
    exact hL22 (m_known - 1) 1000 0 m_s _ _ _ hG hP hD hS (lv_sub hl [1, 0] rfl)
  · replace hG := wq_t c4 hG
    refine lv_bipush (v := (-2)) hx hb dX7_undo_7 (by decide) ?_
    obtain ⟨e0, e1, e2⟩ := wq_j3 hG
    subst e0
    subst e1
    subst e2
    exact W.iret hx hb hr (fun t ht hW => ⟨⟨_, (), rfl, ⟨rfl, trivial⟩, by rw [ht]; exact hP, hD⟩, hS.F ht⟩) hS.2.2 dX7_undo_9

theorem hdV_X7_would : yX7_would.cls = RX7 ∧ yX7_would.cls ≠ "java/lang/invoke/MethodHandle" ∧ yX7_would.cls ≠ "java/lang/invoke/VarHandle" ∧ (parseMethodDescriptor yX7_would.desc).map (fun d => d.parameters.length) = some 3 := by decide +kernel
set_option maxHeartbeats 4000000 in
set_option maxRecDepth 100000 in
theorem C_X7_would (l : Launch) (dC : Nat → ClassId) (dI : Nat → Nat → Nat) (cI cJ cZ : ClassId) (qa : Nat → Nat) (sz : Nat) (m_trace : Int64) (m_text : Nat → Int32) (m_typed : Int32) (m_told : Nat → Int32) (m_draft : Nat → Int32) (m_s : Nat → Int32) (m_past : Nat → Int32) (m_known : Int32) (m_images : Nat → Int32) (m_kept : Nat → Int32) (m_notes : Nat → Int32) (m_noted : Int32) (m_at : Int32) (m_sort : Int32) (m_start : Int32) (m_value : Int32) (m_steps : Nat → Int32) (m_rows : Nat → Int32) (m_held : Nat → Int32) (a1 : Int32) (a2 : Int32) (a3 : Int32) (r0 : Int32) (hG : gX7_would m_told m_s a1 a2 a3 = some r0) : Met l yX7_would wsX7_would ({ frames := 3, cells := 0, slots := 0, locals := 70 } : Room) (va_Pc [.ref (qa 0), .int a1, .int a2, .int a3] (wq_pp (dC, dI) [(cI, .int), (cJ, .long), (cZ, .boolean)] (wcM qa cI cJ cZ m_trace m_text m_typed m_told m_draft m_s m_past m_known m_images m_kept m_notes m_noted m_at m_sort m_start m_value m_steps m_rows m_held) sz)) (wq_Qi r0 wq_tr (va_A [] sz)) 0 0 (va_A [] sz) := by
  refine Met.ofW (cc := cX7_would) (maxL := 4) (ret := (some .int)) (by decide) rfl ?_
  intro p e s m args below meth c s₁ B hml hv
  obtain ⟨rfl, hsz, hP, hK, hE⟩ := hv
  have hx := B.exec
  have hb := B.bytes
  have hr := B.returns
  have hts := atoms_spec (ws := wsX7_would) B.pre
  have hown : s.vm.findClass RX7 = some m.cls := findClass_of_methodNamed B.named
  have hlocks := B.notSynchronized
  subst hsz
  generalize hAe : va_A [] s.heap.size = A at hE ⊢
  have hA : ∀ q : Nat, s.heap.size ≤ q → A q := fun q h => by rw [← hAe]; exact Or.inr h
  have hS : va_S A s.heap s.heap [] := va_S.rf
  have hl := lv_entry ([.ref (qa 0), .int a1, .int a2, .int a3]) (n := 4) (Nat.le_of_ble_eq_true rfl)
  rw [lg_entry_eq]
  generalize (lg_sl ([.ref (qa 0), .int a1, .int a2, .int a3]) ++ List.replicate (4 - (lg_sl ([.ref (qa 0), .int a1, .int a2, .int a3])).length) Slot.unset).toArray = ls at hl ⊢
  have hl : lv_has ls 4 [(0, .ref (qa 0)), (1, .int a1), (2, .int a2), (3, .int a3)] := hl
  unfold gX7_would at hG
  refine lv_aload_n hx hb dX7_would_0 rfl (lv_at hl 0 rfl) ?_
  refine lv_iload_n hx hb dX7_would_1 rfl (lv_at hl 1 rfl) ?_
  refine lv_iload_n hx hb dX7_would_2 rfl (lv_at hl 2 rfl) ?_
  refine lv_iload_n hx hb dX7_would_3 rfl (lv_at hl 3 rfl) ?_
  obtain ⟨v2, g1, hG⟩ := wq_b1_s hG
  refine wq_ci (v := v2) (B := wq_Z1) (va_runV (As := [.int a1, .int a2, .int a3]) (rest := []) ⟨hx, hb, hml, hown, hts⟩ (C_X7_isMorning l dC dI cI cJ cZ qa s.heap.size m_trace m_text m_typed m_told m_draft m_s m_past m_known m_images m_kept m_notes m_noted m_at m_sort m_start m_value m_steps m_rows m_held a1 a2 a3 v2 g1) (cwV 3 hts gX7_would_X7_isMorning rfl rfl rfl hdV_X7_isMorning ⟨Nat.le_of_ble_eq_true rfl, Nat.le_of_ble_eq_true rfl⟩) (wq_ppV hK hP hE hS hA (ci := 7) (q0 := 0) rfl rfl) rfl rfl hl.1 rfl (lv_room (Nat.le_of_ble_eq_true rfl)) dX7_would_4 ⟨Nat.zero_le _, Nat.zero_le _⟩) hS hA (fun H locs b3 hk hS => ?_)
  replace hP := wq_kp hP hk
  clear hk
  refine lv_if_eq (tgt := 20) hx hb dX7_would_7 (by decide) (fun c4 => ?_) (fun c4 => ?_)
  · replace hG := wq_t c4 hG
    refine lv_iconst (v := (-1)) hx hb dX7_would_20 (by decide) ?_
    exact W.iret (v := (-1)) hx hb hr (fun t ht hW => ⟨⟨(-1), (), rfl, ⟨Option.some.inj hG, trivial⟩, trivial⟩, hS.F ht⟩) hS.2.2 dX7_would_21
  · replace hG := wq_f c4 hG
    refine lv_aload_n hx hb dX7_would_10 rfl (lv_at hl 0 rfl) ?_
    refine lv_iload_n hx hb dX7_would_11 rfl (lv_at hl 1 rfl) ?_
    refine lv_iload_n hx hb dX7_would_12 rfl (lv_at hl 2 rfl) ?_
    refine lv_iload_n hx hb dX7_would_13 rfl (lv_at hl 3 rfl) ?_
    obtain ⟨v6, g5, hG⟩ := wq_b1_s hG
    refine wq_ci (v := v6) (B := wq_tr) (va_runV (As := [.int a1, .int a2, .int a3]) (rest := []) ⟨hx, hb, hml, hown, hts⟩ (C_X7_criesNow l dC dI cI cJ cZ qa H.size m_trace m_text m_typed m_told m_draft m_s m_past m_known m_images m_kept m_notes m_noted m_at m_sort m_start m_value m_steps m_rows m_held a1 a2 a3 v6 g5) (cwV 3 hts gX7_would_X7_criesNow rfl rfl rfl hdV_X7_criesNow ⟨Nat.le_of_ble_eq_true rfl, Nat.le_of_ble_eq_true rfl⟩) (wq_ppV hK hP hE hS hA (ci := 7) (q0 := 0) rfl rfl) rfl rfl hl.1 rfl (lv_room (Nat.le_of_ble_eq_true rfl)) dX7_would_14 ⟨Nat.zero_le _, Nat.zero_le _⟩) hS hA (fun H locs b7 hk hS => ?_)
    replace hP := wq_kp hP hk
    clear hk
    refine lv_goto (tgt := 21) hx hb dX7_would_17 (by decide) ?_
    exact W.iret (v := v6) hx hb hr (fun t ht hW => ⟨⟨v6, (), rfl, ⟨Option.some.inj hG, trivial⟩, trivial⟩, hS.F ht⟩) hS.2.2 dX7_would_21

theorem hdV_X7_farthest : yX7_farthest.cls = RX7 ∧ yX7_farthest.cls ≠ "java/lang/invoke/MethodHandle" ∧ yX7_farthest.cls ≠ "java/lang/invoke/VarHandle" ∧ (parseMethodDescriptor yX7_farthest.desc).map (fun d => d.parameters.length) = some 2 := by decide +kernel
set_option maxHeartbeats 4000000 in
set_option maxRecDepth 100000 in
theorem C_X7_farthest (l : Launch) (dC : Nat → ClassId) (dI : Nat → Nat → Nat) (cI cJ cZ : ClassId) (qa : Nat → Nat) (sz : Nat) (m_trace : Int64) (m_text : Nat → Int32) (m_typed : Int32) (m_told : Nat → Int32) (m_draft : Nat → Int32) (m_s : Nat → Int32) (m_past : Nat → Int32) (m_known : Int32) (m_images : Nat → Int32) (m_kept : Nat → Int32) (m_notes : Nat → Int32) (m_noted : Int32) (m_at : Int32) (m_sort : Int32) (m_start : Int32) (m_value : Int32) (m_steps : Nat → Int32) (m_rows : Nat → Int32) (m_held : Nat → Int32) (a1 : Int32) (a2 : Int32) (r0 : Int32) (hG : gX7_farthest m_told m_s a1 a2 = some r0) : Met l yX7_farthest wsX7_farthest ({ frames := 2, cells := 0, slots := 0, locals := 43 } : Room) (va_Pc [.ref (qa 0), .int a1, .int a2] (wq_pp (dC, dI) [(cI, .int), (cJ, .long), (cZ, .boolean)] (wcM qa cI cJ cZ m_trace m_text m_typed m_told m_draft m_s m_past m_known m_images m_kept m_notes m_noted m_at m_sort m_start m_value m_steps m_rows m_held) sz)) (wq_Qi r0 wq_tr (va_A [] sz)) 0 0 (va_A [] sz) := by
  refine Met.ofW (cc := cX7_farthest) (maxL := 4) (ret := (some .int)) (by decide) rfl ?_
  intro p e s m args below meth c s₁ B hml hv
  obtain ⟨rfl, hsz, hP, hK, hE⟩ := hv
  have hx := B.exec
  have hb := B.bytes
  have hr := B.returns
  have hts := atoms_spec (ws := wsX7_farthest) B.pre
  have hown : s.vm.findClass RX7 = some m.cls := findClass_of_methodNamed B.named
  have hlocks := B.notSynchronized
  subst hsz
  generalize hAe : va_A [] s.heap.size = A at hE ⊢
  have hA : ∀ q : Nat, s.heap.size ≤ q → A q := fun q h => by rw [← hAe]; exact Or.inr h
  have hS : va_S A s.heap s.heap [] := va_S.rf
  have hinX7 : ∀ w ∈ u_ws RX7 TX7 19, w ∈ wsX7_farthest := by decide +kernel
  have k1 := hts (.fieldLink RX7 19 "DoorMorningsModel" "s" "[I") (by decide +kernel)
  have hl := lv_entry ([.ref (qa 0), .int a1, .int a2]) (n := 4) (Nat.le_of_ble_eq_true rfl)
  rw [lg_entry_eq]
  generalize (lg_sl ([.ref (qa 0), .int a1, .int a2]) ++ List.replicate (4 - (lg_sl ([.ref (qa 0), .int a1, .int a2])).length) Slot.unset).toArray = ls at hl ⊢
  have hl : lv_has ls 4 [(0, .ref (qa 0)), (1, .int a1), (2, .int a2)] := hl
  unfold gX7_farthest at hG
  refine lv_aload_n hx hb dX7_farthest_0 rfl (lv_at hl 0 rfl) ?_
  refine lv_iload_n hx hb dX7_farthest_1 rfl (lv_at hl 1 rfl) ?_
  obtain ⟨v2, g1, hG⟩ := wq_b1_s hG
  refine wq_ci (v := v2) (B := wq_Z1) (va_runV (As := [.int a1]) (rest := []) ⟨hx, hb, hml, hown, hts⟩ (C_X7_isGoodbye l dC dI cI cJ cZ qa s.heap.size m_trace m_text m_typed m_told m_draft m_s m_past m_known m_images m_kept m_notes m_noted m_at m_sort m_start m_value m_steps m_rows m_held a1 v2 g1) (cwV 1 hts gX7_farthest_X7_isGoodbye rfl rfl rfl hdV_X7_isGoodbye ⟨Nat.le_of_ble_eq_true rfl, Nat.le_of_ble_eq_true rfl⟩) (wq_ppV hK hP hE hS hA (ci := 7) (q0 := 0) rfl rfl) rfl rfl hl.1 rfl (lv_room (Nat.le_of_ble_eq_true rfl)) dX7_farthest_2 ⟨Nat.zero_le _, Nat.zero_le _⟩) hS hA (fun H locs b3 hk hS => ?_)
  replace hP := wq_kp hP hk
  clear hk
  refine lv_if_eq (tgt := 16) hx hb dX7_farthest_5 (by decide) (fun c4 => ?_) (fun c4 => ?_)
  · replace hG := wq_t c4 hG
    refine lv_iconst (v := (-1)) hx hb dX7_farthest_16 (by decide) ?_
    exact W.iret (v := (-1)) hx hb hr (fun t ht hW => ⟨⟨(-1), (), rfl, ⟨Option.some.inj hG, trivial⟩, trivial⟩, hS.F ht⟩) hS.2.2 dX7_farthest_17
  · replace hG := wq_f c4 hG
    refine lv_aload_n hx hb dX7_farthest_8 rfl (lv_at hl 0 rfl) ?_
    refine lv_iload_n hx hb dX7_farthest_9 rfl (lv_at hl 2 rfl) ?_
    obtain ⟨v6, g5, hG⟩ := wq_b1_s hG
    refine wq_ci (v := v6) (B := wq_Z1) (va_runV (As := [.int a2]) (rest := []) ⟨hx, hb, hml, hown, hts⟩ (C_X7_isWoman l dC dI cI cJ cZ qa H.size m_trace m_text m_typed m_told m_draft m_s m_past m_known m_images m_kept m_notes m_noted m_at m_sort m_start m_value m_steps m_rows m_held a2 v6 g5) (cwV 1 hts gX7_farthest_X7_isWoman rfl rfl rfl hdV_X7_isWoman ⟨Nat.le_of_ble_eq_true rfl, Nat.le_of_ble_eq_true rfl⟩) (wq_ppV hK hP hE hS hA (ci := 7) (q0 := 0) rfl rfl) rfl rfl hl.1 rfl (lv_room (Nat.le_of_ble_eq_true rfl)) dX7_farthest_10 ⟨Nat.zero_le _, Nat.zero_le _⟩) hS hA (fun H locs b7 hk hS => ?_)
    replace hP := wq_kp hP hk
    clear hk
    refine lv_if_ne (tgt := 18) hx hb dX7_farthest_13 (by decide) (fun c8 => ?_) (fun c8 => ?_)
    · replace hG := wq_f c8 hG
      refine lv_aload_n hx hb dX7_farthest_18 rfl (lv_at hl 0 rfl) ?_
      refine lv_iload_n hx hb dX7_farthest_19 rfl (lv_at hl 1 rfl) ?_
      refine lv_aload_n hx hb dX7_farthest_20 rfl (lv_at hl 0 rfl) ?_
      refine va_get (D := (dC, dI)) (ci := 7) (v := .ref (qa 4)) (C := RX7) (T := TX7) (N := 19) hx hb hts hinX7 hown hK hP 0 rfl rfl 5 (by decide) k1 (fun _ h9 => h9) rfl dX7_farthest_21 ?_
      refine lv_iconst (v := 1) hx hb dX7_farthest_24 (by decide) ?_
      refine wq_iald (D := (dC, dI)) hx hb hK hP 4 0 rfl rfl (wq_lit (by decide)) 1 rfl dX7_farthest_25 ?_
      refine lv_aload_n hx hb dX7_farthest_26 rfl (lv_at hl 0 rfl) ?_
      refine va_get (D := (dC, dI)) (ci := 7) (v := .ref (qa 4)) (C := RX7) (T := TX7) (N := 19) hx hb hts hinX7 hown hK hP 0 rfl rfl 5 (by decide) k1 (fun _ h9 => h9) rfl dX7_farthest_27 ?_
      refine lv_iconst (v := 4) hx hb dX7_farthest_30 (by decide) ?_
      refine lv_iload_n hx hb dX7_farthest_31 rfl (lv_at hl 2 rfl) ?_
      refine lv_iadd hx hb dX7_farthest_32 ?_
      obtain ⟨h9, hG⟩ := wq_chk_s hG
      refine wq_iald (D := (dC, dI)) hx hb hK hP 4 0 rfl rfl h9 (Int32.toNatClampNeg (4 + a2)) rfl dX7_farthest_33 ?_
      obtain ⟨v11, g10, hG⟩ := wq_b1_s hG
      refine wq_ci (v := v11) (B := wq_tr) (va_runV (As := [.int a1, .int (m_s 1), .int (m_s (Int32.toNatClampNeg (4 + a2)))]) (rest := []) ⟨hx, hb, hml, hown, hts⟩ (C_X7_calmTo l dC dI cI cJ cZ qa H.size m_trace m_text m_typed m_told m_draft m_s m_past m_known m_images m_kept m_notes m_noted m_at m_sort m_start m_value m_steps m_rows m_held a1 (m_s 1) (m_s (Int32.toNatClampNeg (4 + a2))) v11 g10) (cwV 3 hts gX7_farthest_X7_calmTo rfl rfl rfl hdV_X7_calmTo ⟨Nat.le_of_ble_eq_true rfl, Nat.le_of_ble_eq_true rfl⟩) (wq_ppV hK hP hE hS hA (ci := 7) (q0 := 0) rfl rfl) rfl rfl hl.1 rfl (lv_room (Nat.le_of_ble_eq_true rfl)) dX7_farthest_34 ⟨Nat.zero_le _, Nat.zero_le _⟩) hS hA (fun H locs b12 hk hS => ?_)
      replace hP := wq_kp hP hk
      clear hk
      refine lv_istore_n (lv' := [(3, .int v11), (0, .ref (qa 0)), (1, .int a1), (2, .int a2)]) hx hb dX7_farthest_37 rfl hl (by decide) rfl (fun ls hl => ?_)
      refine lv_iload_n hx hb dX7_farthest_38 rfl (lv_at hl 0 rfl) ?_
      refine lv_if_ne (tgt := 47) hx hb dX7_farthest_39 (by decide) (fun c13 => ?_) (fun c13 => ?_)
      · replace hG := wq_f c13 hG
        refine lv_iload_n hx hb dX7_farthest_47 rfl (lv_at hl 0 rfl) ?_
        exact W.iret (v := v11) hx hb hr (fun t ht hW => ⟨⟨v11, (), rfl, ⟨Option.some.inj hG, trivial⟩, trivial⟩, hS.F ht⟩) hS.2.2 dX7_farthest_48
      · replace hG := wq_t c13 hG
        refine lv_bipush (v := (-9)) hx hb dX7_farthest_42 (by decide) ?_
        refine lv_goto (tgt := 48) hx hb dX7_farthest_44 (by decide) ?_
        exact W.iret (v := (-9)) hx hb hr (fun t ht hW => ⟨⟨(-9), (), rfl, ⟨Option.some.inj hG, trivial⟩, trivial⟩, hS.F ht⟩) hS.2.2 dX7_farthest_48
    · replace hG := wq_t c8 hG
      refine lv_iconst (v := (-1)) hx hb dX7_farthest_16 (by decide) ?_
      exact W.iret (v := (-1)) hx hb hr (fun t ht hW => ⟨⟨(-1), (), rfl, ⟨Option.some.inj hG, trivial⟩, trivial⟩, hS.F ht⟩) hS.2.2 dX7_farthest_17

theorem hdS_X7_place : yX7_place.cls ≠ "java/lang/invoke/MethodHandle" ∧ yX7_place.cls ≠ "java/lang/invoke/VarHandle" ∧ (parseMethodDescriptor yX7_place.desc).map (fun d => d.parameters.length) = some 2 := by decide +kernel
set_option maxHeartbeats 4000000 in
set_option maxRecDepth 100000 in
theorem C_X7_place (l : Launch) (dC : Nat → ClassId) (dI : Nat → Nat → Nat) (cI cJ cZ : ClassId) (qa : Nat → Nat) (sz : Nat) (a0 : Int32) (a1 : Int32) (r0 : Int32) (hG : gX7_place a0 a1 = some r0) : Met l yX7_place wsX7_place ({ frames := 1, cells := 0, slots := 0, locals := 22 } : Room) (va_Pc [.int a0, .int a1] (wq_pp (dC, dI) [(cI, .int), (cJ, .long), (cZ, .boolean)] ([]) sz)) (wq_Qi r0 wq_tr (va_A [] sz)) 0 0 (va_A [] sz) := by
  refine Met.ofW (cc := cX7_place) (maxL := 2) (ret := (some .int)) (by decide) rfl ?_
  intro p e s m args below meth c s₁ B hml hv
  obtain ⟨rfl, hsz, hP, hK, hE⟩ := hv
  have hx := B.exec
  have hb := B.bytes
  have hr := B.returns
  have hts := atoms_spec (ws := wsX7_place) B.pre
  have hown : s.vm.findClass RX7 = some m.cls := findClass_of_methodNamed B.named
  have hlocks := B.notSynchronized
  subst hsz
  generalize hAe : va_A [] s.heap.size = A at hE ⊢
  have hA : ∀ q : Nat, s.heap.size ≤ q → A q := fun q h => by rw [← hAe]; exact Or.inr h
  have hS : va_S A s.heap s.heap [] := va_S.rf
  have hl := lv_entry ([.int a0, .int a1]) (n := 2) (Nat.le_of_ble_eq_true rfl)
  rw [lg_entry_eq]
  generalize (lg_sl ([.int a0, .int a1]) ++ List.replicate (2 - (lg_sl ([.int a0, .int a1])).length) Slot.unset).toArray = ls at hl ⊢
  have hl : lv_has ls 2 [(0, .int a0), (1, .int a1)] := hl
  unfold gX7_place at hG
  refine lv_bipush (v := 10) hx hb dX7_place_0 (by decide) ?_
  refine lv_iload_n hx hb dX7_place_2 rfl (lv_at hl 0 rfl) ?_
  refine lv_iconst (v := 0) hx hb dX7_place_3 (by decide) ?_
  refine lv_bipush (v := 24) hx hb dX7_place_4 (by decide) ?_
  obtain ⟨v2, g1, hG⟩ := wq_b1_s hG
  refine wq_ci (v := v2) (B := wq_tr) (va_runS (As := [.int a0, .int 0, .int 24]) (rest := [.int 10]) ⟨hx, hb, hml, hown, hts⟩ (C_X7_bound l dC dI cI cJ cZ qa s.heap.size  a0 0 24 v2 g1) (va_cwS 3 hts gX7_place_X7_bound rfl rfl rfl hdS_X7_bound ⟨Nat.le_of_ble_eq_true rfl, Nat.le_of_ble_eq_true rfl⟩) (wq_ppS hK (hP.sub (ws' := []) [] rfl) hE hS hA) rfl rfl hl.1 rfl (lv_room (Nat.le_of_ble_eq_true rfl)) dX7_place_6 ⟨Nat.zero_le _, Nat.zero_le _⟩) hS hA (fun H locs b3 hk hS => ?_)
  replace hP := wq_kp hP hk
  clear hk
  refine lv_imul hx hb dX7_place_9 ?_
  refine lv_iload_n hx hb dX7_place_10 rfl (lv_at hl 1 rfl) ?_
  refine lv_iconst (v := 0) hx hb dX7_place_11 (by decide) ?_
  refine lv_bipush (v := 9) hx hb dX7_place_12 (by decide) ?_
  obtain ⟨v5, g4, hG⟩ := wq_b1_s hG
  refine wq_ci (v := v5) (B := wq_tr) (va_runS (As := [.int a1, .int 0, .int 9]) (rest := [.int (10 * v2)]) ⟨hx, hb, hml, hown, hts⟩ (C_X7_bound l dC dI cI cJ cZ qa H.size  a1 0 9 v5 g4) (va_cwS 3 hts gX7_place_X7_bound rfl rfl rfl hdS_X7_bound ⟨Nat.le_of_ble_eq_true rfl, Nat.le_of_ble_eq_true rfl⟩) (wq_ppS hK (hP.sub (ws' := []) [] rfl) hE hS hA) rfl rfl hl.1 rfl (lv_room (Nat.le_of_ble_eq_true rfl)) dX7_place_14 ⟨Nat.zero_le _, Nat.zero_le _⟩) hS hA (fun H locs b6 hk hS => ?_)
  replace hP := wq_kp hP hk
  clear hk
  refine lv_iadd hx hb dX7_place_17 ?_
  exact W.iret (v := ((10 * v2) + v5)) hx hb hr (fun t ht hW => ⟨⟨((10 * v2) + v5), (), rfl, ⟨Option.some.inj hG, trivial⟩, trivial⟩, hS.F ht⟩) hS.2.2 dX7_place_18

theorem hdV_X7_calmly : yX7_calmly.cls = RX7 ∧ yX7_calmly.cls ≠ "java/lang/invoke/MethodHandle" ∧ yX7_calmly.cls ≠ "java/lang/invoke/VarHandle" ∧ (parseMethodDescriptor yX7_calmly.desc).map (fun d => d.parameters.length) = some 3 := by decide +kernel
set_option maxHeartbeats 4000000 in
set_option maxRecDepth 100000 in
theorem C_X7_calmly (l : Launch) (dC : Nat → ClassId) (dI : Nat → Nat → Nat) (cI cJ cZ : ClassId) (qa : Nat → Nat) (sz : Nat) (m_trace : Int64) (m_text : Nat → Int32) (m_typed : Int32) (m_told : Nat → Int32) (m_draft : Nat → Int32) (m_s : Nat → Int32) (m_past : Nat → Int32) (m_known : Int32) (m_images : Nat → Int32) (m_kept : Nat → Int32) (m_notes : Nat → Int32) (m_noted : Int32) (m_at : Int32) (m_sort : Int32) (m_start : Int32) (m_value : Int32) (m_steps : Nat → Int32) (m_rows : Nat → Int32) (m_held : Nat → Int32) (a1 : Int32) (a2 : Int32) (a3 : Int32) (r0 : Int32) (hG : gX7_calmly m_told a1 a2 a3 = some r0) : Met l yX7_calmly wsX7_calmly ({ frames := 2, cells := 0, slots := 0, locals := 43 } : Room) (va_Pc [.ref (qa 0), .int a1, .int a2, .int a3] (wq_pp (dC, dI) [(cI, .int), (cJ, .long), (cZ, .boolean)] (wcM qa cI cJ cZ m_trace m_text m_typed m_told m_draft m_s m_past m_known m_images m_kept m_notes m_noted m_at m_sort m_start m_value m_steps m_rows m_held) sz)) (wq_Qi r0 wq_tr (va_A [] sz)) 0 0 (va_A [] sz) := by
  refine Met.ofW (cc := cX7_calmly) (maxL := 4) (ret := (some .int)) (by decide) rfl ?_
  intro p e s m args below meth c s₁ B hml hv
  obtain ⟨rfl, hsz, hP, hK, hE⟩ := hv
  have hx := B.exec
  have hb := B.bytes
  have hr := B.returns
  have hts := atoms_spec (ws := wsX7_calmly) B.pre
  have hown : s.vm.findClass RX7 = some m.cls := findClass_of_methodNamed B.named
  have hlocks := B.notSynchronized
  subst hsz
  generalize hAe : va_A [] s.heap.size = A at hE ⊢
  have hA : ∀ q : Nat, s.heap.size ≤ q → A q := fun q h => by rw [← hAe]; exact Or.inr h
  have hS : va_S A s.heap s.heap [] := va_S.rf
  have hinX7 : ∀ w ∈ u_ws RX7 TX7 19, w ∈ wsX7_calmly := by decide +kernel
  have k1 := hts (.fieldLink RX7 13 "DoorMorningsModel" "told" "[I") (by decide +kernel)
  have hl := lv_entry ([.ref (qa 0), .int a1, .int a2, .int a3]) (n := 4) (Nat.le_of_ble_eq_true rfl)
  rw [lg_entry_eq]
  generalize (lg_sl ([.ref (qa 0), .int a1, .int a2, .int a3]) ++ List.replicate (4 - (lg_sl ([.ref (qa 0), .int a1, .int a2, .int a3])).length) Slot.unset).toArray = ls at hl ⊢
  have hl : lv_has ls 4 [(0, .ref (qa 0)), (1, .int a1), (2, .int a2), (3, .int a3)] := hl
  unfold gX7_calmly at hG
  refine lv_iload_n hx hb dX7_calmly_0 rfl (lv_at hl 2 rfl) ?_
  refine lv_aload_n hx hb dX7_calmly_1 rfl (lv_at hl 0 rfl) ?_
  refine va_get (D := (dC, dI)) (ci := 7) (v := .ref (qa 2)) (C := RX7) (T := TX7) (N := 19) hx hb hts hinX7 hown hK hP 0 rfl rfl 3 (by decide) k1 (fun _ h9 => h9) rfl dX7_calmly_2 ?_
  refine lv_bipush (v := 13) hx hb dX7_calmly_5 (by decide) ?_
  refine lv_iload_n hx hb dX7_calmly_7 rfl (lv_at hl 1 rfl) ?_
  refine lv_iadd hx hb dX7_calmly_8 ?_
  obtain ⟨h1, hG⟩ := wq_chk_s hG
  refine wq_iald (D := (dC, dI)) hx hb hK hP 2 0 rfl rfl h1 (Int32.toNatClampNeg (13 + a1)) rfl dX7_calmly_9 ?_
  refine lv_iadd hx hb dX7_calmly_10 ?_
  refine lv_iload_n hx hb dX7_calmly_11 rfl (lv_at hl 3 rfl) ?_
  refine lv_iconst (v := 1) hx hb dX7_calmly_12 (by decide) ?_
  refine lv_iadd hx hb dX7_calmly_13 ?_
  obtain ⟨v3, g2, hG⟩ := wq_b1_s hG
  refine wq_ci (v := v3) (B := wq_tr) (va_runS (As := [.int (a2 + (m_told (Int32.toNatClampNeg (13 + a1)))), .int (a3 + 1)]) (rest := []) ⟨hx, hb, hml, hown, hts⟩ (C_X7_place l dC dI cI cJ cZ qa s.heap.size  (a2 + (m_told (Int32.toNatClampNeg (13 + a1)))) (a3 + 1) v3 g2) (va_cwS 2 hts gX7_calmly_X7_place rfl rfl rfl hdS_X7_place ⟨Nat.le_of_ble_eq_true rfl, Nat.le_of_ble_eq_true rfl⟩) (wq_ppS hK (hP.sub (ws' := []) [] rfl) hE hS hA) rfl rfl hl.1 rfl (lv_room (Nat.le_of_ble_eq_true rfl)) dX7_calmly_14 ⟨Nat.zero_le _, Nat.zero_le _⟩) hS hA (fun H locs b4 hk hS => ?_)
  replace hP := wq_kp hP hk
  clear hk
  exact W.iret (v := v3) hx hb hr (fun t ht hW => ⟨⟨v3, (), rfl, ⟨Option.some.inj hG, trivial⟩, trivial⟩, hS.F ht⟩) hS.2.2 dX7_calmly_17

theorem hdS_X7_wildly : yX7_wildly.cls ≠ "java/lang/invoke/MethodHandle" ∧ yX7_wildly.cls ≠ "java/lang/invoke/VarHandle" ∧ (parseMethodDescriptor yX7_wildly.desc).map (fun d => d.parameters.length) = some 2 := by decide +kernel
set_option maxHeartbeats 4000000 in
set_option maxRecDepth 100000 in
theorem C_X7_wildly (l : Launch) (dC : Nat → ClassId) (dI : Nat → Nat → Nat) (cI cJ cZ : ClassId) (qa : Nat → Nat) (sz : Nat) (a0 : Int32) (a1 : Int32) (r0 : Int32) (hG : gX7_wildly a0 a1 = some r0) : Met l yX7_wildly wsX7_wildly ({ frames := 2, cells := 0, slots := 0, locals := 43 } : Room) (va_Pc [.int a0, .int a1] (wq_pp (dC, dI) [(cI, .int), (cJ, .long), (cZ, .boolean)] ([]) sz)) (wq_Qi r0 wq_tr (va_A [] sz)) 0 0 (va_A [] sz) := by
  refine Met.ofW (cc := cX7_wildly) (maxL := 2) (ret := (some .int)) (by decide) rfl ?_
  intro p e s m args below meth c s₁ B hml hv
  obtain ⟨rfl, hsz, hP, hK, hE⟩ := hv
  have hx := B.exec
  have hb := B.bytes
  have hr := B.returns
  have hts := atoms_spec (ws := wsX7_wildly) B.pre
  have hown : s.vm.findClass RX7 = some m.cls := findClass_of_methodNamed B.named
  have hlocks := B.notSynchronized
  subst hsz
  generalize hAe : va_A [] s.heap.size = A at hE ⊢
  have hA : ∀ q : Nat, s.heap.size ≤ q → A q := fun q h => by rw [← hAe]; exact Or.inr h
  have hS : va_S A s.heap s.heap [] := va_S.rf
  have hl := lv_entry ([.int a0, .int a1]) (n := 2) (Nat.le_of_ble_eq_true rfl)
  rw [lg_entry_eq]
  generalize (lg_sl ([.int a0, .int a1]) ++ List.replicate (2 - (lg_sl ([.int a0, .int a1])).length) Slot.unset).toArray = ls at hl ⊢
  have hl : lv_has ls 2 [(0, .int a0), (1, .int a1)] := hl
  unfold gX7_wildly at hG
  refine lv_iload_n hx hb dX7_wildly_0 rfl (lv_at hl 0 rfl) ?_
  refine lv_iconst (v := 2) hx hb dX7_wildly_1 (by decide) ?_
  refine lv_isub hx hb dX7_wildly_2 ?_
  refine lv_iload_n hx hb dX7_wildly_3 rfl (lv_at hl 1 rfl) ?_
  refine lv_iconst (v := 1) hx hb dX7_wildly_4 (by decide) ?_
  refine lv_isub hx hb dX7_wildly_5 ?_
  obtain ⟨v2, g1, hG⟩ := wq_b1_s hG
  refine wq_ci (v := v2) (B := wq_tr) (va_runS (As := [.int (a0 - 2), .int (a1 - 1)]) (rest := []) ⟨hx, hb, hml, hown, hts⟩ (C_X7_place l dC dI cI cJ cZ qa s.heap.size  (a0 - 2) (a1 - 1) v2 g1) (va_cwS 2 hts gX7_wildly_X7_place rfl rfl rfl hdS_X7_place ⟨Nat.le_of_ble_eq_true rfl, Nat.le_of_ble_eq_true rfl⟩) (wq_ppS hK (hP.sub (ws' := []) [] rfl) hE hS hA) rfl rfl hl.1 rfl (lv_room (Nat.le_of_ble_eq_true rfl)) dX7_wildly_6 ⟨Nat.zero_le _, Nat.zero_le _⟩) hS hA (fun H locs b3 hk hS => ?_)
  replace hP := wq_kp hP hk
  clear hk
  exact W.iret (v := v2) hx hb hr (fun t ht hW => ⟨⟨v2, (), rfl, ⟨Option.some.inj hG, trivial⟩, trivial⟩, hS.F ht⟩) hS.2.2 dX7_wildly_9

theorem hdV_X7_waysFrom : yX7_waysFrom.cls = RX7 ∧ yX7_waysFrom.cls ≠ "java/lang/invoke/MethodHandle" ∧ yX7_waysFrom.cls ≠ "java/lang/invoke/VarHandle" ∧ (parseMethodDescriptor yX7_waysFrom.desc).map (fun d => d.parameters.length) = some 3 := by decide +kernel
set_option maxHeartbeats 4000000 in
set_option maxRecDepth 100000 in
theorem C_X7_waysFrom (l : Launch) (dC : Nat → ClassId) (dI : Nat → Nat → Nat) (cI cJ cZ : ClassId) (qa : Nat → Nat) (sz : Nat) (m_trace : Int64) (m_text : Nat → Int32) (m_typed : Int32) (m_told : Nat → Int32) (m_draft : Nat → Int32) (m_s : Nat → Int32) (m_past : Nat → Int32) (m_known : Int32) (m_images : Nat → Int32) (m_kept : Nat → Int32) (m_notes : Nat → Int32) (m_noted : Int32) (m_at : Int32) (m_sort : Int32) (m_start : Int32) (m_value : Int32) (m_steps : Nat → Int32) (m_rows : Nat → Int32) (m_held : Nat → Int32) (a1 : Int32) (a2 : Int32) (a3 : Int32) (r0 : Int32) (hG : gX7_waysFrom m_told m_steps m_rows a1 a2 a3 = some r0) : Met l yX7_waysFrom wsX7_waysFrom ({ frames := 3, cells := 0, slots := 0, locals := 66 } : Room) (va_Pc [.ref (qa 0), .int a1, .int a2, .int a3] (wq_pp (dC, dI) [(cI, .int), (cJ, .long), (cZ, .boolean)] (wcM qa cI cJ cZ m_trace m_text m_typed m_told m_draft m_s m_past m_known m_images m_kept m_notes m_noted m_at m_sort m_start m_value m_steps m_rows m_held) sz)) (wq_Qi r0 wq_tr (va_A [] sz)) 0 0 (va_A [] sz) := by
  refine Met.ofW (cc := cX7_waysFrom) (maxL := 9) (ret := (some .int)) (by decide) rfl ?_
  intro p e s m args below meth c s₁ B hml hv
  obtain ⟨rfl, hsz, hP, hK, hE⟩ := hv
  have hx := B.exec
  have hb := B.bytes
  have hr := B.returns
  have hts := atoms_spec (ws := wsX7_waysFrom) B.pre
  have hown : s.vm.findClass RX7 = some m.cls := findClass_of_methodNamed B.named
  have hlocks := B.notSynchronized
  subst hsz
  generalize hAe : va_A [] s.heap.size = A at hE ⊢
  have hA : ∀ q : Nat, s.heap.size ≤ q → A q := fun q h => by rw [← hAe]; exact Or.inr h
  have hS : va_S A s.heap s.heap [] := va_S.rf
  have hinX7 : ∀ w ∈ u_ws RX7 TX7 19, w ∈ wsX7_waysFrom := by decide +kernel
  have k1 := hts (.fieldLink RX7 13 "DoorMorningsModel" "told" "[I") (by decide +kernel)
  have k2 := hts (.constant RX7 153 (1000003)) (by decide +kernel)
  have k3 := hts (.fieldLink RX7 35 "DoorMorningsModel" "steps" "[I") (by decide +kernel)
  have k4 := hts (.fieldLink RX7 38 "DoorMorningsModel" "rows" "[I") (by decide +kernel)
  have hl := lv_entry ([.ref (qa 0), .int a1, .int a2, .int a3]) (n := 9) (Nat.le_of_ble_eq_true rfl)
  rw [lg_entry_eq]
  generalize (lg_sl ([.ref (qa 0), .int a1, .int a2, .int a3]) ++ List.replicate (9 - (lg_sl ([.ref (qa 0), .int a1, .int a2, .int a3])).length) Slot.unset).toArray = ls at hl ⊢
  have hl : lv_has ls 9 [(0, .ref (qa 0)), (1, .int a1), (2, .int a2), (3, .int a3)] := hl
  have hL6 : ∀  (n : Nat) (x4 : Int32) (x5 : Int32) (H : Heap) (locs : List Loc) (ls : Array Slot), gX7_waysFrom_L6 m_told m_steps m_rows a1 a2 a3 n x4 x5 = some r0 → va_P (dC, dI) vwCl (wcM qa cI cJ cZ m_trace m_text m_typed m_told m_draft m_s m_past m_known m_images m_kept m_notes m_noted m_at m_sort m_start m_value m_steps m_rows m_held) H → va_S A s.heap H locs → lv_has ls 9 [(0, .ref (qa 0)), (1, .int a1), (2, .int a2), (3, .int a3), (4, .int x4), (5, .int x5)] → W p l e (headSpec wsX7_waysFrom ({ frames := 3, cells := 0, slots := 0, locals := 66 } : Room)).room s m ([.ref (qa 0), .int a1, .int a2, .int a3] : List Value).toArray below meth c H locs 0 0 (MQ below (wq_Qi r0 wq_tr A) ([.ref (qa 0), .int a1, .int a2, .int a3] : List Value).toArray s 0 0 A) (F0 m 6 ls []) := by
    intro  n
    induction n with
    | zero =>
      intro x4 x5 H locs ls hG
      exact absurd (show (none : Option (Int32)) = some r0 from hG) (by intro h9; cases h9)
    | succ n ih6 =>
      intro x4 x5 H locs ls hG hP hS hl
      rw [gX7_waysFrom_L6] at hG
      refine lv_iload hx hb dX7_waysFrom_6 (lv_at hl 5 rfl) ?_
      refine lv_aload_n hx hb dX7_waysFrom_8 rfl (lv_at hl 0 rfl) ?_
      refine va_get (D := (dC, dI)) (ci := 7) (v := .ref (qa 2)) (C := RX7) (T := TX7) (N := 19) hx hb hts hinX7 hown hK hP 0 rfl rfl 3 (by decide) k1 (fun _ h9 => h9) rfl dX7_waysFrom_9 ?_
      refine lv_iconst (v := 0) hx hb dX7_waysFrom_12 (by decide) ?_
      refine wq_iald (D := (dC, dI)) hx hb hK hP 2 0 rfl rfl (wq_lit (by decide)) 0 rfl dX7_waysFrom_13 ?_
      refine lv_icmp_ge (tgt := 181) hx hb dX7_waysFrom_14 (by decide) (fun c1 => ?_) (fun c1 => ?_)
      · replace hG := wq_t c1 hG
        refine lv_iload hx hb dX7_waysFrom_181 (lv_at hl 4 rfl) ?_
        refine lv_ldc (v := 1000003) hx hb hown k2 dX7_waysFrom_183 ?_
        refine lv_irem hx hb dX7_waysFrom_185 (by decide) ?_
        exact W.iret (v := (x4 - x4 / 1000003 * 1000003)) hx hb hr (fun t ht hW => ⟨⟨(x4 - x4 / 1000003 * 1000003), (), rfl, ⟨Option.some.inj hG, trivial⟩, trivial⟩, hS.F ht⟩) hS.2.2 dX7_waysFrom_186
      · replace hG := wq_f c1 hG
        refine lv_aload_n hx hb dX7_waysFrom_17 rfl (lv_at hl 0 rfl) ?_
        refine lv_iload hx hb dX7_waysFrom_18 (lv_at hl 5 rfl) ?_
        refine lv_iload_n hx hb dX7_waysFrom_20 rfl (lv_at hl 1 rfl) ?_
        refine lv_iload_n hx hb dX7_waysFrom_21 rfl (lv_at hl 2 rfl) ?_
        obtain ⟨v3, g2, hG⟩ := wq_b1_s hG
        refine wq_ci (v := v3) (B := wq_tr) (va_runV (As := [.int x5, .int a1, .int a2]) (rest := []) ⟨hx, hb, hml, hown, hts⟩ (C_X7_calmTo l dC dI cI cJ cZ qa H.size m_trace m_text m_typed m_told m_draft m_s m_past m_known m_images m_kept m_notes m_noted m_at m_sort m_start m_value m_steps m_rows m_held x5 a1 a2 v3 g2) (cwV 3 hts gX7_waysFrom_X7_calmTo rfl rfl rfl hdV_X7_calmTo ⟨Nat.le_of_ble_eq_true rfl, Nat.le_of_ble_eq_true rfl⟩) (wq_ppV hK hP hE hS hA (ci := 7) (q0 := 0) rfl rfl) rfl rfl hl.1 rfl (lv_room (Nat.le_of_ble_eq_true rfl)) dX7_waysFrom_22 ⟨Nat.zero_le _, Nat.zero_le _⟩) hS hA (fun H locs b4 hk hS => ?_)
        replace hP := wq_kp hP hk
        clear hk
        refine lv_istore (lv' := [(6, .int v3), (0, .ref (qa 0)), (1, .int a1), (2, .int a2), (3, .int a3), (4, .int x4), (5, .int x5)]) hx hb dX7_waysFrom_25 hl (by decide) rfl (fun ls hl => ?_)
        refine lv_aload_n hx hb dX7_waysFrom_27 rfl (lv_at hl 1 rfl) ?_
        refine lv_iload hx hb dX7_waysFrom_28 (lv_at hl 6 rfl) ?_
        refine lv_iload_n hx hb dX7_waysFrom_30 rfl (lv_at hl 2 rfl) ?_
        refine lv_iload_n hx hb dX7_waysFrom_31 rfl (lv_at hl 3 rfl) ?_
        obtain ⟨v6, g5, hG⟩ := wq_b1_s hG
        refine wq_ci (v := v6) (B := wq_tr) (va_runV (As := [.int x5, .int a1, .int a2]) (rest := []) ⟨hx, hb, hml, hown, hts⟩ (C_X7_wildFrom l dC dI cI cJ cZ qa H.size m_trace m_text m_typed m_told m_draft m_s m_past m_known m_images m_kept m_notes m_noted m_at m_sort m_start m_value m_steps m_rows m_held x5 a1 a2 v6 g5) (cwV 3 hts gX7_waysFrom_X7_wildFrom rfl rfl rfl hdV_X7_wildFrom ⟨Nat.le_of_ble_eq_true rfl, Nat.le_of_ble_eq_true rfl⟩) (wq_ppV hK hP hE hS hA (ci := 7) (q0 := 0) rfl rfl) rfl rfl hl.1 rfl (lv_room (Nat.le_of_ble_eq_true rfl)) dX7_waysFrom_32 ⟨Nat.zero_le _, Nat.zero_le _⟩) hS hA (fun H locs b7 hk hS => ?_)
        replace hP := wq_kp hP hk
        clear hk
        refine lv_istore (lv' := [(7, .int v6), (6, .int v3), (0, .ref (qa 0)), (1, .int a1), (2, .int a2), (3, .int a3), (4, .int x4), (5, .int x5)]) hx hb dX7_waysFrom_35 hl (by decide) rfl (fun ls hl => ?_)
        refine lv_aload_n hx hb dX7_waysFrom_37 rfl (lv_at hl 2 rfl) ?_
        refine lv_iload hx hb dX7_waysFrom_38 (lv_at hl 7 rfl) ?_
        refine lv_iload_n hx hb dX7_waysFrom_40 rfl (lv_at hl 3 rfl) ?_
        refine lv_iload_n hx hb dX7_waysFrom_41 rfl (lv_at hl 4 rfl) ?_
        obtain ⟨v9, g8, hG⟩ := wq_b1_s hG
        refine wq_ci (v := v9) (B := wq_tr) (va_runV (As := [.int x5, .int a1, .int a2]) (rest := []) ⟨hx, hb, hml, hown, hts⟩ (C_X7_calmly l dC dI cI cJ cZ qa H.size m_trace m_text m_typed m_told m_draft m_s m_past m_known m_images m_kept m_notes m_noted m_at m_sort m_start m_value m_steps m_rows m_held x5 a1 a2 v9 g8) (cwV 3 hts gX7_waysFrom_X7_calmly rfl rfl rfl hdV_X7_calmly ⟨Nat.le_of_ble_eq_true rfl, Nat.le_of_ble_eq_true rfl⟩) (wq_ppV hK hP hE hS hA (ci := 7) (q0 := 0) rfl rfl) rfl rfl hl.1 rfl (lv_room (Nat.le_of_ble_eq_true rfl)) dX7_waysFrom_42 ⟨Nat.zero_le _, Nat.zero_le _⟩) hS hA (fun H locs b10 hk hS => ?_)
        replace hP := wq_kp hP hk
        clear hk
        refine lv_istore (lv' := [(8, .int v9), (7, .int v6), (6, .int v3), (0, .ref (qa 0)), (1, .int a1), (2, .int a2), (3, .int a3), (4, .int x4), (5, .int x5)]) hx hb dX7_waysFrom_45 hl (by decide) rfl (fun ls hl => ?_)
        refine lv_iload_n hx hb dX7_waysFrom_47 rfl (lv_at hl 6 rfl) ?_
        refine lv_iconst (v := 1) hx hb dX7_waysFrom_48 (by decide) ?_
        refine lv_icmp_ne (tgt := 86) hx hb dX7_waysFrom_49 (by decide) (fun c11 => ?_) (fun c11 => ?_)
        · replace hG := wq_f c11 hG
          refine lv_iload hx hb dX7_waysFrom_86 (lv_at hl 7 rfl) ?_
          refine lv_aload_n hx hb dX7_waysFrom_88 rfl (lv_at hl 3 rfl) ?_
          refine va_get (D := (dC, dI)) (ci := 7) (v := .ref (qa 9)) (C := RX7) (T := TX7) (N := 19) hx hb hts hinX7 hown hK hP 0 rfl rfl 16 (by decide) k3 (fun _ h9 => h9) rfl dX7_waysFrom_89 ?_
          refine lv_iload hx hb dX7_waysFrom_92 (lv_at hl 0 rfl) ?_
          obtain ⟨h12, hG⟩ := wq_chk_s hG
          refine wq_iald (D := (dC, dI)) hx hb hK hP 9 0 rfl rfl h12 (Int32.toNatClampNeg v9) rfl dX7_waysFrom_94 ?_
          refine lv_iload_n hx hb dX7_waysFrom_95 rfl (lv_at hl 6 rfl) ?_
          refine lv_iconst (v := 1) hx hb dX7_waysFrom_96 (by decide) ?_
          refine lv_isub hx hb dX7_waysFrom_97 ?_
          refine lv_icmp_ne (tgt := 117) hx hb dX7_waysFrom_98 (by decide) (fun c13 => ?_) (fun c13 => ?_)
          · replace hG := wq_f c13 hG
            refine lv_iconst (v := 0) hx hb dX7_waysFrom_117 (by decide) ?_
            refine lv_iadd hx hb dX7_waysFrom_118 ?_
            refine lv_istore (lv' := [(4, .int (x4 + 0)), (8, .int v9), (7, .int v6), (6, .int v3), (0, .ref (qa 0)), (1, .int a1), (2, .int a2), (3, .int a3), (5, .int x5)]) hx hb dX7_waysFrom_119 hl (by decide) rfl (fun ls hl => ?_)
            refine lv_iload_n hx hb dX7_waysFrom_121 rfl (lv_at hl 5 rfl) ?_
            refine lv_iload_n hx hb dX7_waysFrom_122 rfl (lv_at hl 6 rfl) ?_
            obtain ⟨v15, g14, hG⟩ := wq_b1_s hG
            refine wq_ci (v := v15) (B := wq_tr) (va_runS (As := [.int a1, .int a2]) (rest := []) ⟨hx, hb, hml, hown, hts⟩ (C_X7_wildly l dC dI cI cJ cZ qa H.size  a1 a2 v15 g14) (va_cwS 2 hts gX7_waysFrom_X7_wildly rfl rfl rfl hdS_X7_wildly ⟨Nat.le_of_ble_eq_true rfl, Nat.le_of_ble_eq_true rfl⟩) (wq_ppS hK (hP.sub (ws' := []) [] rfl) hE hS hA) rfl rfl hl.1 rfl (lv_room (Nat.le_of_ble_eq_true rfl)) dX7_waysFrom_123 ⟨Nat.zero_le _, Nat.zero_le _⟩) hS hA (fun H locs b16 hk hS => ?_)
            replace hP := wq_kp hP hk
            clear hk
            refine lv_istore (lv' := [(8, .int v15), (4, .int (x4 + 0)), (7, .int v6), (6, .int v3), (0, .ref (qa 0)), (1, .int a1), (2, .int a2), (3, .int a3), (5, .int x5)]) hx hb dX7_waysFrom_126 hl (by decide) rfl (fun ls hl => ?_)
            refine lv_iload hx hb dX7_waysFrom_128 (lv_at hl 1 rfl) ?_
            refine lv_iload hx hb dX7_waysFrom_130 (lv_at hl 2 rfl) ?_
            refine lv_bipush (v := 96) hx hb dX7_waysFrom_132 (by decide) ?_
            refine lv_icmp_gt (tgt := 171) hx hb dX7_waysFrom_134 (by decide) (fun c17 => ?_) (fun c17 => ?_)
            · replace hG := wq_t c17 hG
              refine lv_iconst (v := 0) hx hb dX7_waysFrom_171 (by decide) ?_
              refine lv_iadd hx hb dX7_waysFrom_172 ?_
              refine lv_istore (lv' := [(4, .int ((x4 + 0) + 0)), (8, .int v15), (7, .int v6), (6, .int v3), (0, .ref (qa 0)), (1, .int a1), (2, .int a2), (3, .int a3), (5, .int x5)]) hx hb dX7_waysFrom_173 hl (by decide) rfl (fun ls hl => ?_)
              refine lv_iinc (v := (x5 + 1)) (lv' := [(5, .int (x5 + 1)), (4, .int ((x4 + 0) + 0)), (8, .int v15), (7, .int v6), (6, .int v3), (0, .ref (qa 0)), (1, .int a1), (2, .int a2), (3, .int a3)]) hx hb dX7_waysFrom_175 hl (k := 8) rfl rfl (by decide) rfl (fun ls hl => ?_)
              refine lv_goto (tgt := 6) hx hb dX7_waysFrom_178 (by decide) ?_
              exact ih6 ((x4 + 0) + 0) (x5 + 1) _ _ _ hG hP hS (lv_sub hl [5, 6, 7, 8, 1, 0] rfl)
            · replace hG := wq_f c17 hG
              refine lv_aload_n hx hb dX7_waysFrom_137 rfl (lv_at hl 4 rfl) ?_
              refine va_get (D := (dC, dI)) (ci := 7) (v := .ref (qa 9)) (C := RX7) (T := TX7) (N := 19) hx hb hts hinX7 hown hK hP 0 rfl rfl 16 (by decide) k3 (fun _ h9 => h9) rfl dX7_waysFrom_138 ?_
              refine lv_iload hx hb dX7_waysFrom_141 (lv_at hl 0 rfl) ?_
              obtain ⟨h18, hG⟩ := wq_chk_s hG
              refine wq_iald (D := (dC, dI)) hx hb hK hP 9 0 rfl rfl h18 (Int32.toNatClampNeg v15) rfl dX7_waysFrom_143 ?_
              refine lv_iload_n hx hb dX7_waysFrom_144 rfl (lv_at hl 7 rfl) ?_
              refine lv_iconst (v := 1) hx hb dX7_waysFrom_145 (by decide) ?_
              refine lv_isub hx hb dX7_waysFrom_146 ?_
              refine lv_icmp_ne (tgt := 171) hx hb dX7_waysFrom_147 (by decide) (fun c19 => ?_) (fun c19 => ?_)
              · replace hG := wq_f c19 hG
                refine lv_iconst (v := 0) hx hb dX7_waysFrom_171 (by decide) ?_
                refine lv_iadd hx hb dX7_waysFrom_172 ?_
                refine lv_istore (lv' := [(4, .int ((x4 + 0) + 0)), (8, .int v15), (7, .int v6), (6, .int v3), (0, .ref (qa 0)), (1, .int a1), (2, .int a2), (3, .int a3), (5, .int x5)]) hx hb dX7_waysFrom_173 hl (by decide) rfl (fun ls hl => ?_)
                refine lv_iinc (v := (x5 + 1)) (lv' := [(5, .int (x5 + 1)), (4, .int ((x4 + 0) + 0)), (8, .int v15), (7, .int v6), (6, .int v3), (0, .ref (qa 0)), (1, .int a1), (2, .int a2), (3, .int a3)]) hx hb dX7_waysFrom_175 hl (k := 8) rfl rfl (by decide) rfl (fun ls hl => ?_)
                refine lv_goto (tgt := 6) hx hb dX7_waysFrom_178 (by decide) ?_
                exact ih6 ((x4 + 0) + 0) (x5 + 1) _ _ _ hG hP hS (lv_sub hl [5, 6, 7, 8, 1, 0] rfl)
              · replace hG := wq_t c19 hG
                refine lv_bipush (v := 96) hx hb dX7_waysFrom_150 (by decide) ?_
                refine lv_iload hx hb dX7_waysFrom_152 (lv_at hl 2 rfl) ?_
                refine lv_isub hx hb dX7_waysFrom_154 ?_
                refine lv_iconst (v := 1) hx hb dX7_waysFrom_155 (by decide) ?_
                refine lv_iadd hx hb dX7_waysFrom_156 ?_
                refine lv_aload_n hx hb dX7_waysFrom_157 rfl (lv_at hl 4 rfl) ?_
                refine va_get (D := (dC, dI)) (ci := 7) (v := .ref (qa 10)) (C := RX7) (T := TX7) (N := 19) hx hb hts hinX7 hown hK hP 0 rfl rfl 17 (by decide) k4 (fun _ h9 => h9) rfl dX7_waysFrom_158 ?_
                refine lv_iload hx hb dX7_waysFrom_161 (lv_at hl 0 rfl) ?_
                refine wq_iald (D := (dC, dI)) hx hb hK hP 10 0 rfl rfl h18 (Int32.toNatClampNeg v15) rfl dX7_waysFrom_163 ?_
                refine lv_imul hx hb dX7_waysFrom_164 ?_
                refine lv_ldc (v := 1000003) hx hb hown k2 dX7_waysFrom_165 ?_
                refine lv_irem hx hb dX7_waysFrom_167 (by decide) ?_
                refine lv_goto (tgt := 172) hx hb dX7_waysFrom_168 (by decide) ?_
                refine lv_iadd hx hb dX7_waysFrom_172 ?_
                refine lv_istore (lv' := [(4, .int ((x4 + 0) + ((((96 - v6) + 1) * (m_rows (Int32.toNatClampNeg v15))) - (((96 - v6) + 1) * (m_rows (Int32.toNatClampNeg v15))) / 1000003 * 1000003))), (8, .int v15), (7, .int v6), (6, .int v3), (0, .ref (qa 0)), (1, .int a1), (2, .int a2), (3, .int a3), (5, .int x5)]) hx hb dX7_waysFrom_173 hl (by decide) rfl (fun ls hl => ?_)
                refine lv_iinc (v := (x5 + 1)) (lv' := [(5, .int (x5 + 1)), (4, .int ((x4 + 0) + ((((96 - v6) + 1) * (m_rows (Int32.toNatClampNeg v15))) - (((96 - v6) + 1) * (m_rows (Int32.toNatClampNeg v15))) / 1000003 * 1000003))), (8, .int v15), (7, .int v6), (6, .int v3), (0, .ref (qa 0)), (1, .int a1), (2, .int a2), (3, .int a3)]) hx hb dX7_waysFrom_175 hl (k := 8) rfl rfl (by decide) rfl (fun ls hl => ?_)
                refine lv_goto (tgt := 6) hx hb dX7_waysFrom_178 (by decide) ?_
                exact ih6 ((x4 + 0) + ((((96 - v6) + 1) * (m_rows (Int32.toNatClampNeg v15))) - (((96 - v6) + 1) * (m_rows (Int32.toNatClampNeg v15))) / 1000003 * 1000003)) (x5 + 1) _ _ _ hG hP hS (lv_sub hl [5, 6, 7, 8, 1, 0] rfl)
          · replace hG := wq_t c13 hG
            refine lv_iload hx hb dX7_waysFrom_101 (lv_at hl 2 rfl) ?_
            refine lv_aload_n hx hb dX7_waysFrom_103 rfl (lv_at hl 3 rfl) ?_
            refine va_get (D := (dC, dI)) (ci := 7) (v := .ref (qa 10)) (C := RX7) (T := TX7) (N := 19) hx hb hts hinX7 hown hK hP 0 rfl rfl 17 (by decide) k4 (fun _ h9 => h9) rfl dX7_waysFrom_104 ?_
            refine lv_iload hx hb dX7_waysFrom_107 (lv_at hl 0 rfl) ?_
            refine wq_iald (D := (dC, dI)) hx hb hK hP 10 0 rfl rfl h12 (Int32.toNatClampNeg v9) rfl dX7_waysFrom_109 ?_
            refine lv_imul hx hb dX7_waysFrom_110 ?_
            refine lv_ldc (v := 1000003) hx hb hown k2 dX7_waysFrom_111 ?_
            refine lv_irem hx hb dX7_waysFrom_113 (by decide) ?_
            refine lv_goto (tgt := 118) hx hb dX7_waysFrom_114 (by decide) ?_
            refine lv_iadd hx hb dX7_waysFrom_118 ?_
            refine lv_istore (lv' := [(4, .int (x4 + ((v3 * (m_rows (Int32.toNatClampNeg v9))) - (v3 * (m_rows (Int32.toNatClampNeg v9))) / 1000003 * 1000003))), (8, .int v9), (7, .int v6), (6, .int v3), (0, .ref (qa 0)), (1, .int a1), (2, .int a2), (3, .int a3), (5, .int x5)]) hx hb dX7_waysFrom_119 hl (by decide) rfl (fun ls hl => ?_)
            refine lv_iload_n hx hb dX7_waysFrom_121 rfl (lv_at hl 5 rfl) ?_
            refine lv_iload_n hx hb dX7_waysFrom_122 rfl (lv_at hl 6 rfl) ?_
            obtain ⟨v21, g20, hG⟩ := wq_b1_s hG
            refine wq_ci (v := v21) (B := wq_tr) (va_runS (As := [.int a1, .int a2]) (rest := []) ⟨hx, hb, hml, hown, hts⟩ (C_X7_wildly l dC dI cI cJ cZ qa H.size  a1 a2 v21 g20) (va_cwS 2 hts gX7_waysFrom_X7_wildly rfl rfl rfl hdS_X7_wildly ⟨Nat.le_of_ble_eq_true rfl, Nat.le_of_ble_eq_true rfl⟩) (wq_ppS hK (hP.sub (ws' := []) [] rfl) hE hS hA) rfl rfl hl.1 rfl (lv_room (Nat.le_of_ble_eq_true rfl)) dX7_waysFrom_123 ⟨Nat.zero_le _, Nat.zero_le _⟩) hS hA (fun H locs b22 hk hS => ?_)
            replace hP := wq_kp hP hk
            clear hk
            refine lv_istore (lv' := [(8, .int v21), (4, .int (x4 + ((v3 * (m_rows (Int32.toNatClampNeg v9))) - (v3 * (m_rows (Int32.toNatClampNeg v9))) / 1000003 * 1000003))), (7, .int v6), (6, .int v3), (0, .ref (qa 0)), (1, .int a1), (2, .int a2), (3, .int a3), (5, .int x5)]) hx hb dX7_waysFrom_126 hl (by decide) rfl (fun ls hl => ?_)
            refine lv_iload hx hb dX7_waysFrom_128 (lv_at hl 1 rfl) ?_
            refine lv_iload hx hb dX7_waysFrom_130 (lv_at hl 2 rfl) ?_
            refine lv_bipush (v := 96) hx hb dX7_waysFrom_132 (by decide) ?_
            refine lv_icmp_gt (tgt := 171) hx hb dX7_waysFrom_134 (by decide) (fun c23 => ?_) (fun c23 => ?_)
            · replace hG := wq_t c23 hG
              refine lv_iconst (v := 0) hx hb dX7_waysFrom_171 (by decide) ?_
              refine lv_iadd hx hb dX7_waysFrom_172 ?_
              refine lv_istore (lv' := [(4, .int ((x4 + ((v3 * (m_rows (Int32.toNatClampNeg v9))) - (v3 * (m_rows (Int32.toNatClampNeg v9))) / 1000003 * 1000003)) + 0)), (8, .int v21), (7, .int v6), (6, .int v3), (0, .ref (qa 0)), (1, .int a1), (2, .int a2), (3, .int a3), (5, .int x5)]) hx hb dX7_waysFrom_173 hl (by decide) rfl (fun ls hl => ?_)
              refine lv_iinc (v := (x5 + 1)) (lv' := [(5, .int (x5 + 1)), (4, .int ((x4 + ((v3 * (m_rows (Int32.toNatClampNeg v9))) - (v3 * (m_rows (Int32.toNatClampNeg v9))) / 1000003 * 1000003)) + 0)), (8, .int v21), (7, .int v6), (6, .int v3), (0, .ref (qa 0)), (1, .int a1), (2, .int a2), (3, .int a3)]) hx hb dX7_waysFrom_175 hl (k := 8) rfl rfl (by decide) rfl (fun ls hl => ?_)
              refine lv_goto (tgt := 6) hx hb dX7_waysFrom_178 (by decide) ?_
              exact ih6 ((x4 + ((v3 * (m_rows (Int32.toNatClampNeg v9))) - (v3 * (m_rows (Int32.toNatClampNeg v9))) / 1000003 * 1000003)) + 0) (x5 + 1) _ _ _ hG hP hS (lv_sub hl [5, 6, 7, 8, 1, 0] rfl)
            · replace hG := wq_f c23 hG
              refine lv_aload_n hx hb dX7_waysFrom_137 rfl (lv_at hl 4 rfl) ?_
              refine va_get (D := (dC, dI)) (ci := 7) (v := .ref (qa 9)) (C := RX7) (T := TX7) (N := 19) hx hb hts hinX7 hown hK hP 0 rfl rfl 16 (by decide) k3 (fun _ h9 => h9) rfl dX7_waysFrom_138 ?_
              refine lv_iload hx hb dX7_waysFrom_141 (lv_at hl 0 rfl) ?_
              obtain ⟨h24, hG⟩ := wq_chk_s hG
              refine wq_iald (D := (dC, dI)) hx hb hK hP 9 0 rfl rfl h24 (Int32.toNatClampNeg v21) rfl dX7_waysFrom_143 ?_
              refine lv_iload_n hx hb dX7_waysFrom_144 rfl (lv_at hl 7 rfl) ?_
              refine lv_iconst (v := 1) hx hb dX7_waysFrom_145 (by decide) ?_
              refine lv_isub hx hb dX7_waysFrom_146 ?_
              refine lv_icmp_ne (tgt := 171) hx hb dX7_waysFrom_147 (by decide) (fun c25 => ?_) (fun c25 => ?_)
              · replace hG := wq_f c25 hG
                refine lv_iconst (v := 0) hx hb dX7_waysFrom_171 (by decide) ?_
                refine lv_iadd hx hb dX7_waysFrom_172 ?_
                refine lv_istore (lv' := [(4, .int ((x4 + ((v3 * (m_rows (Int32.toNatClampNeg v9))) - (v3 * (m_rows (Int32.toNatClampNeg v9))) / 1000003 * 1000003)) + 0)), (8, .int v21), (7, .int v6), (6, .int v3), (0, .ref (qa 0)), (1, .int a1), (2, .int a2), (3, .int a3), (5, .int x5)]) hx hb dX7_waysFrom_173 hl (by decide) rfl (fun ls hl => ?_)
                refine lv_iinc (v := (x5 + 1)) (lv' := [(5, .int (x5 + 1)), (4, .int ((x4 + ((v3 * (m_rows (Int32.toNatClampNeg v9))) - (v3 * (m_rows (Int32.toNatClampNeg v9))) / 1000003 * 1000003)) + 0)), (8, .int v21), (7, .int v6), (6, .int v3), (0, .ref (qa 0)), (1, .int a1), (2, .int a2), (3, .int a3)]) hx hb dX7_waysFrom_175 hl (k := 8) rfl rfl (by decide) rfl (fun ls hl => ?_)
                refine lv_goto (tgt := 6) hx hb dX7_waysFrom_178 (by decide) ?_
                exact ih6 ((x4 + ((v3 * (m_rows (Int32.toNatClampNeg v9))) - (v3 * (m_rows (Int32.toNatClampNeg v9))) / 1000003 * 1000003)) + 0) (x5 + 1) _ _ _ hG hP hS (lv_sub hl [5, 6, 7, 8, 1, 0] rfl)
              · replace hG := wq_t c25 hG
                refine lv_bipush (v := 96) hx hb dX7_waysFrom_150 (by decide) ?_
                refine lv_iload hx hb dX7_waysFrom_152 (lv_at hl 2 rfl) ?_
                refine lv_isub hx hb dX7_waysFrom_154 ?_
                refine lv_iconst (v := 1) hx hb dX7_waysFrom_155 (by decide) ?_
                refine lv_iadd hx hb dX7_waysFrom_156 ?_
                refine lv_aload_n hx hb dX7_waysFrom_157 rfl (lv_at hl 4 rfl) ?_
                refine va_get (D := (dC, dI)) (ci := 7) (v := .ref (qa 10)) (C := RX7) (T := TX7) (N := 19) hx hb hts hinX7 hown hK hP 0 rfl rfl 17 (by decide) k4 (fun _ h9 => h9) rfl dX7_waysFrom_158 ?_
                refine lv_iload hx hb dX7_waysFrom_161 (lv_at hl 0 rfl) ?_
                refine wq_iald (D := (dC, dI)) hx hb hK hP 10 0 rfl rfl h24 (Int32.toNatClampNeg v21) rfl dX7_waysFrom_163 ?_
                refine lv_imul hx hb dX7_waysFrom_164 ?_
                refine lv_ldc (v := 1000003) hx hb hown k2 dX7_waysFrom_165 ?_
                refine lv_irem hx hb dX7_waysFrom_167 (by decide) ?_
                refine lv_goto (tgt := 172) hx hb dX7_waysFrom_168 (by decide) ?_
                refine lv_iadd hx hb dX7_waysFrom_172 ?_
                refine lv_istore (lv' := [(4, .int ((x4 + ((v3 * (m_rows (Int32.toNatClampNeg v9))) - (v3 * (m_rows (Int32.toNatClampNeg v9))) / 1000003 * 1000003)) + ((((96 - v6) + 1) * (m_rows (Int32.toNatClampNeg v21))) - (((96 - v6) + 1) * (m_rows (Int32.toNatClampNeg v21))) / 1000003 * 1000003))), (8, .int v21), (7, .int v6), (6, .int v3), (0, .ref (qa 0)), (1, .int a1), (2, .int a2), (3, .int a3), (5, .int x5)]) hx hb dX7_waysFrom_173 hl (by decide) rfl (fun ls hl => ?_)
                refine lv_iinc (v := (x5 + 1)) (lv' := [(5, .int (x5 + 1)), (4, .int ((x4 + ((v3 * (m_rows (Int32.toNatClampNeg v9))) - (v3 * (m_rows (Int32.toNatClampNeg v9))) / 1000003 * 1000003)) + ((((96 - v6) + 1) * (m_rows (Int32.toNatClampNeg v21))) - (((96 - v6) + 1) * (m_rows (Int32.toNatClampNeg v21))) / 1000003 * 1000003))), (8, .int v21), (7, .int v6), (6, .int v3), (0, .ref (qa 0)), (1, .int a1), (2, .int a2), (3, .int a3)]) hx hb dX7_waysFrom_175 hl (k := 8) rfl rfl (by decide) rfl (fun ls hl => ?_)
                refine lv_goto (tgt := 6) hx hb dX7_waysFrom_178 (by decide) ?_
                exact ih6 ((x4 + ((v3 * (m_rows (Int32.toNatClampNeg v9))) - (v3 * (m_rows (Int32.toNatClampNeg v9))) / 1000003 * 1000003)) + ((((96 - v6) + 1) * (m_rows (Int32.toNatClampNeg v21))) - (((96 - v6) + 1) * (m_rows (Int32.toNatClampNeg v21))) / 1000003 * 1000003)) (x5 + 1) _ _ _ hG hP hS (lv_sub hl [5, 6, 7, 8, 1, 0] rfl)
        · replace hG := wq_t c11 hG
          refine lv_iload hx hb dX7_waysFrom_52 (lv_at hl 7 rfl) ?_
          refine lv_iload hx hb dX7_waysFrom_54 (lv_at hl 2 rfl) ?_
          refine lv_aload_n hx hb dX7_waysFrom_56 rfl (lv_at hl 3 rfl) ?_
          refine va_get (D := (dC, dI)) (ci := 7) (v := .ref (qa 2)) (C := RX7) (T := TX7) (N := 19) hx hb hts hinX7 hown hK hP 0 rfl rfl 3 (by decide) k1 (fun _ h9 => h9) rfl dX7_waysFrom_57 ?_
          refine lv_iconst (v := 5) hx hb dX7_waysFrom_60 (by decide) ?_
          refine wq_iald (D := (dC, dI)) hx hb hK hP 2 0 rfl rfl (wq_lit (by decide)) 5 rfl dX7_waysFrom_61 ?_
          refine lv_icmp_lt (tgt := 79) hx hb dX7_waysFrom_62 (by decide) (fun c26 => ?_) (fun c26 => ?_)
          · replace hG := wq_t c26 hG
            refine lv_iconst (v := 0) hx hb dX7_waysFrom_79 (by decide) ?_
            refine lv_iadd hx hb dX7_waysFrom_80 ?_
            refine lv_istore (lv' := [(4, .int (x4 + 0)), (8, .int v9), (7, .int v6), (6, .int v3), (0, .ref (qa 0)), (1, .int a1), (2, .int a2), (3, .int a3), (5, .int x5)]) hx hb dX7_waysFrom_81 hl (by decide) rfl (fun ls hl => ?_)
            refine lv_goto (tgt := 175) hx hb dX7_waysFrom_83 (by decide) ?_
            refine lv_iinc (v := (x5 + 1)) (lv' := [(5, .int (x5 + 1)), (4, .int (x4 + 0)), (8, .int v9), (7, .int v6), (6, .int v3), (0, .ref (qa 0)), (1, .int a1), (2, .int a2), (3, .int a3)]) hx hb dX7_waysFrom_175 hl (k := 8) rfl rfl (by decide) rfl (fun ls hl => ?_)
            refine lv_goto (tgt := 6) hx hb dX7_waysFrom_178 (by decide) ?_
            exact ih6 (x4 + 0) (x5 + 1) _ _ _ hG hP hS (lv_sub hl [5, 6, 7, 8, 1, 0] rfl)
          · replace hG := wq_f c26 hG
            refine lv_iload hx hb dX7_waysFrom_65 (lv_at hl 2 rfl) ?_
            refine lv_aload_n hx hb dX7_waysFrom_67 rfl (lv_at hl 3 rfl) ?_
            refine va_get (D := (dC, dI)) (ci := 7) (v := .ref (qa 2)) (C := RX7) (T := TX7) (N := 19) hx hb hts hinX7 hown hK hP 0 rfl rfl 3 (by decide) k1 (fun _ h9 => h9) rfl dX7_waysFrom_68 ?_
            refine lv_iconst (v := 5) hx hb dX7_waysFrom_71 (by decide) ?_
            refine wq_iald (D := (dC, dI)) hx hb hK hP 2 0 rfl rfl (wq_lit (by decide)) 5 rfl dX7_waysFrom_72 ?_
            refine lv_isub hx hb dX7_waysFrom_73 ?_
            refine lv_iconst (v := 1) hx hb dX7_waysFrom_74 (by decide) ?_
            refine lv_iadd hx hb dX7_waysFrom_75 ?_
            refine lv_goto (tgt := 80) hx hb dX7_waysFrom_76 (by decide) ?_
            refine lv_iadd hx hb dX7_waysFrom_80 ?_
            refine lv_istore (lv' := [(4, .int (x4 + ((v3 - (m_told 5)) + 1))), (8, .int v9), (7, .int v6), (6, .int v3), (0, .ref (qa 0)), (1, .int a1), (2, .int a2), (3, .int a3), (5, .int x5)]) hx hb dX7_waysFrom_81 hl (by decide) rfl (fun ls hl => ?_)
            refine lv_goto (tgt := 175) hx hb dX7_waysFrom_83 (by decide) ?_
            refine lv_iinc (v := (x5 + 1)) (lv' := [(5, .int (x5 + 1)), (4, .int (x4 + ((v3 - (m_told 5)) + 1))), (8, .int v9), (7, .int v6), (6, .int v3), (0, .ref (qa 0)), (1, .int a1), (2, .int a2), (3, .int a3)]) hx hb dX7_waysFrom_175 hl (k := 8) rfl rfl (by decide) rfl (fun ls hl => ?_)
            refine lv_goto (tgt := 6) hx hb dX7_waysFrom_178 (by decide) ?_
            exact ih6 (x4 + ((v3 - (m_told 5)) + 1)) (x5 + 1) _ _ _ hG hP hS (lv_sub hl [5, 6, 7, 8, 1, 0] rfl)
  unfold gX7_waysFrom at hG
  refine lv_iconst (v := 0) hx hb dX7_waysFrom_0 (by decide) ?_
  refine lv_istore (lv' := [(4, .int 0), (0, .ref (qa 0)), (1, .int a1), (2, .int a2), (3, .int a3)]) hx hb dX7_waysFrom_1 hl (by decide) rfl (fun ls hl => ?_)
  refine lv_iconst (v := 0) hx hb dX7_waysFrom_3 (by decide) ?_
  refine lv_istore (lv' := [(5, .int 0), (4, .int 0), (0, .ref (qa 0)), (1, .int a1), (2, .int a2), (3, .int a3)]) hx hb dX7_waysFrom_4 hl (by decide) rfl (fun ls hl => ?_)
  exact hL6  1000 0 0 _ _ _ hG hP hS (lv_sub hl [2, 3, 4, 5, 1, 0] rfl)

