theorem hdS_X7_in : yX7_in.cls ≠ "java/lang/invoke/MethodHandle" ∧ yX7_in.cls ≠ "java/lang/invoke/VarHandle" ∧ (parseMethodDescriptor yX7_in.desc).map (fun d => d.parameters.length) = some 3 := by decide +kernel
set_option maxHeartbeats 4000000 in
set_option maxRecDepth 100000 in
theorem C_X7_in (l : Launch) (dC : Nat → ClassId) (dI : Nat → Nat → Nat) (cI cJ cZ : ClassId) (qa : Nat → Nat) (sz : Nat) (a0 : Int32) (a1 : Int32) (a2 : Int32) (r0 : Int32) (hG : gX7_in a0 a1 a2 = some r0) : Met l yX7_in wsX7_in ({ frames := 0, cells := 0, slots := 0, locals := 0 } : Room) (va_Pc [.int a0, .int a1, .int a2] (wq_pp (dC, dI) [(cI, .int), (cJ, .long), (cZ, .boolean)] ([]) sz)) (wq_Qi r0 wq_Z1 (va_A [] sz)) 0 0 (va_A [] sz) := by
  refine Met.ofW (cc := cX7_in) (maxL := 3) (ret := (some .boolean)) (by decide) rfl ?_
  intro p e s m args below meth c s₁ B hml hv
  obtain ⟨rfl, hsz, hP, hK, hE⟩ := hv
  have hx := B.exec
  have hb := B.bytes
  have hr := B.returns
  have hts := atoms_spec (ws := wsX7_in) B.pre
  have hown : s.vm.findClass RX7 = some m.cls := findClass_of_methodNamed B.named
  have hlocks := B.notSynchronized
  subst hsz
  generalize hAe : va_A [] s.heap.size = A at hE ⊢
  have hA : ∀ q : Nat, s.heap.size ≤ q → A q := fun q h => by rw [← hAe]; exact Or.inr h
  have hS : va_S A s.heap s.heap [] := va_S.rf
  have hl := lv_entry ([.int a0, .int a1, .int a2]) (n := 3) (Nat.le_of_ble_eq_true rfl)
  rw [lg_entry_eq]
  generalize (lg_sl ([.int a0, .int a1, .int a2]) ++ List.replicate (3 - (lg_sl ([.int a0, .int a1, .int a2])).length) Slot.unset).toArray = ls at hl ⊢
  have hl : lv_has ls 3 [(0, .int a0), (1, .int a1), (2, .int a2)] := hl
  unfold gX7_in at hG
  refine lv_iload_n hx hb dX7_in_0 rfl (lv_at hl 0 rfl) ?_
  refine lv_iload_n hx hb dX7_in_1 rfl (lv_at hl 1 rfl) ?_
  refine lv_icmp_lt (tgt := 14) hx hb dX7_in_2 (by decide) (fun c1 => ?_) (fun c1 => ?_)
  · replace hG := wq_t c1 hG
    refine lv_iconst (v := 0) hx hb dX7_in_14 (by decide) ?_
    exact W.zret (v := 0) hx hb hr (wq_Z1_n (Or.inl rfl)) (fun t ht hW => ⟨⟨0, (), rfl, ⟨Option.some.inj hG, (Or.inl rfl)⟩, trivial⟩, hS.F ht⟩) hS.2.2 dX7_in_15
  · replace hG := wq_f c1 hG
    refine lv_iload_n hx hb dX7_in_5 rfl (lv_at hl 0 rfl) ?_
    refine lv_iload_n hx hb dX7_in_6 rfl (lv_at hl 2 rfl) ?_
    refine lv_icmp_gt (tgt := 14) hx hb dX7_in_7 (by decide) (fun c2 => ?_) (fun c2 => ?_)
    · replace hG := wq_t c2 hG
      refine lv_iconst (v := 0) hx hb dX7_in_14 (by decide) ?_
      exact W.zret (v := 0) hx hb hr (wq_Z1_n (Or.inl rfl)) (fun t ht hW => ⟨⟨0, (), rfl, ⟨Option.some.inj hG, (Or.inl rfl)⟩, trivial⟩, hS.F ht⟩) hS.2.2 dX7_in_15
    · replace hG := wq_f c2 hG
      refine lv_iconst (v := 1) hx hb dX7_in_10 (by decide) ?_
      refine lv_goto (tgt := 15) hx hb dX7_in_11 (by decide) ?_
      exact W.zret (v := 1) hx hb hr (wq_Z1_n (Or.inr rfl)) (fun t ht hW => ⟨⟨1, (), rfl, ⟨Option.some.inj hG, (Or.inr rfl)⟩, trivial⟩, hS.F ht⟩) hS.2.2 dX7_in_15

theorem hdS_X7_bound : yX7_bound.cls ≠ "java/lang/invoke/MethodHandle" ∧ yX7_bound.cls ≠ "java/lang/invoke/VarHandle" ∧ (parseMethodDescriptor yX7_bound.desc).map (fun d => d.parameters.length) = some 3 := by decide +kernel
set_option maxHeartbeats 4000000 in
set_option maxRecDepth 100000 in
theorem C_X7_bound (l : Launch) (dC : Nat → ClassId) (dI : Nat → Nat → Nat) (cI cJ cZ : ClassId) (qa : Nat → Nat) (sz : Nat) (a0 : Int32) (a1 : Int32) (a2 : Int32) (r0 : Int32) (hG : gX7_bound a0 a1 a2 = some r0) : Met l yX7_bound wsX7_bound ({ frames := 0, cells := 0, slots := 0, locals := 0 } : Room) (va_Pc [.int a0, .int a1, .int a2] (wq_pp (dC, dI) [(cI, .int), (cJ, .long), (cZ, .boolean)] ([]) sz)) (wq_Qi r0 wq_tr (va_A [] sz)) 0 0 (va_A [] sz) := by
  refine Met.ofW (cc := cX7_bound) (maxL := 3) (ret := (some .int)) (by decide) rfl ?_
  intro p e s m args below meth c s₁ B hml hv
  obtain ⟨rfl, hsz, hP, hK, hE⟩ := hv
  have hx := B.exec
  have hb := B.bytes
  have hr := B.returns
  have hts := atoms_spec (ws := wsX7_bound) B.pre
  have hown : s.vm.findClass RX7 = some m.cls := findClass_of_methodNamed B.named
  have hlocks := B.notSynchronized
  subst hsz
  generalize hAe : va_A [] s.heap.size = A at hE ⊢
  have hA : ∀ q : Nat, s.heap.size ≤ q → A q := fun q h => by rw [← hAe]; exact Or.inr h
  have hS : va_S A s.heap s.heap [] := va_S.rf
  have hl := lv_entry ([.int a0, .int a1, .int a2]) (n := 3) (Nat.le_of_ble_eq_true rfl)
  rw [lg_entry_eq]
  generalize (lg_sl ([.int a0, .int a1, .int a2]) ++ List.replicate (3 - (lg_sl ([.int a0, .int a1, .int a2])).length) Slot.unset).toArray = ls at hl ⊢
  have hl : lv_has ls 3 [(0, .int a0), (1, .int a1), (2, .int a2)] := hl
  unfold gX7_bound at hG
  refine lv_iload_n hx hb dX7_bound_0 rfl (lv_at hl 0 rfl) ?_
  refine lv_iload_n hx hb dX7_bound_1 rfl (lv_at hl 1 rfl) ?_
  refine lv_icmp_ge (tgt := 9) hx hb dX7_bound_2 (by decide) (fun c1 => ?_) (fun c1 => ?_)
  · replace hG := wq_t c1 hG
    refine lv_iload_n hx hb dX7_bound_9 rfl (lv_at hl 0 rfl) ?_
    refine lv_iload_n hx hb dX7_bound_10 rfl (lv_at hl 2 rfl) ?_
    refine lv_icmp_le (tgt := 18) hx hb dX7_bound_11 (by decide) (fun c2 => ?_) (fun c2 => ?_)
    · replace hG := wq_t c2 hG
      refine lv_iload_n hx hb dX7_bound_18 rfl (lv_at hl 0 rfl) ?_
      exact W.iret (v := a0) hx hb hr (fun t ht hW => ⟨⟨a0, (), rfl, ⟨Option.some.inj hG, trivial⟩, trivial⟩, hS.F ht⟩) hS.2.2 dX7_bound_19
    · replace hG := wq_f c2 hG
      refine lv_iload_n hx hb dX7_bound_14 rfl (lv_at hl 2 rfl) ?_
      refine lv_goto (tgt := 19) hx hb dX7_bound_15 (by decide) ?_
      exact W.iret (v := a2) hx hb hr (fun t ht hW => ⟨⟨a2, (), rfl, ⟨Option.some.inj hG, trivial⟩, trivial⟩, hS.F ht⟩) hS.2.2 dX7_bound_19
  · replace hG := wq_f c1 hG
    refine lv_iload_n hx hb dX7_bound_5 rfl (lv_at hl 1 rfl) ?_
    refine lv_goto (tgt := 19) hx hb dX7_bound_6 (by decide) ?_
    exact W.iret (v := a1) hx hb hr (fun t ht hW => ⟨⟨a1, (), rfl, ⟨Option.some.inj hG, trivial⟩, trivial⟩, hS.F ht⟩) hS.2.2 dX7_bound_19

theorem hdV_X7_isGoodbye : yX7_isGoodbye.cls = RX7 ∧ yX7_isGoodbye.cls ≠ "java/lang/invoke/MethodHandle" ∧ yX7_isGoodbye.cls ≠ "java/lang/invoke/VarHandle" ∧ (parseMethodDescriptor yX7_isGoodbye.desc).map (fun d => d.parameters.length) = some 1 := by decide +kernel
set_option maxHeartbeats 4000000 in
set_option maxRecDepth 100000 in
theorem C_X7_isGoodbye (l : Launch) (dC : Nat → ClassId) (dI : Nat → Nat → Nat) (cI cJ cZ : ClassId) (qa : Nat → Nat) (sz : Nat) (m_trace : Int64) (m_text : Nat → Int32) (m_typed : Int32) (m_told : Nat → Int32) (m_draft : Nat → Int32) (m_s : Nat → Int32) (m_past : Nat → Int32) (m_known : Int32) (m_images : Nat → Int32) (m_kept : Nat → Int32) (m_notes : Nat → Int32) (m_noted : Int32) (m_at : Int32) (m_sort : Int32) (m_start : Int32) (m_value : Int32) (m_steps : Nat → Int32) (m_rows : Nat → Int32) (m_held : Nat → Int32) (a1 : Int32) (r0 : Int32) (hG : gX7_isGoodbye m_told a1 = some r0) : Met l yX7_isGoodbye wsX7_isGoodbye ({ frames := 1, cells := 0, slots := 0, locals := 22 } : Room) (va_Pc [.ref (qa 0), .int a1] (wq_pp (dC, dI) [(cI, .int), (cJ, .long), (cZ, .boolean)] (wcM qa cI cJ cZ m_trace m_text m_typed m_told m_draft m_s m_past m_known m_images m_kept m_notes m_noted m_at m_sort m_start m_value m_steps m_rows m_held) sz)) (wq_Qi r0 wq_Z1 (va_A [] sz)) 0 0 (va_A [] sz) := by
  refine Met.ofW (cc := cX7_isGoodbye) (maxL := 2) (ret := (some .boolean)) (by decide) rfl ?_
  intro p e s m args below meth c s₁ B hml hv
  obtain ⟨rfl, hsz, hP, hK, hE⟩ := hv
  have hx := B.exec
  have hb := B.bytes
  have hr := B.returns
  have hts := atoms_spec (ws := wsX7_isGoodbye) B.pre
  have hown : s.vm.findClass RX7 = some m.cls := findClass_of_methodNamed B.named
  have hlocks := B.notSynchronized
  subst hsz
  generalize hAe : va_A [] s.heap.size = A at hE ⊢
  have hA : ∀ q : Nat, s.heap.size ≤ q → A q := fun q h => by rw [← hAe]; exact Or.inr h
  have hS : va_S A s.heap s.heap [] := va_S.rf
  have hinX7 : ∀ w ∈ u_ws RX7 TX7 19, w ∈ wsX7_isGoodbye := by decide +kernel
  have k1 := hts (.fieldLink RX7 13 "DoorMorningsModel" "told" "[I") (by decide +kernel)
  have hl := lv_entry ([.ref (qa 0), .int a1]) (n := 2) (Nat.le_of_ble_eq_true rfl)
  rw [lg_entry_eq]
  generalize (lg_sl ([.ref (qa 0), .int a1]) ++ List.replicate (2 - (lg_sl ([.ref (qa 0), .int a1])).length) Slot.unset).toArray = ls at hl ⊢
  have hl : lv_has ls 2 [(0, .ref (qa 0)), (1, .int a1)] := hl
  unfold gX7_isGoodbye at hG
  refine lv_iload_n hx hb dX7_isGoodbye_0 rfl (lv_at hl 1 rfl) ?_
  refine lv_iconst (v := 0) hx hb dX7_isGoodbye_1 (by decide) ?_
  refine lv_aload_n hx hb dX7_isGoodbye_2 rfl (lv_at hl 0 rfl) ?_
  refine va_get (D := (dC, dI)) (ci := 7) (v := .ref (qa 2)) (C := RX7) (T := TX7) (N := 19) hx hb hts hinX7 hown hK hP 0 rfl rfl 3 (by decide) k1 (fun _ h9 => h9) rfl dX7_isGoodbye_3 ?_
  refine lv_iconst (v := 0) hx hb dX7_isGoodbye_6 (by decide) ?_
  refine wq_iald (D := (dC, dI)) hx hb hK hP 2 0 rfl rfl (wq_lit (by decide)) 0 rfl dX7_isGoodbye_7 ?_
  refine lv_iconst (v := 1) hx hb dX7_isGoodbye_8 (by decide) ?_
  refine lv_isub hx hb dX7_isGoodbye_9 ?_
  obtain ⟨v2, g1, hG⟩ := wq_b1_s hG
  refine wq_ci (v := v2) (B := wq_Z1) (va_runS (As := [.int a1, .int 0, .int ((m_told 0) - 1)]) (rest := []) ⟨hx, hb, hml, hown, hts⟩ (C_X7_in l dC dI cI cJ cZ qa s.heap.size  a1 0 ((m_told 0) - 1) v2 g1) (va_cwS 3 hts gX7_isGoodbye_X7_in rfl rfl rfl hdS_X7_in ⟨Nat.le_of_ble_eq_true rfl, Nat.le_of_ble_eq_true rfl⟩) (wq_ppS hK (hP.sub (ws' := []) [] rfl) hE hS hA) rfl rfl hl.1 rfl (lv_room (Nat.le_of_ble_eq_true rfl)) dX7_isGoodbye_10 ⟨Nat.zero_le _, Nat.zero_le _⟩) hS hA (fun H locs b3 hk hS => ?_)
  replace hP := wq_kp hP hk
  clear hk
  exact W.zret (v := v2) hx hb hr (wq_Z1_n b3) (fun t ht hW => ⟨⟨v2, (), rfl, ⟨Option.some.inj hG, b3⟩, trivial⟩, hS.F ht⟩) hS.2.2 dX7_isGoodbye_13

theorem hdV_X7_isWoman : yX7_isWoman.cls = RX7 ∧ yX7_isWoman.cls ≠ "java/lang/invoke/MethodHandle" ∧ yX7_isWoman.cls ≠ "java/lang/invoke/VarHandle" ∧ (parseMethodDescriptor yX7_isWoman.desc).map (fun d => d.parameters.length) = some 1 := by decide +kernel
set_option maxHeartbeats 4000000 in
set_option maxRecDepth 100000 in
theorem C_X7_isWoman (l : Launch) (dC : Nat → ClassId) (dI : Nat → Nat → Nat) (cI cJ cZ : ClassId) (qa : Nat → Nat) (sz : Nat) (m_trace : Int64) (m_text : Nat → Int32) (m_typed : Int32) (m_told : Nat → Int32) (m_draft : Nat → Int32) (m_s : Nat → Int32) (m_past : Nat → Int32) (m_known : Int32) (m_images : Nat → Int32) (m_kept : Nat → Int32) (m_notes : Nat → Int32) (m_noted : Int32) (m_at : Int32) (m_sort : Int32) (m_start : Int32) (m_value : Int32) (m_steps : Nat → Int32) (m_rows : Nat → Int32) (m_held : Nat → Int32) (a1 : Int32) (r0 : Int32) (hG : gX7_isWoman m_told a1 = some r0) : Met l yX7_isWoman wsX7_isWoman ({ frames := 1, cells := 0, slots := 0, locals := 22 } : Room) (va_Pc [.ref (qa 0), .int a1] (wq_pp (dC, dI) [(cI, .int), (cJ, .long), (cZ, .boolean)] (wcM qa cI cJ cZ m_trace m_text m_typed m_told m_draft m_s m_past m_known m_images m_kept m_notes m_noted m_at m_sort m_start m_value m_steps m_rows m_held) sz)) (wq_Qi r0 wq_Z1 (va_A [] sz)) 0 0 (va_A [] sz) := by
  refine Met.ofW (cc := cX7_isWoman) (maxL := 2) (ret := (some .boolean)) (by decide) rfl ?_
  intro p e s m args below meth c s₁ B hml hv
  obtain ⟨rfl, hsz, hP, hK, hE⟩ := hv
  have hx := B.exec
  have hb := B.bytes
  have hr := B.returns
  have hts := atoms_spec (ws := wsX7_isWoman) B.pre
  have hown : s.vm.findClass RX7 = some m.cls := findClass_of_methodNamed B.named
  have hlocks := B.notSynchronized
  subst hsz
  generalize hAe : va_A [] s.heap.size = A at hE ⊢
  have hA : ∀ q : Nat, s.heap.size ≤ q → A q := fun q h => by rw [← hAe]; exact Or.inr h
  have hS : va_S A s.heap s.heap [] := va_S.rf
  have hinX7 : ∀ w ∈ u_ws RX7 TX7 19, w ∈ wsX7_isWoman := by decide +kernel
  have k1 := hts (.fieldLink RX7 13 "DoorMorningsModel" "told" "[I") (by decide +kernel)
  have hl := lv_entry ([.ref (qa 0), .int a1]) (n := 2) (Nat.le_of_ble_eq_true rfl)
  rw [lg_entry_eq]
  generalize (lg_sl ([.ref (qa 0), .int a1]) ++ List.replicate (2 - (lg_sl ([.ref (qa 0), .int a1])).length) Slot.unset).toArray = ls at hl ⊢
  have hl : lv_has ls 2 [(0, .ref (qa 0)), (1, .int a1)] := hl
  unfold gX7_isWoman at hG
  refine lv_iload_n hx hb dX7_isWoman_0 rfl (lv_at hl 1 rfl) ?_
  refine lv_iconst (v := 0) hx hb dX7_isWoman_1 (by decide) ?_
  refine lv_aload_n hx hb dX7_isWoman_2 rfl (lv_at hl 0 rfl) ?_
  refine va_get (D := (dC, dI)) (ci := 7) (v := .ref (qa 2)) (C := RX7) (T := TX7) (N := 19) hx hb hts hinX7 hown hK hP 0 rfl rfl 3 (by decide) k1 (fun _ h9 => h9) rfl dX7_isWoman_3 ?_
  refine lv_iconst (v := 1) hx hb dX7_isWoman_6 (by decide) ?_
  refine wq_iald (D := (dC, dI)) hx hb hK hP 2 0 rfl rfl (wq_lit (by decide)) 1 rfl dX7_isWoman_7 ?_
  refine lv_iconst (v := 1) hx hb dX7_isWoman_8 (by decide) ?_
  refine lv_isub hx hb dX7_isWoman_9 ?_
  obtain ⟨v2, g1, hG⟩ := wq_b1_s hG
  refine wq_ci (v := v2) (B := wq_Z1) (va_runS (As := [.int a1, .int 0, .int ((m_told 1) - 1)]) (rest := []) ⟨hx, hb, hml, hown, hts⟩ (C_X7_in l dC dI cI cJ cZ qa s.heap.size  a1 0 ((m_told 1) - 1) v2 g1) (va_cwS 3 hts gX7_isWoman_X7_in rfl rfl rfl hdS_X7_in ⟨Nat.le_of_ble_eq_true rfl, Nat.le_of_ble_eq_true rfl⟩) (wq_ppS hK (hP.sub (ws' := []) [] rfl) hE hS hA) rfl rfl hl.1 rfl (lv_room (Nat.le_of_ble_eq_true rfl)) dX7_isWoman_10 ⟨Nat.zero_le _, Nat.zero_le _⟩) hS hA (fun H locs b3 hk hS => ?_)
  replace hP := wq_kp hP hk
  clear hk
  exact W.zret (v := v2) hx hb hr (wq_Z1_n b3) (fun t ht hW => ⟨⟨v2, (), rfl, ⟨Option.some.inj hG, b3⟩, trivial⟩, hS.F ht⟩) hS.2.2 dX7_isWoman_13

theorem hdV_X7_type : yX7_type.cls = RX7 ∧ yX7_type.cls ≠ "java/lang/invoke/MethodHandle" ∧ yX7_type.cls ≠ "java/lang/invoke/VarHandle" ∧ (parseMethodDescriptor yX7_type.desc).map (fun d => d.parameters.length) = some 1 := by decide +kernel
set_option maxHeartbeats 4000000 in
set_option maxRecDepth 100000 in
theorem C_X7_type (l : Launch) (dC : Nat → ClassId) (dI : Nat → Nat → Nat) (cI cJ cZ : ClassId) (qa : Nat → Nat) (sz : Nat) (m_trace : Int64) (m_text : Nat → Int32) (m_typed : Int32) (m_told : Nat → Int32) (m_draft : Nat → Int32) (m_s : Nat → Int32) (m_past : Nat → Int32) (m_known : Int32) (m_images : Nat → Int32) (m_kept : Nat → Int32) (m_notes : Nat → Int32) (m_noted : Int32) (m_at : Int32) (m_sort : Int32) (m_start : Int32) (m_value : Int32) (m_steps : Nat → Int32) (m_rows : Nat → Int32) (m_held : Nat → Int32) (a1 : Int32) (r0 : Int32) (r_m_text : Nat → Int32) (r_m_typed : Int32) (hG : gX7_type m_text m_typed a1 = some (r0, r_m_text, r_m_typed)) : Met l yX7_type wsX7_type ({ frames := 1, cells := 0, slots := 0, locals := 22 } : Room) (va_Pc [.ref (qa 0), .int a1] (wq_pw (dC, dI) [(cI, .int), (cJ, .long), (cZ, .boolean)] (wcM qa cI cJ cZ m_trace m_text m_typed m_told m_draft m_s m_past m_known m_images m_kept m_notes m_noted m_at m_sort m_start m_value m_steps m_rows m_held) sz)) (wq_Wi (dC, dI) r0 wq_tr (wcM qa cI cJ cZ m_trace r_m_text r_m_typed m_told m_draft m_s m_past m_known m_images m_kept m_notes m_noted m_at m_sort m_start m_value m_steps m_rows m_held) (va_A (wcM qa cI cJ cZ m_trace m_text m_typed m_told m_draft m_s m_past m_known m_images m_kept m_notes m_noted m_at m_sort m_start m_value m_steps m_rows m_held) sz)) 0 0 (va_A (wcM qa cI cJ cZ m_trace m_text m_typed m_told m_draft m_s m_past m_known m_images m_kept m_notes m_noted m_at m_sort m_start m_value m_steps m_rows m_held) sz) := by
  refine Met.ofW (cc := cX7_type) (maxL := 2) (ret := (some .int)) (by decide) rfl ?_
  intro p e s m args below meth c s₁ B hml hv
  obtain ⟨rfl, hsz, hP, hK, hD0, hE⟩ := hv
  have hx := B.exec
  have hb := B.bytes
  have hr := B.returns
  have hts := atoms_spec (ws := wsX7_type) B.pre
  have hown : s.vm.findClass RX7 = some m.cls := findClass_of_methodNamed B.named
  have hlocks := B.notSynchronized
  subst hsz
  have hD := hD0.self (sz := s.heap.size)
  generalize hAe : va_A (wcM qa cI cJ cZ m_trace m_text m_typed m_told m_draft m_s m_past m_known m_images m_kept m_notes m_noted m_at m_sort m_start m_value m_steps m_rows m_held) s.heap.size = A at hD hE ⊢
  have hA : ∀ q : Nat, s.heap.size ≤ q → A q := fun q h => by rw [← hAe]; exact Or.inr h
  have hS : va_S A s.heap s.heap [] := va_S.rf
  have hinX7 : ∀ w ∈ u_ws RX7 TX7 19, w ∈ wsX7_type := by decide +kernel
  have k1 := hts (.fieldLink RX7 55 "DoorMorningsModel" "typed" "I") (by decide +kernel)
  have k2 := hts (.fieldLink RX7 7 "DoorMorningsModel" "text" "[I") (by decide +kernel)
  have hl := lv_entry ([.ref (qa 0), .int a1]) (n := 2) (Nat.le_of_ble_eq_true rfl)
  rw [lg_entry_eq]
  generalize (lg_sl ([.ref (qa 0), .int a1]) ++ List.replicate (2 - (lg_sl ([.ref (qa 0), .int a1])).length) Slot.unset).toArray = ls at hl ⊢
  have hl : lv_has ls 2 [(0, .ref (qa 0)), (1, .int a1)] := hl
  unfold gX7_type at hG
  refine lv_iload_n hx hb dX7_type_0 rfl (lv_at hl 1 rfl) ?_
  refine lv_iconst (v := 0) hx hb dX7_type_1 (by decide) ?_
  refine lv_sipush (v := 255) hx hb dX7_type_2 (by decide) ?_
  obtain ⟨v2, g1, hG⟩ := wq_b1_s hG
  refine wq_ci (v := v2) (B := wq_Z1) (va_runS (As := [.int a1, .int 0, .int 255]) (rest := []) ⟨hx, hb, hml, hown, hts⟩ (C_X7_in l dC dI cI cJ cZ qa s.heap.size  a1 0 255 v2 g1) (va_cwS 3 hts gX7_type_X7_in rfl rfl rfl hdS_X7_in ⟨Nat.le_of_ble_eq_true rfl, Nat.le_of_ble_eq_true rfl⟩) (wq_ppS hK (hP.sub (ws' := []) [] rfl) hE hS hA) rfl rfl hl.1 rfl (lv_room (Nat.le_of_ble_eq_true rfl)) dX7_type_5 ⟨Nat.zero_le _, Nat.zero_le _⟩) hS hA (fun H locs b3 hk hS => ?_)
  replace hP := wq_kp hP hk
  clear hk
  refine lv_if_ne (tgt := 13) hx hb dX7_type_8 (by decide) (fun c4 => ?_) (fun c4 => ?_)
  · replace hG := wq_f c4 hG
    refine lv_aload_n hx hb dX7_type_13 rfl (lv_at hl 0 rfl) ?_
    refine va_get (D := (dC, dI)) (ci := 7) (v := .int m_typed) (C := RX7) (T := TX7) (N := 19) hx hb hts hinX7 hown hK hP 0 rfl rfl 2 (by decide) k1 (fun _ h9 => h9) rfl dX7_type_14 ?_
    refine lv_bipush (v := 120) hx hb dX7_type_17 (by decide) ?_
    refine lv_icmp_ne (tgt := 25) hx hb dX7_type_19 (by decide) (fun c5 => ?_) (fun c5 => ?_)
    · replace hG := wq_f c5 hG
      refine lv_aload_n hx hb dX7_type_25 rfl (lv_at hl 0 rfl) ?_
      refine va_get (D := (dC, dI)) (ci := 7) (v := .ref (qa 1)) (C := RX7) (T := TX7) (N := 19) hx hb hts hinX7 hown hK hP 0 rfl rfl 1 (by decide) k2 (fun _ h9 => h9) rfl dX7_type_26 ?_
      refine lv_aload_n hx hb dX7_type_29 rfl (lv_at hl 0 rfl) ?_
      refine va_get (D := (dC, dI)) (ci := 7) (v := .int m_typed) (C := RX7) (T := TX7) (N := 19) hx hb hts hinX7 hown hK hP 0 rfl rfl 2 (by decide) k1 (fun _ h9 => h9) rfl dX7_type_30 ?_
      refine lv_iload_n hx hb dX7_type_33 rfl (lv_at hl 1 rfl) ?_
      obtain ⟨h6, hG⟩ := wq_chk_s hG
      refine wq_iast (D := (dC, dI)) hx hb hK hP hD hS 1 0 rfl rfl h6 (Int32.toNatClampNeg m_typed) rfl (wcM qa cI cJ cZ m_trace (upd m_text (Int32.toNatClampNeg m_typed) a1) m_typed m_told m_draft m_s m_past m_known m_images m_kept m_notes m_noted m_at m_sort m_start m_value m_steps m_rows m_held) rfl dX7_type_34 (fun H locs hP hD hS => ?_)
      refine lv_aload_n hx hb dX7_type_35 rfl (lv_at hl 0 rfl) ?_
      refine lv_dup hx hb dX7_type_36 rfl ?_
      refine va_get (D := (dC, dI)) (ci := 7) (v := .int m_typed) (C := RX7) (T := TX7) (N := 19) hx hb hts hinX7 hown hK hP 0 rfl rfl 2 (by decide) k1 (fun _ h9 => h9) rfl dX7_type_37 ?_
      refine lv_iconst (v := 1) hx hb dX7_type_40 (by decide) ?_
      refine lv_iadd hx hb dX7_type_41 ?_
      refine va_put (D := (dC, dI)) (ci := 7) (v := .int (m_typed + 1)) (ty := tyX7 2) (C := RX7) (T := TX7) (N := 19) hx hb hts hinX7 tyX7 tyX7_ok nmX7 hown hK hP hD hS 0 rfl rfl 2 (by decide) k1 (fun _ h9 => h9) rfl (tyX7_ok 2 (by decide)) rfl rfl (Nat.le_of_ble_eq_true rfl) dX7_type_42 (fun H locs hP hD hS => ?_)
      replace hP : va_P (dC, dI) vwCl (wcM qa cI cJ cZ m_trace (upd m_text (Int32.toNatClampNeg m_typed) a1) (m_typed + 1) m_told m_draft m_s m_past m_known m_images m_kept m_notes m_noted m_at m_sort m_start m_value m_steps m_rows m_held) H := hP
      replace hD : va_D A (wcM qa cI cJ cZ m_trace (upd m_text (Int32.toNatClampNeg m_typed) a1) (m_typed + 1) m_told m_draft m_s m_past m_known m_images m_kept m_notes m_noted m_at m_sort m_start m_value m_steps m_rows m_held) := hD
      refine lv_aload_n hx hb dX7_type_45 rfl (lv_at hl 0 rfl) ?_
      refine va_get (D := (dC, dI)) (ci := 7) (v := .int (m_typed + 1)) (C := RX7) (T := TX7) (N := 19) hx hb hts hinX7 hown hK hP 0 rfl rfl 2 (by decide) k1 (fun _ h9 => h9) rfl dX7_type_46 ?_
      obtain ⟨e0, e1, e2⟩ := wq_j3 hG
      subst e0
      subst e1
      subst e2
      exact W.iret hx hb hr (fun t ht hW => ⟨⟨_, (), rfl, ⟨rfl, trivial⟩, by rw [ht]; exact hP, hD⟩, hS.F ht⟩) hS.2.2 dX7_type_49
    · replace hG := wq_t c5 hG
      refine lv_bipush (v := (-3)) hx hb dX7_type_22 (by decide) ?_
      obtain ⟨e0, e1, e2⟩ := wq_j3 hG
      subst e0
      subst e1
      subst e2
      exact W.iret hx hb hr (fun t ht hW => ⟨⟨_, (), rfl, ⟨rfl, trivial⟩, by rw [ht]; exact hP, hD⟩, hS.F ht⟩) hS.2.2 dX7_type_24
  · replace hG := wq_t c4 hG
    refine lv_iconst (v := (-1)) hx hb dX7_type_11 (by decide) ?_
    obtain ⟨e0, e1, e2⟩ := wq_j3 hG
    subst e0
    subst e1
    subst e2
    exact W.iret hx hb hr (fun t ht hW => ⟨⟨_, (), rfl, ⟨rfl, trivial⟩, by rw [ht]; exact hP, hD⟩, hS.F ht⟩) hS.2.2 dX7_type_12

theorem hdV_X7_clear : yX7_clear.cls = RX7 ∧ yX7_clear.cls ≠ "java/lang/invoke/MethodHandle" ∧ yX7_clear.cls ≠ "java/lang/invoke/VarHandle" ∧ (parseMethodDescriptor yX7_clear.desc).map (fun d => d.parameters.length) = some 0 := by decide +kernel
set_option maxHeartbeats 4000000 in
set_option maxRecDepth 100000 in
theorem C_X7_clear (l : Launch) (dC : Nat → ClassId) (dI : Nat → Nat → Nat) (cI cJ cZ : ClassId) (qa : Nat → Nat) (sz : Nat) (m_trace : Int64) (m_text : Nat → Int32) (m_typed : Int32) (m_told : Nat → Int32) (m_draft : Nat → Int32) (m_s : Nat → Int32) (m_past : Nat → Int32) (m_known : Int32) (m_images : Nat → Int32) (m_kept : Nat → Int32) (m_notes : Nat → Int32) (m_noted : Int32) (m_at : Int32) (m_sort : Int32) (m_start : Int32) (m_value : Int32) (m_steps : Nat → Int32) (m_rows : Nat → Int32) (m_held : Nat → Int32) (r0 : Int32) (r_m_typed : Int32) (hG : gX7_clear m_typed = some (r0, r_m_typed)) : Met l yX7_clear wsX7_clear ({ frames := 0, cells := 0, slots := 0, locals := 0 } : Room) (va_Pc [.ref (qa 0)] (wq_pw (dC, dI) [(cI, .int), (cJ, .long), (cZ, .boolean)] (wcM qa cI cJ cZ m_trace m_text m_typed m_told m_draft m_s m_past m_known m_images m_kept m_notes m_noted m_at m_sort m_start m_value m_steps m_rows m_held) sz)) (wq_Wi (dC, dI) r0 wq_tr (wcM qa cI cJ cZ m_trace m_text r_m_typed m_told m_draft m_s m_past m_known m_images m_kept m_notes m_noted m_at m_sort m_start m_value m_steps m_rows m_held) (va_A (wcM qa cI cJ cZ m_trace m_text m_typed m_told m_draft m_s m_past m_known m_images m_kept m_notes m_noted m_at m_sort m_start m_value m_steps m_rows m_held) sz)) 0 0 (va_A (wcM qa cI cJ cZ m_trace m_text m_typed m_told m_draft m_s m_past m_known m_images m_kept m_notes m_noted m_at m_sort m_start m_value m_steps m_rows m_held) sz) := by
  refine Met.ofW (cc := cX7_clear) (maxL := 2) (ret := (some .int)) (by decide) rfl ?_
  intro p e s m args below meth c s₁ B hml hv
  obtain ⟨rfl, hsz, hP, hK, hD0, hE⟩ := hv
  have hx := B.exec
  have hb := B.bytes
  have hr := B.returns
  have hts := atoms_spec (ws := wsX7_clear) B.pre
  have hown : s.vm.findClass RX7 = some m.cls := findClass_of_methodNamed B.named
  have hlocks := B.notSynchronized
  subst hsz
  have hD := hD0.self (sz := s.heap.size)
  generalize hAe : va_A (wcM qa cI cJ cZ m_trace m_text m_typed m_told m_draft m_s m_past m_known m_images m_kept m_notes m_noted m_at m_sort m_start m_value m_steps m_rows m_held) s.heap.size = A at hD hE ⊢
  have hA : ∀ q : Nat, s.heap.size ≤ q → A q := fun q h => by rw [← hAe]; exact Or.inr h
  have hS : va_S A s.heap s.heap [] := va_S.rf
  have hinX7 : ∀ w ∈ u_ws RX7 TX7 19, w ∈ wsX7_clear := by decide +kernel
  have k1 := hts (.fieldLink RX7 55 "DoorMorningsModel" "typed" "I") (by decide +kernel)
  have hl := lv_entry ([.ref (qa 0)]) (n := 2) (Nat.le_of_ble_eq_true rfl)
  rw [lg_entry_eq]
  generalize (lg_sl ([.ref (qa 0)]) ++ List.replicate (2 - (lg_sl ([.ref (qa 0)])).length) Slot.unset).toArray = ls at hl ⊢
  have hl : lv_has ls 2 [(0, .ref (qa 0))] := hl
  unfold gX7_clear at hG
  refine lv_aload_n hx hb dX7_clear_0 rfl (lv_at hl 0 rfl) ?_
  refine va_get (D := (dC, dI)) (ci := 7) (v := .int m_typed) (C := RX7) (T := TX7) (N := 19) hx hb hts hinX7 hown hK hP 0 rfl rfl 2 (by decide) k1 (fun _ h9 => h9) rfl dX7_clear_1 ?_
  refine lv_istore_n (lv' := [(1, .int m_typed), (0, .ref (qa 0))]) hx hb dX7_clear_4 rfl hl (by decide) rfl (fun ls hl => ?_)
  refine lv_aload_n hx hb dX7_clear_5 rfl (lv_at hl 1 rfl) ?_
  refine lv_iconst (v := 0) hx hb dX7_clear_6 (by decide) ?_
  refine va_put (D := (dC, dI)) (ci := 7) (v := .int 0) (ty := tyX7 2) (C := RX7) (T := TX7) (N := 19) hx hb hts hinX7 tyX7 tyX7_ok nmX7 hown hK hP hD hS 0 rfl rfl 2 (by decide) k1 (fun _ h9 => h9) rfl (tyX7_ok 2 (by decide)) rfl rfl (Nat.le_of_ble_eq_true rfl) dX7_clear_7 (fun H locs hP hD hS => ?_)
  replace hP : va_P (dC, dI) vwCl (wcM qa cI cJ cZ m_trace m_text 0 m_told m_draft m_s m_past m_known m_images m_kept m_notes m_noted m_at m_sort m_start m_value m_steps m_rows m_held) H := hP
  replace hD : va_D A (wcM qa cI cJ cZ m_trace m_text 0 m_told m_draft m_s m_past m_known m_images m_kept m_notes m_noted m_at m_sort m_start m_value m_steps m_rows m_held) := hD
  refine lv_iload_n hx hb dX7_clear_10 rfl (lv_at hl 0 rfl) ?_
  obtain ⟨e0, e1⟩ := wq_j2 hG
  subst e0
  subst e1
  exact W.iret hx hb hr (fun t ht hW => ⟨⟨_, (), rfl, ⟨rfl, trivial⟩, by rw [ht]; exact hP, hD⟩, hS.F ht⟩) hS.2.2 dX7_clear_11

theorem hdV_X7_letterAt : yX7_letterAt.cls = RX7 ∧ yX7_letterAt.cls ≠ "java/lang/invoke/MethodHandle" ∧ yX7_letterAt.cls ≠ "java/lang/invoke/VarHandle" ∧ (parseMethodDescriptor yX7_letterAt.desc).map (fun d => d.parameters.length) = some 1 := by decide +kernel
set_option maxHeartbeats 4000000 in
set_option maxRecDepth 100000 in
theorem C_X7_letterAt (l : Launch) (dC : Nat → ClassId) (dI : Nat → Nat → Nat) (cI cJ cZ : ClassId) (qa : Nat → Nat) (sz : Nat) (m_trace : Int64) (m_text : Nat → Int32) (m_typed : Int32) (m_told : Nat → Int32) (m_draft : Nat → Int32) (m_s : Nat → Int32) (m_past : Nat → Int32) (m_known : Int32) (m_images : Nat → Int32) (m_kept : Nat → Int32) (m_notes : Nat → Int32) (m_noted : Int32) (m_at : Int32) (m_sort : Int32) (m_start : Int32) (m_value : Int32) (m_steps : Nat → Int32) (m_rows : Nat → Int32) (m_held : Nat → Int32) (a1 : Int32) (r0 : Int32) (hG : gX7_letterAt m_text m_typed a1 = some r0) : Met l yX7_letterAt wsX7_letterAt ({ frames := 0, cells := 0, slots := 0, locals := 0 } : Room) (va_Pc [.ref (qa 0), .int a1] (wq_pp (dC, dI) [(cI, .int), (cJ, .long), (cZ, .boolean)] (wcM qa cI cJ cZ m_trace m_text m_typed m_told m_draft m_s m_past m_known m_images m_kept m_notes m_noted m_at m_sort m_start m_value m_steps m_rows m_held) sz)) (wq_Qi r0 wq_tr (va_A [] sz)) 0 0 (va_A [] sz) := by
  refine Met.ofW (cc := cX7_letterAt) (maxL := 2) (ret := (some .int)) (by decide) rfl ?_
  intro p e s m args below meth c s₁ B hml hv
  obtain ⟨rfl, hsz, hP, hK, hE⟩ := hv
  have hx := B.exec
  have hb := B.bytes
  have hr := B.returns
  have hts := atoms_spec (ws := wsX7_letterAt) B.pre
  have hown : s.vm.findClass RX7 = some m.cls := findClass_of_methodNamed B.named
  have hlocks := B.notSynchronized
  subst hsz
  generalize hAe : va_A [] s.heap.size = A at hE ⊢
  have hA : ∀ q : Nat, s.heap.size ≤ q → A q := fun q h => by rw [← hAe]; exact Or.inr h
  have hS : va_S A s.heap s.heap [] := va_S.rf
  have hinX7 : ∀ w ∈ u_ws RX7 TX7 19, w ∈ wsX7_letterAt := by decide +kernel
  have k1 := hts (.fieldLink RX7 55 "DoorMorningsModel" "typed" "I") (by decide +kernel)
  have k2 := hts (.fieldLink RX7 7 "DoorMorningsModel" "text" "[I") (by decide +kernel)
  have hl := lv_entry ([.ref (qa 0), .int a1]) (n := 2) (Nat.le_of_ble_eq_true rfl)
  rw [lg_entry_eq]
  generalize (lg_sl ([.ref (qa 0), .int a1]) ++ List.replicate (2 - (lg_sl ([.ref (qa 0), .int a1])).length) Slot.unset).toArray = ls at hl ⊢
  have hl : lv_has ls 2 [(0, .ref (qa 0)), (1, .int a1)] := hl
  unfold gX7_letterAt at hG
  refine lv_iload_n hx hb dX7_letterAt_0 rfl (lv_at hl 1 rfl) ?_
  refine lv_aload_n hx hb dX7_letterAt_1 rfl (lv_at hl 0 rfl) ?_
  refine va_get (D := (dC, dI)) (ci := 7) (v := .int m_typed) (C := RX7) (T := TX7) (N := 19) hx hb hts hinX7 hown hK hP 0 rfl rfl 2 (by decide) k1 (fun _ h9 => h9) rfl dX7_letterAt_2 ?_
  refine lv_icmp_ge (tgt := 17) hx hb dX7_letterAt_5 (by decide) (fun c1 => ?_) (fun c1 => ?_)
  · replace hG := wq_t c1 hG
    refine lv_iconst (v := (-1)) hx hb dX7_letterAt_17 (by decide) ?_
    exact W.iret (v := (-1)) hx hb hr (fun t ht hW => ⟨⟨(-1), (), rfl, ⟨Option.some.inj hG, trivial⟩, trivial⟩, hS.F ht⟩) hS.2.2 dX7_letterAt_18
  · replace hG := wq_f c1 hG
    refine lv_aload_n hx hb dX7_letterAt_8 rfl (lv_at hl 0 rfl) ?_
    refine va_get (D := (dC, dI)) (ci := 7) (v := .ref (qa 1)) (C := RX7) (T := TX7) (N := 19) hx hb hts hinX7 hown hK hP 0 rfl rfl 1 (by decide) k2 (fun _ h9 => h9) rfl dX7_letterAt_9 ?_
    refine lv_iload_n hx hb dX7_letterAt_12 rfl (lv_at hl 1 rfl) ?_
    obtain ⟨h2, hG⟩ := wq_chk_s hG
    refine wq_iald (D := (dC, dI)) hx hb hK hP 1 0 rfl rfl h2 (Int32.toNatClampNeg a1) rfl dX7_letterAt_13 ?_
    refine lv_goto (tgt := 18) hx hb dX7_letterAt_14 (by decide) ?_
    exact W.iret (v := (m_text (Int32.toNatClampNeg a1))) hx hb hr (fun t ht hW => ⟨⟨(m_text (Int32.toNatClampNeg a1)), (), rfl, ⟨Option.some.inj hG, trivial⟩, trivial⟩, hS.F ht⟩) hS.2.2 dX7_letterAt_18

theorem hdS_X7_isDigit : yX7_isDigit.cls ≠ "java/lang/invoke/MethodHandle" ∧ yX7_isDigit.cls ≠ "java/lang/invoke/VarHandle" ∧ (parseMethodDescriptor yX7_isDigit.desc).map (fun d => d.parameters.length) = some 1 := by decide +kernel
set_option maxHeartbeats 4000000 in
set_option maxRecDepth 100000 in
theorem C_X7_isDigit (l : Launch) (dC : Nat → ClassId) (dI : Nat → Nat → Nat) (cI cJ cZ : ClassId) (qa : Nat → Nat) (sz : Nat) (a0 : Int32) (r0 : Int32) (hG : gX7_isDigit a0 = some r0) : Met l yX7_isDigit wsX7_isDigit ({ frames := 1, cells := 0, slots := 0, locals := 22 } : Room) (va_Pc [.int a0] (wq_pp (dC, dI) [(cI, .int), (cJ, .long), (cZ, .boolean)] ([]) sz)) (wq_Qi r0 wq_Z1 (va_A [] sz)) 0 0 (va_A [] sz) := by
  refine Met.ofW (cc := cX7_isDigit) (maxL := 1) (ret := (some .boolean)) (by decide) rfl ?_
  intro p e s m args below meth c s₁ B hml hv
  obtain ⟨rfl, hsz, hP, hK, hE⟩ := hv
  have hx := B.exec
  have hb := B.bytes
  have hr := B.returns
  have hts := atoms_spec (ws := wsX7_isDigit) B.pre
  have hown : s.vm.findClass RX7 = some m.cls := findClass_of_methodNamed B.named
  have hlocks := B.notSynchronized
  subst hsz
  generalize hAe : va_A [] s.heap.size = A at hE ⊢
  have hA : ∀ q : Nat, s.heap.size ≤ q → A q := fun q h => by rw [← hAe]; exact Or.inr h
  have hS : va_S A s.heap s.heap [] := va_S.rf
  have hl := lv_entry ([.int a0]) (n := 1) (Nat.le_of_ble_eq_true rfl)
  rw [lg_entry_eq]
  generalize (lg_sl ([.int a0]) ++ List.replicate (1 - (lg_sl ([.int a0])).length) Slot.unset).toArray = ls at hl ⊢
  have hl : lv_has ls 1 [(0, .int a0)] := hl
  unfold gX7_isDigit at hG
  refine lv_iload_n hx hb dX7_isDigit_0 rfl (lv_at hl 0 rfl) ?_
  refine lv_bipush (v := 48) hx hb dX7_isDigit_1 (by decide) ?_
  refine lv_bipush (v := 57) hx hb dX7_isDigit_3 (by decide) ?_
  obtain ⟨v2, g1, hG⟩ := wq_b1_s hG
  refine wq_ci (v := v2) (B := wq_Z1) (va_runS (As := [.int a0, .int 48, .int 57]) (rest := []) ⟨hx, hb, hml, hown, hts⟩ (C_X7_in l dC dI cI cJ cZ qa s.heap.size  a0 48 57 v2 g1) (va_cwS 3 hts gX7_isDigit_X7_in rfl rfl rfl hdS_X7_in ⟨Nat.le_of_ble_eq_true rfl, Nat.le_of_ble_eq_true rfl⟩) (wq_ppS hK (hP.sub (ws' := []) [] rfl) hE hS hA) rfl rfl hl.1 rfl (lv_room (Nat.le_of_ble_eq_true rfl)) dX7_isDigit_5 ⟨Nat.zero_le _, Nat.zero_le _⟩) hS hA (fun H locs b3 hk hS => ?_)
  replace hP := wq_kp hP hk
  clear hk
  exact W.zret (v := v2) hx hb hr (wq_Z1_n b3) (fun t ht hW => ⟨⟨v2, (), rfl, ⟨Option.some.inj hG, b3⟩, trivial⟩, hS.F ht⟩) hS.2.2 dX7_isDigit_8

theorem hdS_X7_isWord : yX7_isWord.cls ≠ "java/lang/invoke/MethodHandle" ∧ yX7_isWord.cls ≠ "java/lang/invoke/VarHandle" ∧ (parseMethodDescriptor yX7_isWord.desc).map (fun d => d.parameters.length) = some 1 := by decide +kernel
set_option maxHeartbeats 4000000 in
set_option maxRecDepth 100000 in
theorem C_X7_isWord (l : Launch) (dC : Nat → ClassId) (dI : Nat → Nat → Nat) (cI cJ cZ : ClassId) (qa : Nat → Nat) (sz : Nat) (a0 : Int32) (r0 : Int32) (hG : gX7_isWord a0 = some r0) : Met l yX7_isWord wsX7_isWord ({ frames := 0, cells := 0, slots := 0, locals := 0 } : Room) (va_Pc [.int a0] (wq_pp (dC, dI) [(cI, .int), (cJ, .long), (cZ, .boolean)] ([]) sz)) (wq_Qi r0 wq_Z1 (va_A [] sz)) 0 0 (va_A [] sz) := by
  refine Met.ofW (cc := cX7_isWord) (maxL := 1) (ret := (some .boolean)) (by decide) rfl ?_
  intro p e s m args below meth c s₁ B hml hv
  obtain ⟨rfl, hsz, hP, hK, hE⟩ := hv
  have hx := B.exec
  have hb := B.bytes
  have hr := B.returns
  have hts := atoms_spec (ws := wsX7_isWord) B.pre
  have hown : s.vm.findClass RX7 = some m.cls := findClass_of_methodNamed B.named
  have hlocks := B.notSynchronized
  subst hsz
  generalize hAe : va_A [] s.heap.size = A at hE ⊢
  have hA : ∀ q : Nat, s.heap.size ≤ q → A q := fun q h => by rw [← hAe]; exact Or.inr h
  have hS : va_S A s.heap s.heap [] := va_S.rf
  have hl := lv_entry ([.int a0]) (n := 1) (Nat.le_of_ble_eq_true rfl)
  rw [lg_entry_eq]
  generalize (lg_sl ([.int a0]) ++ List.replicate (1 - (lg_sl ([.int a0])).length) Slot.unset).toArray = ls at hl ⊢
  have hl : lv_has ls 1 [(0, .int a0)] := hl
  unfold gX7_isWord at hG
  refine lv_iload_n hx hb dX7_isWord_0 rfl (lv_at hl 0 rfl) ?_
  refine lv_bipush (v := 103) hx hb dX7_isWord_1 (by decide) ?_
  refine lv_icmp_eq (tgt := 36) hx hb dX7_isWord_3 (by decide) (fun c1 => ?_) (fun c1 => ?_)
  · replace hG := wq_t c1 hG
    refine lv_iconst (v := 1) hx hb dX7_isWord_36 (by decide) ?_
    refine lv_goto (tgt := 41) hx hb dX7_isWord_37 (by decide) ?_
    exact W.zret (v := 1) hx hb hr (wq_Z1_n (Or.inr rfl)) (fun t ht hW => ⟨⟨1, (), rfl, ⟨Option.some.inj hG, (Or.inr rfl)⟩, trivial⟩, hS.F ht⟩) hS.2.2 dX7_isWord_41
  · replace hG := wq_f c1 hG
    refine lv_iload_n hx hb dX7_isWord_6 rfl (lv_at hl 0 rfl) ?_
    refine lv_bipush (v := 119) hx hb dX7_isWord_7 (by decide) ?_
    refine lv_icmp_eq (tgt := 36) hx hb dX7_isWord_9 (by decide) (fun c2 => ?_) (fun c2 => ?_)
    · replace hG := wq_t c2 hG
      refine lv_iconst (v := 1) hx hb dX7_isWord_36 (by decide) ?_
      refine lv_goto (tgt := 41) hx hb dX7_isWord_37 (by decide) ?_
      exact W.zret (v := 1) hx hb hr (wq_Z1_n (Or.inr rfl)) (fun t ht hW => ⟨⟨1, (), rfl, ⟨Option.some.inj hG, (Or.inr rfl)⟩, trivial⟩, hS.F ht⟩) hS.2.2 dX7_isWord_41
    · replace hG := wq_f c2 hG
      refine lv_iload_n hx hb dX7_isWord_12 rfl (lv_at hl 0 rfl) ?_
      refine lv_bipush (v := 115) hx hb dX7_isWord_13 (by decide) ?_
      refine lv_icmp_eq (tgt := 36) hx hb dX7_isWord_15 (by decide) (fun c3 => ?_) (fun c3 => ?_)
      · replace hG := wq_t c3 hG
        refine lv_iconst (v := 1) hx hb dX7_isWord_36 (by decide) ?_
        refine lv_goto (tgt := 41) hx hb dX7_isWord_37 (by decide) ?_
        exact W.zret (v := 1) hx hb hr (wq_Z1_n (Or.inr rfl)) (fun t ht hW => ⟨⟨1, (), rfl, ⟨Option.some.inj hG, (Or.inr rfl)⟩, trivial⟩, hS.F ht⟩) hS.2.2 dX7_isWord_41
      · replace hG := wq_f c3 hG
        refine lv_iload_n hx hb dX7_isWord_18 rfl (lv_at hl 0 rfl) ?_
        refine lv_bipush (v := 99) hx hb dX7_isWord_19 (by decide) ?_
        refine lv_icmp_eq (tgt := 36) hx hb dX7_isWord_21 (by decide) (fun c4 => ?_) (fun c4 => ?_)
        · replace hG := wq_t c4 hG
          refine lv_iconst (v := 1) hx hb dX7_isWord_36 (by decide) ?_
          refine lv_goto (tgt := 41) hx hb dX7_isWord_37 (by decide) ?_
          exact W.zret (v := 1) hx hb hr (wq_Z1_n (Or.inr rfl)) (fun t ht hW => ⟨⟨1, (), rfl, ⟨Option.some.inj hG, (Or.inr rfl)⟩, trivial⟩, hS.F ht⟩) hS.2.2 dX7_isWord_41
        · replace hG := wq_f c4 hG
          refine lv_iload_n hx hb dX7_isWord_24 rfl (lv_at hl 0 rfl) ?_
          refine lv_bipush (v := 120) hx hb dX7_isWord_25 (by decide) ?_
          refine lv_icmp_eq (tgt := 36) hx hb dX7_isWord_27 (by decide) (fun c5 => ?_) (fun c5 => ?_)
          · replace hG := wq_t c5 hG
            refine lv_iconst (v := 1) hx hb dX7_isWord_36 (by decide) ?_
            refine lv_goto (tgt := 41) hx hb dX7_isWord_37 (by decide) ?_
            exact W.zret (v := 1) hx hb hr (wq_Z1_n (Or.inr rfl)) (fun t ht hW => ⟨⟨1, (), rfl, ⟨Option.some.inj hG, (Or.inr rfl)⟩, trivial⟩, hS.F ht⟩) hS.2.2 dX7_isWord_41
          · replace hG := wq_f c5 hG
            refine lv_iload_n hx hb dX7_isWord_30 rfl (lv_at hl 0 rfl) ?_
            refine lv_bipush (v := 122) hx hb dX7_isWord_31 (by decide) ?_
            refine lv_icmp_ne (tgt := 40) hx hb dX7_isWord_33 (by decide) (fun c6 => ?_) (fun c6 => ?_)
            · replace hG := wq_f c6 hG
              refine lv_iconst (v := 0) hx hb dX7_isWord_40 (by decide) ?_
              exact W.zret (v := 0) hx hb hr (wq_Z1_n (Or.inl rfl)) (fun t ht hW => ⟨⟨0, (), rfl, ⟨Option.some.inj hG, (Or.inl rfl)⟩, trivial⟩, hS.F ht⟩) hS.2.2 dX7_isWord_41
            · replace hG := wq_t c6 hG
              refine lv_iconst (v := 1) hx hb dX7_isWord_36 (by decide) ?_
              refine lv_goto (tgt := 41) hx hb dX7_isWord_37 (by decide) ?_
              exact W.zret (v := 1) hx hb hr (wq_Z1_n (Or.inr rfl)) (fun t ht hW => ⟨⟨1, (), rfl, ⟨Option.some.inj hG, (Or.inr rfl)⟩, trivial⟩, hS.F ht⟩) hS.2.2 dX7_isWord_41

theorem hdV_X7_token : yX7_token.cls = RX7 ∧ yX7_token.cls ≠ "java/lang/invoke/MethodHandle" ∧ yX7_token.cls ≠ "java/lang/invoke/VarHandle" ∧ (parseMethodDescriptor yX7_token.desc).map (fun d => d.parameters.length) = some 0 := by decide +kernel
set_option maxHeartbeats 4000000 in
set_option maxRecDepth 100000 in
theorem C_X7_token (l : Launch) (dC : Nat → ClassId) (dI : Nat → Nat → Nat) (cI cJ cZ : ClassId) (qa : Nat → Nat) (sz : Nat) (m_trace : Int64) (m_text : Nat → Int32) (m_typed : Int32) (m_told : Nat → Int32) (m_draft : Nat → Int32) (m_s : Nat → Int32) (m_past : Nat → Int32) (m_known : Int32) (m_images : Nat → Int32) (m_kept : Nat → Int32) (m_notes : Nat → Int32) (m_noted : Int32) (m_at : Int32) (m_sort : Int32) (m_start : Int32) (m_value : Int32) (m_steps : Nat → Int32) (m_rows : Nat → Int32) (m_held : Nat → Int32) (r_m_at : Int32) (r_m_sort : Int32) (r_m_start : Int32) (r_m_value : Int32) (hG : gX7_token m_text m_typed m_at m_sort m_start m_value = some (r_m_at, r_m_sort, r_m_start, r_m_value)) : Met l yX7_token wsX7_token ({ frames := 2, cells := 0, slots := 0, locals := 42 } : Room) (va_Pc [.ref (qa 0)] (wq_pw (dC, dI) [(cI, .int), (cJ, .long), (cZ, .boolean)] (wcM qa cI cJ cZ m_trace m_text m_typed m_told m_draft m_s m_past m_known m_images m_kept m_notes m_noted m_at m_sort m_start m_value m_steps m_rows m_held) sz)) (wq_Wv (dC, dI) (wcM qa cI cJ cZ m_trace m_text m_typed m_told m_draft m_s m_past m_known m_images m_kept m_notes m_noted r_m_at r_m_sort r_m_start r_m_value m_steps m_rows m_held) (va_A (wcM qa cI cJ cZ m_trace m_text m_typed m_told m_draft m_s m_past m_known m_images m_kept m_notes m_noted m_at m_sort m_start m_value m_steps m_rows m_held) sz)) 0 0 (va_A (wcM qa cI cJ cZ m_trace m_text m_typed m_told m_draft m_s m_past m_known m_images m_kept m_notes m_noted m_at m_sort m_start m_value m_steps m_rows m_held) sz) := by
  refine Met.ofW (cc := cX7_token) (maxL := 2) (ret := none) (by decide) rfl ?_
  intro p e s m args below meth c s₁ B hml hv
  obtain ⟨rfl, hsz, hP, hK, hD0, hE⟩ := hv
  have hx := B.exec
  have hb := B.bytes
  have hr := B.returns
  have hts := atoms_spec (ws := wsX7_token) B.pre
  have hown : s.vm.findClass RX7 = some m.cls := findClass_of_methodNamed B.named
  have hlocks := B.notSynchronized
  subst hsz
  have hD := hD0.self (sz := s.heap.size)
  generalize hAe : va_A (wcM qa cI cJ cZ m_trace m_text m_typed m_told m_draft m_s m_past m_known m_images m_kept m_notes m_noted m_at m_sort m_start m_value m_steps m_rows m_held) s.heap.size = A at hD hE ⊢
  have hA : ∀ q : Nat, s.heap.size ≤ q → A q := fun q h => by rw [← hAe]; exact Or.inr h
  have hS : va_S A s.heap s.heap [] := va_S.rf
  have hinX7 : ∀ w ∈ u_ws RX7 TX7 19, w ∈ wsX7_token := by decide +kernel
  have k1 := hts (.fieldLink RX7 59 "DoorMorningsModel" "at" "I") (by decide +kernel)
  have k2 := hts (.fieldLink RX7 79 "DoorMorningsModel" "value" "I") (by decide +kernel)
  have k3 := hts (.fieldLink RX7 7 "DoorMorningsModel" "text" "[I") (by decide +kernel)
  have k4 := hts (.fieldLink RX7 66 "DoorMorningsModel" "start" "I") (by decide +kernel)
  have k5 := hts (.fieldLink RX7 76 "DoorMorningsModel" "sort" "I") (by decide +kernel)
  have hl := lv_entry ([.ref (qa 0)]) (n := 2) (Nat.le_of_ble_eq_true rfl)
  rw [lg_entry_eq]
  generalize (lg_sl ([.ref (qa 0)]) ++ List.replicate (2 - (lg_sl ([.ref (qa 0)])).length) Slot.unset).toArray = ls at hl ⊢
  have hl : lv_has ls 2 [(0, .ref (qa 0))] := hl
  have hL130 : ∀ (z_m_sort : Int32) (z_m_start : Int32) (x1 : Int32) (n : Nat) (z_m_at : Int32) (z_m_value : Int32) (H : Heap) (locs : List Loc) (ls : Array Slot), gX7_token_L130 m_text m_typed z_m_sort z_m_start x1 n z_m_at z_m_value = some (r_m_at, r_m_sort, r_m_start, r_m_value) → va_P (dC, dI) vwCl (wcM qa cI cJ cZ m_trace m_text m_typed m_told m_draft m_s m_past m_known m_images m_kept m_notes m_noted z_m_at z_m_sort z_m_start z_m_value m_steps m_rows m_held) H → va_D A (wcM qa cI cJ cZ m_trace m_text m_typed m_told m_draft m_s m_past m_known m_images m_kept m_notes m_noted z_m_at z_m_sort z_m_start z_m_value m_steps m_rows m_held) → va_S A s.heap H locs → lv_has ls 2 [(0, .ref (qa 0)), (1, .int x1)] → W p l e (headSpec wsX7_token ({ frames := 2, cells := 0, slots := 0, locals := 42 } : Room)).room s m ([.ref (qa 0)] : List Value).toArray below meth c H locs 0 0 (MQ below (wq_Wv (dC, dI) (wcM qa cI cJ cZ m_trace m_text m_typed m_told m_draft m_s m_past m_known m_images m_kept m_notes m_noted r_m_at r_m_sort r_m_start r_m_value m_steps m_rows m_held) A) ([.ref (qa 0)] : List Value).toArray s 0 0 A) (F0 m 130 ls []) := by
    intro z_m_sort z_m_start x1 n
    induction n with
    | zero =>
      intro z_m_at z_m_value H locs ls hG
      exact absurd (show (none : Option (Int32 × Int32 × Int32 × Int32)) = some (r_m_at, r_m_sort, r_m_start, r_m_value) from hG) (by intro h9; cases h9)
    | succ n ih130 =>
      intro z_m_at z_m_value H locs ls hG hP hD hS hl
      rw [gX7_token_L130] at hG
      refine lv_aload_n hx hb dX7_token_130 rfl (lv_at hl 0 rfl) ?_
      refine lv_aload_n hx hb dX7_token_131 rfl (lv_at hl 0 rfl) ?_
      refine va_get (D := (dC, dI)) (ci := 7) (v := .int z_m_at) (C := RX7) (T := TX7) (N := 19) hx hb hts hinX7 hown hK hP 0 rfl rfl 12 (by decide) k1 (fun _ h9 => h9) rfl dX7_token_132 ?_
      obtain ⟨v2, g1, hG⟩ := wq_b1_s hG
      refine wq_ci (v := v2) (B := wq_tr) (va_runV (As := [.int z_m_at]) (rest := []) ⟨hx, hb, hml, hown, hts⟩ (C_X7_letterAt l dC dI cI cJ cZ qa H.size m_trace m_text m_typed m_told m_draft m_s m_past m_known m_images m_kept m_notes m_noted z_m_at z_m_sort z_m_start z_m_value m_steps m_rows m_held z_m_at v2 g1) (cwV 1 hts gX7_token_X7_letterAt rfl rfl rfl hdV_X7_letterAt ⟨Nat.le_of_ble_eq_true rfl, Nat.le_of_ble_eq_true rfl⟩) (wq_ppV hK hP hE hS hA (ci := 7) (q0 := 0) rfl rfl) rfl rfl hl.1 rfl (lv_room (Nat.le_of_ble_eq_true rfl)) dX7_token_135 ⟨Nat.zero_le _, Nat.zero_le _⟩) hS hA (fun H locs b3 hk hS => ?_)
      replace hP := wq_kp hP hk
      clear hk
      obtain ⟨v5, g4, hG⟩ := wq_b1_s hG
      refine wq_ci (v := v5) (B := wq_Z1) (va_runS (As := [.int v2]) (rest := []) ⟨hx, hb, hml, hown, hts⟩ (C_X7_isDigit l dC dI cI cJ cZ qa H.size  v2 v5 g4) (va_cwS 1 hts gX7_token_X7_isDigit rfl rfl rfl hdS_X7_isDigit ⟨Nat.le_of_ble_eq_true rfl, Nat.le_of_ble_eq_true rfl⟩) (wq_ppS hK (hP.sub (ws' := []) [] rfl) hE hS hA) rfl rfl hl.1 rfl (lv_room (Nat.le_of_ble_eq_true rfl)) dX7_token_138 ⟨Nat.zero_le _, Nat.zero_le _⟩) hS hA (fun H locs b6 hk hS => ?_)
      replace hP := wq_kp hP hk
      clear hk
      refine lv_if_eq (tgt := 202) hx hb dX7_token_141 (by decide) (fun c7 => ?_) (fun c7 => ?_)
      · replace hG := wq_t c7 hG
        obtain ⟨e0, e1, e2, e3⟩ := wq_j4 hG
        subst e0
        subst e1
        subst e2
        subst e3
        exact W.vret hx hb hr (fun t ht hW => ⟨⟨(), rfl, trivial, by rw [ht]; exact hP, hD⟩, hS.F ht⟩) hS.2.2 dX7_token_202
      · replace hG := wq_f c7 hG
        refine lv_aload_n hx hb dX7_token_144 rfl (lv_at hl 0 rfl) ?_
        refine lv_iload_n hx hb dX7_token_145 rfl (lv_at hl 1 rfl) ?_
        refine lv_bipush (v := 48) hx hb dX7_token_146 (by decide) ?_
        refine lv_icmp_eq (tgt := 160) hx hb dX7_token_148 (by decide) (fun c8 => ?_) (fun c8 => ?_)
        · replace hG := wq_t c8 hG
          refine lv_sipush (v := 1000) hx hb dX7_token_160 (by decide) ?_
          refine lv_goto (tgt := 186) hx hb dX7_token_163 (by decide) ?_
          refine va_put (D := (dC, dI)) (ci := 7) (v := .int 1000) (ty := tyX7 15) (C := RX7) (T := TX7) (N := 19) hx hb hts hinX7 tyX7 tyX7_ok nmX7 hown hK hP hD hS 0 rfl rfl 15 (by decide) k2 (fun _ h9 => h9) rfl (tyX7_ok 15 (by decide)) rfl rfl (Nat.le_of_ble_eq_true rfl) dX7_token_186 (fun H locs hP hD hS => ?_)
          replace hP : va_P (dC, dI) vwCl (wcM qa cI cJ cZ m_trace m_text m_typed m_told m_draft m_s m_past m_known m_images m_kept m_notes m_noted z_m_at z_m_sort z_m_start 1000 m_steps m_rows m_held) H := hP
          replace hD : va_D A (wcM qa cI cJ cZ m_trace m_text m_typed m_told m_draft m_s m_past m_known m_images m_kept m_notes m_noted z_m_at z_m_sort z_m_start 1000 m_steps m_rows m_held) := hD
          refine lv_aload_n hx hb dX7_token_189 rfl (lv_at hl 0 rfl) ?_
          refine lv_dup hx hb dX7_token_190 rfl ?_
          refine va_get (D := (dC, dI)) (ci := 7) (v := .int z_m_at) (C := RX7) (T := TX7) (N := 19) hx hb hts hinX7 hown hK hP 0 rfl rfl 12 (by decide) k1 (fun _ h9 => h9) rfl dX7_token_191 ?_
          refine lv_iconst (v := 1) hx hb dX7_token_194 (by decide) ?_
          refine lv_iadd hx hb dX7_token_195 ?_
          refine va_put (D := (dC, dI)) (ci := 7) (v := .int (z_m_at + 1)) (ty := tyX7 12) (C := RX7) (T := TX7) (N := 19) hx hb hts hinX7 tyX7 tyX7_ok nmX7 hown hK hP hD hS 0 rfl rfl 12 (by decide) k1 (fun _ h9 => h9) rfl (tyX7_ok 12 (by decide)) rfl rfl (Nat.le_of_ble_eq_true rfl) dX7_token_196 (fun H locs hP hD hS => ?_)
          replace hP : va_P (dC, dI) vwCl (wcM qa cI cJ cZ m_trace m_text m_typed m_told m_draft m_s m_past m_known m_images m_kept m_notes m_noted (z_m_at + 1) z_m_sort z_m_start 1000 m_steps m_rows m_held) H := hP
          replace hD : va_D A (wcM qa cI cJ cZ m_trace m_text m_typed m_told m_draft m_s m_past m_known m_images m_kept m_notes m_noted (z_m_at + 1) z_m_sort z_m_start 1000 m_steps m_rows m_held) := hD
          refine lv_goto (tgt := 130) hx hb dX7_token_199 (by decide) ?_
          exact ih130 (z_m_at + 1) 1000 _ _ _ hG hP hD hS (lv_sub hl [0, 1] rfl)
        · replace hG := wq_f c8 hG
          refine lv_aload_n hx hb dX7_token_151 rfl (lv_at hl 0 rfl) ?_
          refine va_get (D := (dC, dI)) (ci := 7) (v := .int z_m_value) (C := RX7) (T := TX7) (N := 19) hx hb hts hinX7 hown hK hP 0 rfl rfl 15 (by decide) k2 (fun _ h9 => h9) rfl dX7_token_152 ?_
          refine lv_bipush (v := 99) hx hb dX7_token_155 (by decide) ?_
          refine lv_icmp_le (tgt := 166) hx hb dX7_token_157 (by decide) (fun c9 => ?_) (fun c9 => ?_)
          · replace hG := wq_t c9 hG
            refine lv_bipush (v := 10) hx hb dX7_token_166 (by decide) ?_
            refine lv_aload_n hx hb dX7_token_168 rfl (lv_at hl 0 rfl) ?_
            refine va_get (D := (dC, dI)) (ci := 7) (v := .int z_m_value) (C := RX7) (T := TX7) (N := 19) hx hb hts hinX7 hown hK hP 0 rfl rfl 15 (by decide) k2 (fun _ h9 => h9) rfl dX7_token_169 ?_
            refine lv_imul hx hb dX7_token_172 ?_
            refine lv_aload_n hx hb dX7_token_173 rfl (lv_at hl 0 rfl) ?_
            refine va_get (D := (dC, dI)) (ci := 7) (v := .ref (qa 1)) (C := RX7) (T := TX7) (N := 19) hx hb hts hinX7 hown hK hP 0 rfl rfl 1 (by decide) k3 (fun _ h9 => h9) rfl dX7_token_174 ?_
            refine lv_aload_n hx hb dX7_token_177 rfl (lv_at hl 0 rfl) ?_
            refine va_get (D := (dC, dI)) (ci := 7) (v := .int z_m_at) (C := RX7) (T := TX7) (N := 19) hx hb hts hinX7 hown hK hP 0 rfl rfl 12 (by decide) k1 (fun _ h9 => h9) rfl dX7_token_178 ?_
            obtain ⟨h10, hG⟩ := wq_chk_s hG
            refine wq_iald (D := (dC, dI)) hx hb hK hP 1 0 rfl rfl h10 (Int32.toNatClampNeg z_m_at) rfl dX7_token_181 ?_
            refine lv_iadd hx hb dX7_token_182 ?_
            refine lv_bipush (v := 48) hx hb dX7_token_183 (by decide) ?_
            refine lv_isub hx hb dX7_token_185 ?_
            refine va_put (D := (dC, dI)) (ci := 7) (v := .int (((10 * z_m_value) + (m_text (Int32.toNatClampNeg z_m_at))) - 48)) (ty := tyX7 15) (C := RX7) (T := TX7) (N := 19) hx hb hts hinX7 tyX7 tyX7_ok nmX7 hown hK hP hD hS 0 rfl rfl 15 (by decide) k2 (fun _ h9 => h9) rfl (tyX7_ok 15 (by decide)) rfl rfl (Nat.le_of_ble_eq_true rfl) dX7_token_186 (fun H locs hP hD hS => ?_)
            replace hP : va_P (dC, dI) vwCl (wcM qa cI cJ cZ m_trace m_text m_typed m_told m_draft m_s m_past m_known m_images m_kept m_notes m_noted z_m_at z_m_sort z_m_start (((10 * z_m_value) + (m_text (Int32.toNatClampNeg z_m_at))) - 48) m_steps m_rows m_held) H := hP
            replace hD : va_D A (wcM qa cI cJ cZ m_trace m_text m_typed m_told m_draft m_s m_past m_known m_images m_kept m_notes m_noted z_m_at z_m_sort z_m_start (((10 * z_m_value) + (m_text (Int32.toNatClampNeg z_m_at))) - 48) m_steps m_rows m_held) := hD
            refine lv_aload_n hx hb dX7_token_189 rfl (lv_at hl 0 rfl) ?_
            refine lv_dup hx hb dX7_token_190 rfl ?_
            refine va_get (D := (dC, dI)) (ci := 7) (v := .int z_m_at) (C := RX7) (T := TX7) (N := 19) hx hb hts hinX7 hown hK hP 0 rfl rfl 12 (by decide) k1 (fun _ h9 => h9) rfl dX7_token_191 ?_
            refine lv_iconst (v := 1) hx hb dX7_token_194 (by decide) ?_
            refine lv_iadd hx hb dX7_token_195 ?_
            refine va_put (D := (dC, dI)) (ci := 7) (v := .int (z_m_at + 1)) (ty := tyX7 12) (C := RX7) (T := TX7) (N := 19) hx hb hts hinX7 tyX7 tyX7_ok nmX7 hown hK hP hD hS 0 rfl rfl 12 (by decide) k1 (fun _ h9 => h9) rfl (tyX7_ok 12 (by decide)) rfl rfl (Nat.le_of_ble_eq_true rfl) dX7_token_196 (fun H locs hP hD hS => ?_)
            replace hP : va_P (dC, dI) vwCl (wcM qa cI cJ cZ m_trace m_text m_typed m_told m_draft m_s m_past m_known m_images m_kept m_notes m_noted (z_m_at + 1) z_m_sort z_m_start (((10 * z_m_value) + (m_text (Int32.toNatClampNeg z_m_at))) - 48) m_steps m_rows m_held) H := hP
            replace hD : va_D A (wcM qa cI cJ cZ m_trace m_text m_typed m_told m_draft m_s m_past m_known m_images m_kept m_notes m_noted (z_m_at + 1) z_m_sort z_m_start (((10 * z_m_value) + (m_text (Int32.toNatClampNeg z_m_at))) - 48) m_steps m_rows m_held) := hD
            refine lv_goto (tgt := 130) hx hb dX7_token_199 (by decide) ?_
            exact ih130 (z_m_at + 1) (((10 * z_m_value) + (m_text (Int32.toNatClampNeg z_m_at))) - 48) _ _ _ hG hP hD hS (lv_sub hl [0, 1] rfl)
          · replace hG := wq_f c9 hG
            refine lv_sipush (v := 1000) hx hb dX7_token_160 (by decide) ?_
            refine lv_goto (tgt := 186) hx hb dX7_token_163 (by decide) ?_
            refine va_put (D := (dC, dI)) (ci := 7) (v := .int 1000) (ty := tyX7 15) (C := RX7) (T := TX7) (N := 19) hx hb hts hinX7 tyX7 tyX7_ok nmX7 hown hK hP hD hS 0 rfl rfl 15 (by decide) k2 (fun _ h9 => h9) rfl (tyX7_ok 15 (by decide)) rfl rfl (Nat.le_of_ble_eq_true rfl) dX7_token_186 (fun H locs hP hD hS => ?_)
            replace hP : va_P (dC, dI) vwCl (wcM qa cI cJ cZ m_trace m_text m_typed m_told m_draft m_s m_past m_known m_images m_kept m_notes m_noted z_m_at z_m_sort z_m_start 1000 m_steps m_rows m_held) H := hP
            replace hD : va_D A (wcM qa cI cJ cZ m_trace m_text m_typed m_told m_draft m_s m_past m_known m_images m_kept m_notes m_noted z_m_at z_m_sort z_m_start 1000 m_steps m_rows m_held) := hD
            refine lv_aload_n hx hb dX7_token_189 rfl (lv_at hl 0 rfl) ?_
            refine lv_dup hx hb dX7_token_190 rfl ?_
            refine va_get (D := (dC, dI)) (ci := 7) (v := .int z_m_at) (C := RX7) (T := TX7) (N := 19) hx hb hts hinX7 hown hK hP 0 rfl rfl 12 (by decide) k1 (fun _ h9 => h9) rfl dX7_token_191 ?_
            refine lv_iconst (v := 1) hx hb dX7_token_194 (by decide) ?_
            refine lv_iadd hx hb dX7_token_195 ?_
            refine va_put (D := (dC, dI)) (ci := 7) (v := .int (z_m_at + 1)) (ty := tyX7 12) (C := RX7) (T := TX7) (N := 19) hx hb hts hinX7 tyX7 tyX7_ok nmX7 hown hK hP hD hS 0 rfl rfl 12 (by decide) k1 (fun _ h9 => h9) rfl (tyX7_ok 12 (by decide)) rfl rfl (Nat.le_of_ble_eq_true rfl) dX7_token_196 (fun H locs hP hD hS => ?_)
            replace hP : va_P (dC, dI) vwCl (wcM qa cI cJ cZ m_trace m_text m_typed m_told m_draft m_s m_past m_known m_images m_kept m_notes m_noted (z_m_at + 1) z_m_sort z_m_start 1000 m_steps m_rows m_held) H := hP
            replace hD : va_D A (wcM qa cI cJ cZ m_trace m_text m_typed m_told m_draft m_s m_past m_known m_images m_kept m_notes m_noted (z_m_at + 1) z_m_sort z_m_start 1000 m_steps m_rows m_held) := hD
            refine lv_goto (tgt := 130) hx hb dX7_token_199 (by decide) ?_
            exact ih130 (z_m_at + 1) 1000 _ _ _ hG hP hD hS (lv_sub hl [0, 1] rfl)
  have hL0 : ∀ (z_m_sort : Int32) (z_m_start : Int32) (z_m_value : Int32) (n : Nat) (z_m_at : Int32) (H : Heap) (locs : List Loc) (ls : Array Slot), gX7_token_L0 m_text m_typed z_m_sort z_m_start z_m_value n z_m_at = some (r_m_at, r_m_sort, r_m_start, r_m_value) → va_P (dC, dI) vwCl (wcM qa cI cJ cZ m_trace m_text m_typed m_told m_draft m_s m_past m_known m_images m_kept m_notes m_noted z_m_at z_m_sort z_m_start z_m_value m_steps m_rows m_held) H → va_D A (wcM qa cI cJ cZ m_trace m_text m_typed m_told m_draft m_s m_past m_known m_images m_kept m_notes m_noted z_m_at z_m_sort z_m_start z_m_value m_steps m_rows m_held) → va_S A s.heap H locs → lv_has ls 2 [(0, .ref (qa 0))] → W p l e (headSpec wsX7_token ({ frames := 2, cells := 0, slots := 0, locals := 42 } : Room)).room s m ([.ref (qa 0)] : List Value).toArray below meth c H locs 0 0 (MQ below (wq_Wv (dC, dI) (wcM qa cI cJ cZ m_trace m_text m_typed m_told m_draft m_s m_past m_known m_images m_kept m_notes m_noted r_m_at r_m_sort r_m_start r_m_value m_steps m_rows m_held) A) ([.ref (qa 0)] : List Value).toArray s 0 0 A) (F0 m 0 ls []) := by
    intro z_m_sort z_m_start z_m_value n
    induction n with
    | zero =>
      intro z_m_at H locs ls hG
      exact absurd (show (none : Option (Int32 × Int32 × Int32 × Int32)) = some (r_m_at, r_m_sort, r_m_start, r_m_value) from hG) (by intro h9; cases h9)
    | succ n ih0 =>
      intro z_m_at H locs ls hG hP hD hS hl
      rw [gX7_token_L0] at hG
      refine lv_aload_n hx hb dX7_token_0 rfl (lv_at hl 0 rfl) ?_
      refine lv_aload_n hx hb dX7_token_1 rfl (lv_at hl 0 rfl) ?_
      refine va_get (D := (dC, dI)) (ci := 7) (v := .int z_m_at) (C := RX7) (T := TX7) (N := 19) hx hb hts hinX7 hown hK hP 0 rfl rfl 12 (by decide) k1 (fun _ h9 => h9) rfl dX7_token_2 ?_
      obtain ⟨v12, g11, hG⟩ := wq_b1_s hG
      refine wq_ci (v := v12) (B := wq_tr) (va_runV (As := [.int z_m_at]) (rest := []) ⟨hx, hb, hml, hown, hts⟩ (C_X7_letterAt l dC dI cI cJ cZ qa H.size m_trace m_text m_typed m_told m_draft m_s m_past m_known m_images m_kept m_notes m_noted z_m_at z_m_sort z_m_start z_m_value m_steps m_rows m_held z_m_at v12 g11) (cwV 1 hts gX7_token_X7_letterAt rfl rfl rfl hdV_X7_letterAt ⟨Nat.le_of_ble_eq_true rfl, Nat.le_of_ble_eq_true rfl⟩) (wq_ppV hK hP hE hS hA (ci := 7) (q0 := 0) rfl rfl) rfl rfl hl.1 rfl (lv_room (Nat.le_of_ble_eq_true rfl)) dX7_token_5 ⟨Nat.zero_le _, Nat.zero_le _⟩) hS hA (fun H locs b13 hk hS => ?_)
      replace hP := wq_kp hP hk
      clear hk
      refine lv_bipush (v := 32) hx hb dX7_token_8 (by decide) ?_
      refine lv_icmp_ne (tgt := 26) hx hb dX7_token_10 (by decide) (fun c14 => ?_) (fun c14 => ?_)
      · replace hG := wq_f c14 hG
        refine lv_aload_n hx hb dX7_token_26 rfl (lv_at hl 0 rfl) ?_
        refine lv_aload_n hx hb dX7_token_27 rfl (lv_at hl 0 rfl) ?_
        refine va_get (D := (dC, dI)) (ci := 7) (v := .int z_m_at) (C := RX7) (T := TX7) (N := 19) hx hb hts hinX7 hown hK hP 0 rfl rfl 12 (by decide) k1 (fun _ h9 => h9) rfl dX7_token_28 ?_
        refine va_put (D := (dC, dI)) (ci := 7) (v := .int z_m_at) (ty := tyX7 14) (C := RX7) (T := TX7) (N := 19) hx hb hts hinX7 tyX7 tyX7_ok nmX7 hown hK hP hD hS 0 rfl rfl 14 (by decide) k4 (fun _ h9 => h9) rfl (tyX7_ok 14 (by decide)) rfl rfl (Nat.le_of_ble_eq_true rfl) dX7_token_31 (fun H locs hP hD hS => ?_)
        replace hP : va_P (dC, dI) vwCl (wcM qa cI cJ cZ m_trace m_text m_typed m_told m_draft m_s m_past m_known m_images m_kept m_notes m_noted z_m_at z_m_sort z_m_at z_m_value m_steps m_rows m_held) H := hP
        replace hD : va_D A (wcM qa cI cJ cZ m_trace m_text m_typed m_told m_draft m_s m_past m_known m_images m_kept m_notes m_noted z_m_at z_m_sort z_m_at z_m_value m_steps m_rows m_held) := hD
        refine lv_aload_n hx hb dX7_token_34 rfl (lv_at hl 0 rfl) ?_
        refine lv_aload_n hx hb dX7_token_35 rfl (lv_at hl 0 rfl) ?_
        refine va_get (D := (dC, dI)) (ci := 7) (v := .int z_m_at) (C := RX7) (T := TX7) (N := 19) hx hb hts hinX7 hown hK hP 0 rfl rfl 12 (by decide) k1 (fun _ h9 => h9) rfl dX7_token_36 ?_
        obtain ⟨v16, g15, hG⟩ := wq_b1_s hG
        refine wq_ci (v := v16) (B := wq_tr) (va_runV (As := [.int z_m_at]) (rest := []) ⟨hx, hb, hml, hown, hts⟩ (C_X7_letterAt l dC dI cI cJ cZ qa H.size m_trace m_text m_typed m_told m_draft m_s m_past m_known m_images m_kept m_notes m_noted z_m_at z_m_sort z_m_at z_m_value m_steps m_rows m_held z_m_at v16 g15) (cwV 1 hts gX7_token_X7_letterAt rfl rfl rfl hdV_X7_letterAt ⟨Nat.le_of_ble_eq_true rfl, Nat.le_of_ble_eq_true rfl⟩) (wq_ppV hK hP hE hS hA (ci := 7) (q0 := 0) rfl rfl) rfl rfl hl.1 rfl (lv_room (Nat.le_of_ble_eq_true rfl)) dX7_token_39 ⟨Nat.zero_le _, Nat.zero_le _⟩) hS hA (fun H locs b17 hk hS => ?_)
        replace hP := wq_kp hP hk
        clear hk
        refine lv_istore_n (lv' := [(1, .int v16), (0, .ref (qa 0))]) hx hb dX7_token_42 rfl hl (by decide) rfl (fun ls hl => ?_)
        refine lv_aload_n hx hb dX7_token_43 rfl (lv_at hl 1 rfl) ?_
        refine lv_iload_n hx hb dX7_token_44 rfl (lv_at hl 0 rfl) ?_
        refine lv_if_ge (tgt := 52) hx hb dX7_token_45 (by decide) (fun c18 => ?_) (fun c18 => ?_)
        · replace hG := wq_t c18 hG
          refine lv_iload_n hx hb dX7_token_52 rfl (lv_at hl 0 rfl) ?_
          obtain ⟨v20, g19, hG⟩ := wq_b1_s hG
          refine wq_ci (v := v20) (B := wq_Z1) (va_runS (As := [.int v16]) (rest := [.ref (qa 0)]) ⟨hx, hb, hml, hown, hts⟩ (C_X7_isWord l dC dI cI cJ cZ qa H.size  v16 v20 g19) (va_cwS 1 hts gX7_token_X7_isWord rfl rfl rfl hdS_X7_isWord ⟨Nat.le_of_ble_eq_true rfl, Nat.le_of_ble_eq_true rfl⟩) (wq_ppS hK (hP.sub (ws' := []) [] rfl) hE hS hA) rfl rfl hl.1 rfl (lv_room (Nat.le_of_ble_eq_true rfl)) dX7_token_53 ⟨Nat.zero_le _, Nat.zero_le _⟩) hS hA (fun H locs b21 hk hS => ?_)
          replace hP := wq_kp hP hk
          clear hk
          refine lv_if_eq (tgt := 63) hx hb dX7_token_56 (by decide) (fun c22 => ?_) (fun c22 => ?_)
          · replace hG := wq_t c22 hG
            refine lv_iload_n hx hb dX7_token_63 rfl (lv_at hl 0 rfl) ?_
            obtain ⟨v24, g23, hG⟩ := wq_b1_s hG
            refine wq_ci (v := v24) (B := wq_Z1) (va_runS (As := [.int v16]) (rest := [.ref (qa 0)]) ⟨hx, hb, hml, hown, hts⟩ (C_X7_isDigit l dC dI cI cJ cZ qa H.size  v16 v24 g23) (va_cwS 1 hts gX7_token_X7_isDigit rfl rfl rfl hdS_X7_isDigit ⟨Nat.le_of_ble_eq_true rfl, Nat.le_of_ble_eq_true rfl⟩) (wq_ppS hK (hP.sub (ws' := []) [] rfl) hE hS hA) rfl rfl hl.1 rfl (lv_room (Nat.le_of_ble_eq_true rfl)) dX7_token_64 ⟨Nat.zero_le _, Nat.zero_le _⟩) hS hA (fun H locs b25 hk hS => ?_)
            replace hP := wq_kp hP hk
            clear hk
            refine lv_if_eq (tgt := 74) hx hb dX7_token_67 (by decide) (fun c26 => ?_) (fun c26 => ?_)
            · replace hG := wq_t c26 hG
              refine lv_iload_n hx hb dX7_token_74 rfl (lv_at hl 0 rfl) ?_
              refine lv_bipush (v := 59) hx hb dX7_token_75 (by decide) ?_
              refine lv_icmp_ne (tgt := 84) hx hb dX7_token_77 (by decide) (fun c27 => ?_) (fun c27 => ?_)
              · replace hG := wq_f c27 hG
                refine lv_iconst (v := 4) hx hb dX7_token_84 (by decide) ?_
                refine va_put (D := (dC, dI)) (ci := 7) (v := .int 4) (ty := tyX7 13) (C := RX7) (T := TX7) (N := 19) hx hb hts hinX7 tyX7 tyX7_ok nmX7 hown hK hP hD hS 0 rfl rfl 13 (by decide) k5 (fun _ h9 => h9) rfl (tyX7_ok 13 (by decide)) rfl rfl (Nat.le_of_ble_eq_true rfl) dX7_token_85 (fun H locs hP hD hS => ?_)
                replace hP : va_P (dC, dI) vwCl (wcM qa cI cJ cZ m_trace m_text m_typed m_told m_draft m_s m_past m_known m_images m_kept m_notes m_noted z_m_at 4 z_m_at z_m_value m_steps m_rows m_held) H := hP
                replace hD : va_D A (wcM qa cI cJ cZ m_trace m_text m_typed m_told m_draft m_s m_past m_known m_images m_kept m_notes m_noted z_m_at 4 z_m_at z_m_value m_steps m_rows m_held) := hD
                refine lv_aload_n hx hb dX7_token_88 rfl (lv_at hl 1 rfl) ?_
                refine lv_iload_n hx hb dX7_token_89 rfl (lv_at hl 0 rfl) ?_
                refine va_put (D := (dC, dI)) (ci := 7) (v := .int v16) (ty := tyX7 15) (C := RX7) (T := TX7) (N := 19) hx hb hts hinX7 tyX7 tyX7_ok nmX7 hown hK hP hD hS 0 rfl rfl 15 (by decide) k2 (fun _ h9 => h9) rfl (tyX7_ok 15 (by decide)) rfl rfl (Nat.le_of_ble_eq_true rfl) dX7_token_90 (fun H locs hP hD hS => ?_)
                replace hP : va_P (dC, dI) vwCl (wcM qa cI cJ cZ m_trace m_text m_typed m_told m_draft m_s m_past m_known m_images m_kept m_notes m_noted z_m_at 4 z_m_at v16 m_steps m_rows m_held) H := hP
                replace hD : va_D A (wcM qa cI cJ cZ m_trace m_text m_typed m_told m_draft m_s m_past m_known m_images m_kept m_notes m_noted z_m_at 4 z_m_at v16 m_steps m_rows m_held) := hD
                refine lv_aload_n hx hb dX7_token_93 rfl (lv_at hl 1 rfl) ?_
                refine lv_dup hx hb dX7_token_94 rfl ?_
                refine va_get (D := (dC, dI)) (ci := 7) (v := .int z_m_at) (C := RX7) (T := TX7) (N := 19) hx hb hts hinX7 hown hK hP 0 rfl rfl 12 (by decide) k1 (fun _ h9 => h9) rfl dX7_token_95 ?_
                refine lv_aload_n hx hb dX7_token_98 rfl (lv_at hl 1 rfl) ?_
                refine va_get (D := (dC, dI)) (ci := 7) (v := .int 4) (C := RX7) (T := TX7) (N := 19) hx hb hts hinX7 hown hK hP 0 rfl rfl 13 (by decide) k5 (fun _ h9 => h9) rfl dX7_token_99 ?_
                refine lv_if_ne (tgt := 109) hx hb dX7_token_102 (by decide) (fun c28 => ?_) (fun c28 => absurd c28 (by decide))
                refine lv_iconst (v := 1) hx hb dX7_token_109 (by decide) ?_
                refine lv_iadd hx hb dX7_token_110 ?_
                refine va_put (D := (dC, dI)) (ci := 7) (v := .int (z_m_at + 1)) (ty := tyX7 12) (C := RX7) (T := TX7) (N := 19) hx hb hts hinX7 tyX7 tyX7_ok nmX7 hown hK hP hD hS 0 rfl rfl 12 (by decide) k1 (fun _ h9 => h9) rfl (tyX7_ok 12 (by decide)) rfl rfl (Nat.le_of_ble_eq_true rfl) dX7_token_111 (fun H locs hP hD hS => ?_)
                replace hP : va_P (dC, dI) vwCl (wcM qa cI cJ cZ m_trace m_text m_typed m_told m_draft m_s m_past m_known m_images m_kept m_notes m_noted (z_m_at + 1) 4 z_m_at v16 m_steps m_rows m_held) H := hP
                replace hD : va_D A (wcM qa cI cJ cZ m_trace m_text m_typed m_told m_draft m_s m_past m_known m_images m_kept m_notes m_noted (z_m_at + 1) 4 z_m_at v16 m_steps m_rows m_held) := hD
                refine lv_aload_n hx hb dX7_token_114 rfl (lv_at hl 1 rfl) ?_
                refine va_get (D := (dC, dI)) (ci := 7) (v := .int 4) (C := RX7) (T := TX7) (N := 19) hx hb hts hinX7 hown hK hP 0 rfl rfl 13 (by decide) k5 (fun _ h9 => h9) rfl dX7_token_115 ?_
                refine lv_iconst (v := 2) hx hb dX7_token_118 (by decide) ?_
                refine lv_icmp_ne (tgt := 202) hx hb dX7_token_119 (by decide) (fun c29 => ?_) (fun c29 => absurd c29 (by decide))
                obtain ⟨e0, e1, e2, e3⟩ := wq_j4 hG
                subst e0
                subst e1
                subst e2
                subst e3
                exact W.vret hx hb hr (fun t ht hW => ⟨⟨(), rfl, trivial, by rw [ht]; exact hP, hD⟩, hS.F ht⟩) hS.2.2 dX7_token_202
              · replace hG := wq_t c27 hG
                refine lv_iconst (v := 3) hx hb dX7_token_80 (by decide) ?_
                refine lv_goto (tgt := 85) hx hb dX7_token_81 (by decide) ?_
                refine va_put (D := (dC, dI)) (ci := 7) (v := .int 3) (ty := tyX7 13) (C := RX7) (T := TX7) (N := 19) hx hb hts hinX7 tyX7 tyX7_ok nmX7 hown hK hP hD hS 0 rfl rfl 13 (by decide) k5 (fun _ h9 => h9) rfl (tyX7_ok 13 (by decide)) rfl rfl (Nat.le_of_ble_eq_true rfl) dX7_token_85 (fun H locs hP hD hS => ?_)
                replace hP : va_P (dC, dI) vwCl (wcM qa cI cJ cZ m_trace m_text m_typed m_told m_draft m_s m_past m_known m_images m_kept m_notes m_noted z_m_at 3 z_m_at z_m_value m_steps m_rows m_held) H := hP
                replace hD : va_D A (wcM qa cI cJ cZ m_trace m_text m_typed m_told m_draft m_s m_past m_known m_images m_kept m_notes m_noted z_m_at 3 z_m_at z_m_value m_steps m_rows m_held) := hD
                refine lv_aload_n hx hb dX7_token_88 rfl (lv_at hl 1 rfl) ?_
                refine lv_iload_n hx hb dX7_token_89 rfl (lv_at hl 0 rfl) ?_
                refine va_put (D := (dC, dI)) (ci := 7) (v := .int v16) (ty := tyX7 15) (C := RX7) (T := TX7) (N := 19) hx hb hts hinX7 tyX7 tyX7_ok nmX7 hown hK hP hD hS 0 rfl rfl 15 (by decide) k2 (fun _ h9 => h9) rfl (tyX7_ok 15 (by decide)) rfl rfl (Nat.le_of_ble_eq_true rfl) dX7_token_90 (fun H locs hP hD hS => ?_)
                replace hP : va_P (dC, dI) vwCl (wcM qa cI cJ cZ m_trace m_text m_typed m_told m_draft m_s m_past m_known m_images m_kept m_notes m_noted z_m_at 3 z_m_at v16 m_steps m_rows m_held) H := hP
                replace hD : va_D A (wcM qa cI cJ cZ m_trace m_text m_typed m_told m_draft m_s m_past m_known m_images m_kept m_notes m_noted z_m_at 3 z_m_at v16 m_steps m_rows m_held) := hD
                refine lv_aload_n hx hb dX7_token_93 rfl (lv_at hl 1 rfl) ?_
                refine lv_dup hx hb dX7_token_94 rfl ?_
                refine va_get (D := (dC, dI)) (ci := 7) (v := .int z_m_at) (C := RX7) (T := TX7) (N := 19) hx hb hts hinX7 hown hK hP 0 rfl rfl 12 (by decide) k1 (fun _ h9 => h9) rfl dX7_token_95 ?_
                refine lv_aload_n hx hb dX7_token_98 rfl (lv_at hl 1 rfl) ?_
                refine va_get (D := (dC, dI)) (ci := 7) (v := .int 3) (C := RX7) (T := TX7) (N := 19) hx hb hts hinX7 hown hK hP 0 rfl rfl 13 (by decide) k5 (fun _ h9 => h9) rfl dX7_token_99 ?_
                refine lv_if_ne (tgt := 109) hx hb dX7_token_102 (by decide) (fun c30 => ?_) (fun c30 => absurd c30 (by decide))
                refine lv_iconst (v := 1) hx hb dX7_token_109 (by decide) ?_
                refine lv_iadd hx hb dX7_token_110 ?_
                refine va_put (D := (dC, dI)) (ci := 7) (v := .int (z_m_at + 1)) (ty := tyX7 12) (C := RX7) (T := TX7) (N := 19) hx hb hts hinX7 tyX7 tyX7_ok nmX7 hown hK hP hD hS 0 rfl rfl 12 (by decide) k1 (fun _ h9 => h9) rfl (tyX7_ok 12 (by decide)) rfl rfl (Nat.le_of_ble_eq_true rfl) dX7_token_111 (fun H locs hP hD hS => ?_)
                replace hP : va_P (dC, dI) vwCl (wcM qa cI cJ cZ m_trace m_text m_typed m_told m_draft m_s m_past m_known m_images m_kept m_notes m_noted (z_m_at + 1) 3 z_m_at v16 m_steps m_rows m_held) H := hP
                replace hD : va_D A (wcM qa cI cJ cZ m_trace m_text m_typed m_told m_draft m_s m_past m_known m_images m_kept m_notes m_noted (z_m_at + 1) 3 z_m_at v16 m_steps m_rows m_held) := hD
                refine lv_aload_n hx hb dX7_token_114 rfl (lv_at hl 1 rfl) ?_
                refine va_get (D := (dC, dI)) (ci := 7) (v := .int 3) (C := RX7) (T := TX7) (N := 19) hx hb hts hinX7 hown hK hP 0 rfl rfl 13 (by decide) k5 (fun _ h9 => h9) rfl dX7_token_115 ?_
                refine lv_iconst (v := 2) hx hb dX7_token_118 (by decide) ?_
                refine lv_icmp_ne (tgt := 202) hx hb dX7_token_119 (by decide) (fun c31 => ?_) (fun c31 => absurd c31 (by decide))
                obtain ⟨e0, e1, e2, e3⟩ := wq_j4 hG
                subst e0
                subst e1
                subst e2
                subst e3
                exact W.vret hx hb hr (fun t ht hW => ⟨⟨(), rfl, trivial, by rw [ht]; exact hP, hD⟩, hS.F ht⟩) hS.2.2 dX7_token_202
            · replace hG := wq_f c26 hG
              refine lv_iconst (v := 2) hx hb dX7_token_70 (by decide) ?_
              refine lv_goto (tgt := 85) hx hb dX7_token_71 (by decide) ?_
              refine va_put (D := (dC, dI)) (ci := 7) (v := .int 2) (ty := tyX7 13) (C := RX7) (T := TX7) (N := 19) hx hb hts hinX7 tyX7 tyX7_ok nmX7 hown hK hP hD hS 0 rfl rfl 13 (by decide) k5 (fun _ h9 => h9) rfl (tyX7_ok 13 (by decide)) rfl rfl (Nat.le_of_ble_eq_true rfl) dX7_token_85 (fun H locs hP hD hS => ?_)
              replace hP : va_P (dC, dI) vwCl (wcM qa cI cJ cZ m_trace m_text m_typed m_told m_draft m_s m_past m_known m_images m_kept m_notes m_noted z_m_at 2 z_m_at z_m_value m_steps m_rows m_held) H := hP
              replace hD : va_D A (wcM qa cI cJ cZ m_trace m_text m_typed m_told m_draft m_s m_past m_known m_images m_kept m_notes m_noted z_m_at 2 z_m_at z_m_value m_steps m_rows m_held) := hD
              refine lv_aload_n hx hb dX7_token_88 rfl (lv_at hl 1 rfl) ?_
              refine lv_iload_n hx hb dX7_token_89 rfl (lv_at hl 0 rfl) ?_
              refine va_put (D := (dC, dI)) (ci := 7) (v := .int v16) (ty := tyX7 15) (C := RX7) (T := TX7) (N := 19) hx hb hts hinX7 tyX7 tyX7_ok nmX7 hown hK hP hD hS 0 rfl rfl 15 (by decide) k2 (fun _ h9 => h9) rfl (tyX7_ok 15 (by decide)) rfl rfl (Nat.le_of_ble_eq_true rfl) dX7_token_90 (fun H locs hP hD hS => ?_)
              replace hP : va_P (dC, dI) vwCl (wcM qa cI cJ cZ m_trace m_text m_typed m_told m_draft m_s m_past m_known m_images m_kept m_notes m_noted z_m_at 2 z_m_at v16 m_steps m_rows m_held) H := hP
              replace hD : va_D A (wcM qa cI cJ cZ m_trace m_text m_typed m_told m_draft m_s m_past m_known m_images m_kept m_notes m_noted z_m_at 2 z_m_at v16 m_steps m_rows m_held) := hD
              refine lv_aload_n hx hb dX7_token_93 rfl (lv_at hl 1 rfl) ?_
              refine lv_dup hx hb dX7_token_94 rfl ?_
              refine va_get (D := (dC, dI)) (ci := 7) (v := .int z_m_at) (C := RX7) (T := TX7) (N := 19) hx hb hts hinX7 hown hK hP 0 rfl rfl 12 (by decide) k1 (fun _ h9 => h9) rfl dX7_token_95 ?_
              refine lv_aload_n hx hb dX7_token_98 rfl (lv_at hl 1 rfl) ?_
              refine va_get (D := (dC, dI)) (ci := 7) (v := .int 2) (C := RX7) (T := TX7) (N := 19) hx hb hts hinX7 hown hK hP 0 rfl rfl 13 (by decide) k5 (fun _ h9 => h9) rfl dX7_token_99 ?_
              refine lv_if_ne (tgt := 109) hx hb dX7_token_102 (by decide) (fun c32 => ?_) (fun c32 => absurd c32 (by decide))
              refine lv_iconst (v := 1) hx hb dX7_token_109 (by decide) ?_
              refine lv_iadd hx hb dX7_token_110 ?_
              refine va_put (D := (dC, dI)) (ci := 7) (v := .int (z_m_at + 1)) (ty := tyX7 12) (C := RX7) (T := TX7) (N := 19) hx hb hts hinX7 tyX7 tyX7_ok nmX7 hown hK hP hD hS 0 rfl rfl 12 (by decide) k1 (fun _ h9 => h9) rfl (tyX7_ok 12 (by decide)) rfl rfl (Nat.le_of_ble_eq_true rfl) dX7_token_111 (fun H locs hP hD hS => ?_)
              replace hP : va_P (dC, dI) vwCl (wcM qa cI cJ cZ m_trace m_text m_typed m_told m_draft m_s m_past m_known m_images m_kept m_notes m_noted (z_m_at + 1) 2 z_m_at v16 m_steps m_rows m_held) H := hP
              replace hD : va_D A (wcM qa cI cJ cZ m_trace m_text m_typed m_told m_draft m_s m_past m_known m_images m_kept m_notes m_noted (z_m_at + 1) 2 z_m_at v16 m_steps m_rows m_held) := hD
              refine lv_aload_n hx hb dX7_token_114 rfl (lv_at hl 1 rfl) ?_
              refine va_get (D := (dC, dI)) (ci := 7) (v := .int 2) (C := RX7) (T := TX7) (N := 19) hx hb hts hinX7 hown hK hP 0 rfl rfl 13 (by decide) k5 (fun _ h9 => h9) rfl dX7_token_115 ?_
              refine lv_iconst (v := 2) hx hb dX7_token_118 (by decide) ?_
              refine lv_icmp_ne (tgt := 202) hx hb dX7_token_119 (by decide) (fun c33 => absurd (by decide) c33) (fun c33 => ?_)
              refine lv_aload_n hx hb dX7_token_122 rfl (lv_at hl 1 rfl) ?_
              refine lv_iload_n hx hb dX7_token_123 rfl (lv_at hl 0 rfl) ?_
              refine lv_bipush (v := 48) hx hb dX7_token_124 (by decide) ?_
              refine lv_isub hx hb dX7_token_126 ?_
              refine va_put (D := (dC, dI)) (ci := 7) (v := .int (v16 - 48)) (ty := tyX7 15) (C := RX7) (T := TX7) (N := 19) hx hb hts hinX7 tyX7 tyX7_ok nmX7 hown hK hP hD hS 0 rfl rfl 15 (by decide) k2 (fun _ h9 => h9) rfl (tyX7_ok 15 (by decide)) rfl rfl (Nat.le_of_ble_eq_true rfl) dX7_token_127 (fun H locs hP hD hS => ?_)
              replace hP : va_P (dC, dI) vwCl (wcM qa cI cJ cZ m_trace m_text m_typed m_told m_draft m_s m_past m_known m_images m_kept m_notes m_noted (z_m_at + 1) 2 z_m_at (v16 - 48) m_steps m_rows m_held) H := hP
              replace hD : va_D A (wcM qa cI cJ cZ m_trace m_text m_typed m_told m_draft m_s m_past m_known m_images m_kept m_notes m_noted (z_m_at + 1) 2 z_m_at (v16 - 48) m_steps m_rows m_held) := hD
              exact hL130 2 z_m_at v16 1000 (z_m_at + 1) (v16 - 48) _ _ _ hG hP hD hS (lv_sub hl [1, 0] rfl)
          · replace hG := wq_f c22 hG
            refine lv_iconst (v := 1) hx hb dX7_token_59 (by decide) ?_
            refine lv_goto (tgt := 85) hx hb dX7_token_60 (by decide) ?_
            refine va_put (D := (dC, dI)) (ci := 7) (v := .int 1) (ty := tyX7 13) (C := RX7) (T := TX7) (N := 19) hx hb hts hinX7 tyX7 tyX7_ok nmX7 hown hK hP hD hS 0 rfl rfl 13 (by decide) k5 (fun _ h9 => h9) rfl (tyX7_ok 13 (by decide)) rfl rfl (Nat.le_of_ble_eq_true rfl) dX7_token_85 (fun H locs hP hD hS => ?_)
            replace hP : va_P (dC, dI) vwCl (wcM qa cI cJ cZ m_trace m_text m_typed m_told m_draft m_s m_past m_known m_images m_kept m_notes m_noted z_m_at 1 z_m_at z_m_value m_steps m_rows m_held) H := hP
            replace hD : va_D A (wcM qa cI cJ cZ m_trace m_text m_typed m_told m_draft m_s m_past m_known m_images m_kept m_notes m_noted z_m_at 1 z_m_at z_m_value m_steps m_rows m_held) := hD
            refine lv_aload_n hx hb dX7_token_88 rfl (lv_at hl 1 rfl) ?_
            refine lv_iload_n hx hb dX7_token_89 rfl (lv_at hl 0 rfl) ?_
            refine va_put (D := (dC, dI)) (ci := 7) (v := .int v16) (ty := tyX7 15) (C := RX7) (T := TX7) (N := 19) hx hb hts hinX7 tyX7 tyX7_ok nmX7 hown hK hP hD hS 0 rfl rfl 15 (by decide) k2 (fun _ h9 => h9) rfl (tyX7_ok 15 (by decide)) rfl rfl (Nat.le_of_ble_eq_true rfl) dX7_token_90 (fun H locs hP hD hS => ?_)
            replace hP : va_P (dC, dI) vwCl (wcM qa cI cJ cZ m_trace m_text m_typed m_told m_draft m_s m_past m_known m_images m_kept m_notes m_noted z_m_at 1 z_m_at v16 m_steps m_rows m_held) H := hP
            replace hD : va_D A (wcM qa cI cJ cZ m_trace m_text m_typed m_told m_draft m_s m_past m_known m_images m_kept m_notes m_noted z_m_at 1 z_m_at v16 m_steps m_rows m_held) := hD
            refine lv_aload_n hx hb dX7_token_93 rfl (lv_at hl 1 rfl) ?_
            refine lv_dup hx hb dX7_token_94 rfl ?_
            refine va_get (D := (dC, dI)) (ci := 7) (v := .int z_m_at) (C := RX7) (T := TX7) (N := 19) hx hb hts hinX7 hown hK hP 0 rfl rfl 12 (by decide) k1 (fun _ h9 => h9) rfl dX7_token_95 ?_
            refine lv_aload_n hx hb dX7_token_98 rfl (lv_at hl 1 rfl) ?_
            refine va_get (D := (dC, dI)) (ci := 7) (v := .int 1) (C := RX7) (T := TX7) (N := 19) hx hb hts hinX7 hown hK hP 0 rfl rfl 13 (by decide) k5 (fun _ h9 => h9) rfl dX7_token_99 ?_
            refine lv_if_ne (tgt := 109) hx hb dX7_token_102 (by decide) (fun c34 => ?_) (fun c34 => absurd c34 (by decide))
            refine lv_iconst (v := 1) hx hb dX7_token_109 (by decide) ?_
            refine lv_iadd hx hb dX7_token_110 ?_
            refine va_put (D := (dC, dI)) (ci := 7) (v := .int (z_m_at + 1)) (ty := tyX7 12) (C := RX7) (T := TX7) (N := 19) hx hb hts hinX7 tyX7 tyX7_ok nmX7 hown hK hP hD hS 0 rfl rfl 12 (by decide) k1 (fun _ h9 => h9) rfl (tyX7_ok 12 (by decide)) rfl rfl (Nat.le_of_ble_eq_true rfl) dX7_token_111 (fun H locs hP hD hS => ?_)
            replace hP : va_P (dC, dI) vwCl (wcM qa cI cJ cZ m_trace m_text m_typed m_told m_draft m_s m_past m_known m_images m_kept m_notes m_noted (z_m_at + 1) 1 z_m_at v16 m_steps m_rows m_held) H := hP
            replace hD : va_D A (wcM qa cI cJ cZ m_trace m_text m_typed m_told m_draft m_s m_past m_known m_images m_kept m_notes m_noted (z_m_at + 1) 1 z_m_at v16 m_steps m_rows m_held) := hD
            refine lv_aload_n hx hb dX7_token_114 rfl (lv_at hl 1 rfl) ?_
            refine va_get (D := (dC, dI)) (ci := 7) (v := .int 1) (C := RX7) (T := TX7) (N := 19) hx hb hts hinX7 hown hK hP 0 rfl rfl 13 (by decide) k5 (fun _ h9 => h9) rfl dX7_token_115 ?_
            refine lv_iconst (v := 2) hx hb dX7_token_118 (by decide) ?_
            refine lv_icmp_ne (tgt := 202) hx hb dX7_token_119 (by decide) (fun c35 => ?_) (fun c35 => absurd c35 (by decide))
            obtain ⟨e0, e1, e2, e3⟩ := wq_j4 hG
            subst e0
            subst e1
            subst e2
            subst e3
            exact W.vret hx hb hr (fun t ht hW => ⟨⟨(), rfl, trivial, by rw [ht]; exact hP, hD⟩, hS.F ht⟩) hS.2.2 dX7_token_202
        · replace hG := wq_f c18 hG
          refine lv_iconst (v := 0) hx hb dX7_token_48 (by decide) ?_
          refine lv_goto (tgt := 85) hx hb dX7_token_49 (by decide) ?_
          refine va_put (D := (dC, dI)) (ci := 7) (v := .int 0) (ty := tyX7 13) (C := RX7) (T := TX7) (N := 19) hx hb hts hinX7 tyX7 tyX7_ok nmX7 hown hK hP hD hS 0 rfl rfl 13 (by decide) k5 (fun _ h9 => h9) rfl (tyX7_ok 13 (by decide)) rfl rfl (Nat.le_of_ble_eq_true rfl) dX7_token_85 (fun H locs hP hD hS => ?_)
          replace hP : va_P (dC, dI) vwCl (wcM qa cI cJ cZ m_trace m_text m_typed m_told m_draft m_s m_past m_known m_images m_kept m_notes m_noted z_m_at 0 z_m_at z_m_value m_steps m_rows m_held) H := hP
          replace hD : va_D A (wcM qa cI cJ cZ m_trace m_text m_typed m_told m_draft m_s m_past m_known m_images m_kept m_notes m_noted z_m_at 0 z_m_at z_m_value m_steps m_rows m_held) := hD
          refine lv_aload_n hx hb dX7_token_88 rfl (lv_at hl 1 rfl) ?_
          refine lv_iload_n hx hb dX7_token_89 rfl (lv_at hl 0 rfl) ?_
          refine va_put (D := (dC, dI)) (ci := 7) (v := .int v16) (ty := tyX7 15) (C := RX7) (T := TX7) (N := 19) hx hb hts hinX7 tyX7 tyX7_ok nmX7 hown hK hP hD hS 0 rfl rfl 15 (by decide) k2 (fun _ h9 => h9) rfl (tyX7_ok 15 (by decide)) rfl rfl (Nat.le_of_ble_eq_true rfl) dX7_token_90 (fun H locs hP hD hS => ?_)
          replace hP : va_P (dC, dI) vwCl (wcM qa cI cJ cZ m_trace m_text m_typed m_told m_draft m_s m_past m_known m_images m_kept m_notes m_noted z_m_at 0 z_m_at v16 m_steps m_rows m_held) H := hP
          replace hD : va_D A (wcM qa cI cJ cZ m_trace m_text m_typed m_told m_draft m_s m_past m_known m_images m_kept m_notes m_noted z_m_at 0 z_m_at v16 m_steps m_rows m_held) := hD
          refine lv_aload_n hx hb dX7_token_93 rfl (lv_at hl 1 rfl) ?_
          refine lv_dup hx hb dX7_token_94 rfl ?_
          refine va_get (D := (dC, dI)) (ci := 7) (v := .int z_m_at) (C := RX7) (T := TX7) (N := 19) hx hb hts hinX7 hown hK hP 0 rfl rfl 12 (by decide) k1 (fun _ h9 => h9) rfl dX7_token_95 ?_
          refine lv_aload_n hx hb dX7_token_98 rfl (lv_at hl 1 rfl) ?_
          refine va_get (D := (dC, dI)) (ci := 7) (v := .int 0) (C := RX7) (T := TX7) (N := 19) hx hb hts hinX7 hown hK hP 0 rfl rfl 13 (by decide) k5 (fun _ h9 => h9) rfl dX7_token_99 ?_
          refine lv_if_ne (tgt := 109) hx hb dX7_token_102 (by decide) (fun c36 => absurd (by decide) c36) (fun c36 => ?_)
          refine lv_iconst (v := 0) hx hb dX7_token_105 (by decide) ?_
          refine lv_goto (tgt := 110) hx hb dX7_token_106 (by decide) ?_
          refine lv_iadd hx hb dX7_token_110 ?_
          refine va_put (D := (dC, dI)) (ci := 7) (v := .int (z_m_at + 0)) (ty := tyX7 12) (C := RX7) (T := TX7) (N := 19) hx hb hts hinX7 tyX7 tyX7_ok nmX7 hown hK hP hD hS 0 rfl rfl 12 (by decide) k1 (fun _ h9 => h9) rfl (tyX7_ok 12 (by decide)) rfl rfl (Nat.le_of_ble_eq_true rfl) dX7_token_111 (fun H locs hP hD hS => ?_)
          replace hP : va_P (dC, dI) vwCl (wcM qa cI cJ cZ m_trace m_text m_typed m_told m_draft m_s m_past m_known m_images m_kept m_notes m_noted (z_m_at + 0) 0 z_m_at v16 m_steps m_rows m_held) H := hP
          replace hD : va_D A (wcM qa cI cJ cZ m_trace m_text m_typed m_told m_draft m_s m_past m_known m_images m_kept m_notes m_noted (z_m_at + 0) 0 z_m_at v16 m_steps m_rows m_held) := hD
          refine lv_aload_n hx hb dX7_token_114 rfl (lv_at hl 1 rfl) ?_
          refine va_get (D := (dC, dI)) (ci := 7) (v := .int 0) (C := RX7) (T := TX7) (N := 19) hx hb hts hinX7 hown hK hP 0 rfl rfl 13 (by decide) k5 (fun _ h9 => h9) rfl dX7_token_115 ?_
          refine lv_iconst (v := 2) hx hb dX7_token_118 (by decide) ?_
          refine lv_icmp_ne (tgt := 202) hx hb dX7_token_119 (by decide) (fun c37 => ?_) (fun c37 => absurd c37 (by decide))
          obtain ⟨e0, e1, e2, e3⟩ := wq_j4 hG
          subst e0
          subst e1
          subst e2
          subst e3
          exact W.vret hx hb hr (fun t ht hW => ⟨⟨(), rfl, trivial, by rw [ht]; exact hP, hD⟩, hS.F ht⟩) hS.2.2 dX7_token_202
      · replace hG := wq_t c14 hG
        refine lv_aload_n hx hb dX7_token_13 rfl (lv_at hl 0 rfl) ?_
        refine lv_dup hx hb dX7_token_14 rfl ?_
        refine va_get (D := (dC, dI)) (ci := 7) (v := .int z_m_at) (C := RX7) (T := TX7) (N := 19) hx hb hts hinX7 hown hK hP 0 rfl rfl 12 (by decide) k1 (fun _ h9 => h9) rfl dX7_token_15 ?_
        refine lv_iconst (v := 1) hx hb dX7_token_18 (by decide) ?_
        refine lv_iadd hx hb dX7_token_19 ?_
        refine va_put (D := (dC, dI)) (ci := 7) (v := .int (z_m_at + 1)) (ty := tyX7 12) (C := RX7) (T := TX7) (N := 19) hx hb hts hinX7 tyX7 tyX7_ok nmX7 hown hK hP hD hS 0 rfl rfl 12 (by decide) k1 (fun _ h9 => h9) rfl (tyX7_ok 12 (by decide)) rfl rfl (Nat.le_of_ble_eq_true rfl) dX7_token_20 (fun H locs hP hD hS => ?_)
        replace hP : va_P (dC, dI) vwCl (wcM qa cI cJ cZ m_trace m_text m_typed m_told m_draft m_s m_past m_known m_images m_kept m_notes m_noted (z_m_at + 1) z_m_sort z_m_start z_m_value m_steps m_rows m_held) H := hP
        replace hD : va_D A (wcM qa cI cJ cZ m_trace m_text m_typed m_told m_draft m_s m_past m_known m_images m_kept m_notes m_noted (z_m_at + 1) z_m_sort z_m_start z_m_value m_steps m_rows m_held) := hD
        refine lv_goto (tgt := 0) hx hb dX7_token_23 (by decide) ?_
        exact ih0 (z_m_at + 1) _ _ _ hG hP hD hS (lv_sub hl [0] rfl)
  unfold gX7_token at hG
  exact hL0 m_sort m_start m_value 1000 m_at _ _ _ hG hP hD hS (lv_sub hl [0] rfl)

