theorem hdV_X7_back : yX7_back.cls = RX7 ∧ yX7_back.cls ≠ "java/lang/invoke/MethodHandle" ∧ yX7_back.cls ≠ "java/lang/invoke/VarHandle" ∧ (parseMethodDescriptor yX7_back.desc).map (fun d => d.parameters.length) = some 1 := by decide +kernel
set_option maxHeartbeats 4000000 in
set_option maxRecDepth 100000 in
theorem C_X7_back (l : Launch) (dC : Nat → ClassId) (dI : Nat → Nat → Nat) (cI cJ cZ : ClassId) (qa : Nat → Nat) (sz : Nat) (m_trace : Int64) (m_text : Nat → Int32) (m_typed : Int32) (m_told : Nat → Int32) (m_draft : Nat → Int32) (m_s : Nat → Int32) (m_past : Nat → Int32) (m_known : Int32) (m_images : Nat → Int32) (m_kept : Nat → Int32) (m_notes : Nat → Int32) (m_noted : Int32) (m_at : Int32) (m_sort : Int32) (m_start : Int32) (m_value : Int32) (m_steps : Nat → Int32) (m_rows : Nat → Int32) (m_held : Nat → Int32) (a1 : Int32) (r0 : Int32) (r_m_s : Nat → Int32) (r_m_known : Int32) (hG : gX7_back m_s m_known m_images m_kept a1 = some (r0, r_m_s, r_m_known)) : Met l yX7_back wsX7_back ({ frames := 1, cells := 0, slots := 0, locals := 22 } : Room) (va_Pc [.ref (qa 0), .int a1] (wq_pw (dC, dI) [(cI, .int), (cJ, .long), (cZ, .boolean)] (wcM qa cI cJ cZ m_trace m_text m_typed m_told m_draft m_s m_past m_known m_images m_kept m_notes m_noted m_at m_sort m_start m_value m_steps m_rows m_held) sz)) (wq_Wi (dC, dI) r0 wq_tr (wcM qa cI cJ cZ m_trace m_text m_typed m_told m_draft r_m_s m_past r_m_known m_images m_kept m_notes m_noted m_at m_sort m_start m_value m_steps m_rows m_held) (va_A (wcM qa cI cJ cZ m_trace m_text m_typed m_told m_draft m_s m_past m_known m_images m_kept m_notes m_noted m_at m_sort m_start m_value m_steps m_rows m_held) sz)) 0 0 (va_A (wcM qa cI cJ cZ m_trace m_text m_typed m_told m_draft m_s m_past m_known m_images m_kept m_notes m_noted m_at m_sort m_start m_value m_steps m_rows m_held) sz) := by
  refine Met.ofW (cc := cX7_back) (maxL := 3) (ret := (some .int)) (by decide) rfl ?_
  intro p e s m args below meth c s₁ B hml hv
  obtain ⟨rfl, hsz, hP, hK, hD0, hE⟩ := hv
  have hx := B.exec
  have hb := B.bytes
  have hr := B.returns
  have hts := atoms_spec (ws := wsX7_back) B.pre
  have hown : s.vm.findClass RX7 = some m.cls := findClass_of_methodNamed B.named
  have hlocks := B.notSynchronized
  subst hsz
  have hD := hD0.self (sz := s.heap.size)
  generalize hAe : va_A (wcM qa cI cJ cZ m_trace m_text m_typed m_told m_draft m_s m_past m_known m_images m_kept m_notes m_noted m_at m_sort m_start m_value m_steps m_rows m_held) s.heap.size = A at hD hE ⊢
  have hA : ∀ q : Nat, s.heap.size ≤ q → A q := fun q h => by rw [← hAe]; exact Or.inr h
  have hS : va_S A s.heap s.heap [] := va_S.rf
  have hinX7 : ∀ w ∈ u_ws RX7 TX7 19, w ∈ wsX7_back := by decide +kernel
  have k1 := hts (.fieldLink RX7 95 "DoorMorningsModel" "known" "I") (by decide +kernel)
  have k2 := hts (.fieldLink RX7 19 "DoorMorningsModel" "s" "[I") (by decide +kernel)
  have k3 := hts (.fieldLink RX7 25 "DoorMorningsModel" "images" "[I") (by decide +kernel)
  have k4 := hts (.fieldLink RX7 28 "DoorMorningsModel" "kept" "[Z") (by decide +kernel)
  have hl := lv_entry ([.ref (qa 0), .int a1]) (n := 3) (Nat.le_of_ble_eq_true rfl)
  rw [lg_entry_eq]
  generalize (lg_sl ([.ref (qa 0), .int a1]) ++ List.replicate (3 - (lg_sl ([.ref (qa 0), .int a1])).length) Slot.unset).toArray = ls at hl ⊢
  have hl : lv_has ls 3 [(0, .ref (qa 0)), (1, .int a1)] := hl
  have hL25 : ∀ (z_m_known : Int32) (n : Nat) (x2 : Int32) (z_m_s : Nat → Int32) (H : Heap) (locs : List Loc) (ls : Array Slot), gX7_back_L25 z_m_known m_images a1 n x2 z_m_s = some (r0, r_m_s, r_m_known) → va_P (dC, dI) vwCl (wcM qa cI cJ cZ m_trace m_text m_typed m_told m_draft z_m_s m_past z_m_known m_images m_kept m_notes m_noted m_at m_sort m_start m_value m_steps m_rows m_held) H → va_D A (wcM qa cI cJ cZ m_trace m_text m_typed m_told m_draft z_m_s m_past z_m_known m_images m_kept m_notes m_noted m_at m_sort m_start m_value m_steps m_rows m_held) → va_S A s.heap H locs → lv_has ls 3 [(0, .ref (qa 0)), (1, .int a1), (2, .int x2)] → W p l e (headSpec wsX7_back ({ frames := 1, cells := 0, slots := 0, locals := 22 } : Room)).room s m ([.ref (qa 0), .int a1] : List Value).toArray below meth c H locs 0 0 (MQ below (wq_Wi (dC, dI) r0 wq_tr (wcM qa cI cJ cZ m_trace m_text m_typed m_told m_draft r_m_s m_past r_m_known m_images m_kept m_notes m_noted m_at m_sort m_start m_value m_steps m_rows m_held) A) ([.ref (qa 0), .int a1] : List Value).toArray s 0 0 A) (F0 m 25 ls []) := by
    intro z_m_known n
    induction n with
    | zero =>
      intro x2 z_m_s H locs ls hG
      exact absurd (show (none : Option (Int32 × (Nat → Int32) × Int32)) = some (r0, r_m_s, r_m_known) from hG) (by intro h9; cases h9)
    | succ n ih25 =>
      intro x2 z_m_s H locs ls hG hP hD hS hl
      rw [gX7_back_L25] at hG
      refine lv_iload_n hx hb dX7_back_25 rfl (lv_at hl 2 rfl) ?_
      refine lv_bipush (v := 8) hx hb dX7_back_26 (by decide) ?_
      refine lv_icmp_ge (tgt := 54) hx hb dX7_back_28 (by decide) (fun c1 => ?_) (fun c1 => ?_)
      · replace hG := wq_t c1 hG
        refine lv_aload_n hx hb dX7_back_54 rfl (lv_at hl 0 rfl) ?_
        refine lv_iconst (v := 0) hx hb dX7_back_55 (by decide) ?_
        refine va_put (D := (dC, dI)) (ci := 7) (v := .int 0) (ty := tyX7 7) (C := RX7) (T := TX7) (N := 19) hx hb hts hinX7 tyX7 tyX7_ok nmX7 hown hK hP hD hS 0 rfl rfl 7 (by decide) k1 (fun _ h9 => h9) rfl (tyX7_ok 7 (by decide)) rfl rfl (Nat.le_of_ble_eq_true rfl) dX7_back_56 (fun H locs hP hD hS => ?_)
        replace hP : va_P (dC, dI) vwCl (wcM qa cI cJ cZ m_trace m_text m_typed m_told m_draft z_m_s m_past 0 m_images m_kept m_notes m_noted m_at m_sort m_start m_value m_steps m_rows m_held) H := hP
        replace hD : va_D A (wcM qa cI cJ cZ m_trace m_text m_typed m_told m_draft z_m_s m_past 0 m_images m_kept m_notes m_noted m_at m_sort m_start m_value m_steps m_rows m_held) := hD
        refine lv_aload_n hx hb dX7_back_59 rfl (lv_at hl 0 rfl) ?_
        refine va_get (D := (dC, dI)) (ci := 7) (v := .ref (qa 4)) (C := RX7) (T := TX7) (N := 19) hx hb hts hinX7 hown hK hP 0 rfl rfl 5 (by decide) k2 (fun _ h9 => h9) rfl dX7_back_60 ?_
        refine lv_iconst (v := 0) hx hb dX7_back_63 (by decide) ?_
        refine wq_iald (D := (dC, dI)) hx hb hK hP 4 0 rfl rfl (wq_lit (by decide)) 0 rfl dX7_back_64 ?_
        obtain ⟨e0, e1, e2⟩ := wq_j3 hG
        subst e0
        subst e1
        subst e2
        exact W.iret hx hb hr (fun t ht hW => ⟨⟨_, (), rfl, ⟨rfl, trivial⟩, by rw [ht]; exact hP, hD⟩, hS.F ht⟩) hS.2.2 dX7_back_65
      · replace hG := wq_f c1 hG
        refine lv_aload_n hx hb dX7_back_31 rfl (lv_at hl 0 rfl) ?_
        refine va_get (D := (dC, dI)) (ci := 7) (v := .ref (qa 4)) (C := RX7) (T := TX7) (N := 19) hx hb hts hinX7 hown hK hP 0 rfl rfl 5 (by decide) k2 (fun _ h9 => h9) rfl dX7_back_32 ?_
        refine lv_iload_n hx hb dX7_back_35 rfl (lv_at hl 2 rfl) ?_
        refine lv_aload_n hx hb dX7_back_36 rfl (lv_at hl 0 rfl) ?_
        refine va_get (D := (dC, dI)) (ci := 7) (v := .ref (qa 6)) (C := RX7) (T := TX7) (N := 19) hx hb hts hinX7 hown hK hP 0 rfl rfl 8 (by decide) k3 (fun _ h9 => h9) rfl dX7_back_37 ?_
        refine lv_bipush (v := 8) hx hb dX7_back_40 (by decide) ?_
        refine lv_iload_n hx hb dX7_back_42 rfl (lv_at hl 1 rfl) ?_
        refine lv_imul hx hb dX7_back_43 ?_
        refine lv_iload_n hx hb dX7_back_44 rfl (lv_at hl 2 rfl) ?_
        refine lv_iadd hx hb dX7_back_45 ?_
        obtain ⟨h2, hG⟩ := wq_chk_s hG
        refine wq_iald (D := (dC, dI)) hx hb hK hP 6 0 rfl rfl h2 (Int32.toNatClampNeg ((8 * a1) + x2)) rfl dX7_back_46 ?_
        obtain ⟨h3, hG⟩ := wq_chk_s hG
        refine wq_iast (D := (dC, dI)) hx hb hK hP hD hS 4 0 rfl rfl h3 (Int32.toNatClampNeg x2) rfl (wcM qa cI cJ cZ m_trace m_text m_typed m_told m_draft (upd z_m_s (Int32.toNatClampNeg x2) (m_images (Int32.toNatClampNeg ((8 * a1) + x2)))) m_past z_m_known m_images m_kept m_notes m_noted m_at m_sort m_start m_value m_steps m_rows m_held) rfl dX7_back_47 (fun H locs hP hD hS => ?_)
        refine lv_iinc (v := (x2 + 1)) (lv' := [(2, .int (x2 + 1)), (0, .ref (qa 0)), (1, .int a1)]) hx hb dX7_back_48 hl (k := 2) rfl rfl (by decide) rfl (fun ls hl => ?_)
        refine lv_goto (tgt := 25) hx hb dX7_back_51 (by decide) ?_
        exact ih25 (x2 + 1) (upd z_m_s (Int32.toNatClampNeg x2) (m_images (Int32.toNatClampNeg ((8 * a1) + x2)))) _ _ _ hG hP hD hS (lv_sub hl [1, 2, 0] rfl)
  unfold gX7_back at hG
  refine lv_iload_n hx hb dX7_back_0 rfl (lv_at hl 1 rfl) ?_
  refine lv_iconst (v := 0) hx hb dX7_back_1 (by decide) ?_
  refine lv_iconst (v := 1) hx hb dX7_back_2 (by decide) ?_
  obtain ⟨v5, g4, hG⟩ := wq_b1_s hG
  refine wq_ci (v := v5) (B := wq_Z1) (va_runS (As := [.int a1, .int 0, .int 1]) (rest := []) ⟨hx, hb, hml, hown, hts⟩ (C_X7_in l dC dI cI cJ cZ qa s.heap.size  a1 0 1 v5 g4) (va_cwS 3 hts gX7_back_X7_in rfl rfl rfl hdS_X7_in ⟨Nat.le_of_ble_eq_true rfl, Nat.le_of_ble_eq_true rfl⟩) (wq_ppS hK (hP.sub (ws' := []) [] rfl) hE hS hA) rfl rfl hl.1 rfl (lv_room (Nat.le_of_ble_eq_true rfl)) dX7_back_3 ⟨Nat.zero_le _, Nat.zero_le _⟩) hS hA (fun H locs b6 hk hS => ?_)
  replace hP := wq_kp hP hk
  clear hk
  refine lv_if_ne (tgt := 11) hx hb dX7_back_6 (by decide) (fun c7 => ?_) (fun c7 => ?_)
  · replace hG := wq_f c7 hG
    refine lv_aload_n hx hb dX7_back_11 rfl (lv_at hl 0 rfl) ?_
    refine va_get (D := (dC, dI)) (ci := 7) (v := .ref (qa 7)) (C := RX7) (T := TX7) (N := 19) hx hb hts hinX7 hown hK hP 0 rfl rfl 9 (by decide) k4 (fun _ h9 => h9) rfl dX7_back_12 ?_
    refine lv_iload_n hx hb dX7_back_15 rfl (lv_at hl 1 rfl) ?_
    obtain ⟨h8, hG⟩ := wq_chk_s hG
    refine wq_zald (D := (dC, dI)) hx hb hK hP 7 2 rfl rfl h8 (Int32.toNatClampNeg a1) rfl dX7_back_16 ?_
    refine lv_if_ne (tgt := 23) hx hb dX7_back_17 (by decide) (fun c9 => ?_) (fun c9 => ?_)
    · replace hG := wq_f c9 hG
      refine lv_iconst (v := 0) hx hb dX7_back_23 (by decide) ?_
      refine lv_istore_n (lv' := [(2, .int 0), (0, .ref (qa 0)), (1, .int a1)]) hx hb dX7_back_24 rfl hl (by decide) rfl (fun ls hl => ?_)
      exact hL25 m_known 1000 0 m_s _ _ _ hG hP hD hS (lv_sub hl [1, 2, 0] rfl)
    · replace hG := wq_t c9 hG
      refine lv_bipush (v := (-2)) hx hb dX7_back_20 (by decide) ?_
      obtain ⟨e0, e1, e2⟩ := wq_j3 hG
      subst e0
      subst e1
      subst e2
      exact W.iret hx hb hr (fun t ht hW => ⟨⟨_, (), rfl, ⟨rfl, trivial⟩, by rw [ht]; exact hP, hD⟩, hS.F ht⟩) hS.2.2 dX7_back_22
  · replace hG := wq_t c7 hG
    refine lv_iconst (v := (-1)) hx hb dX7_back_9 (by decide) ?_
    obtain ⟨e0, e1, e2⟩ := wq_j3 hG
    subst e0
    subst e1
    subst e2
    exact W.iret hx hb hr (fun t ht hW => ⟨⟨_, (), rfl, ⟨rfl, trivial⟩, by rw [ht]; exact hP, hD⟩, hS.F ht⟩) hS.2.2 dX7_back_10

theorem hdV_X7_count : yX7_count.cls = RX7 ∧ yX7_count.cls ≠ "java/lang/invoke/MethodHandle" ∧ yX7_count.cls ≠ "java/lang/invoke/VarHandle" ∧ (parseMethodDescriptor yX7_count.desc).map (fun d => d.parameters.length) = some 1 := by decide +kernel
set_option maxHeartbeats 4000000 in
set_option maxRecDepth 100000 in
theorem C_X7_count (l : Launch) (dC : Nat → ClassId) (dI : Nat → Nat → Nat) (cI cJ cZ : ClassId) (qa : Nat → Nat) (sz : Nat) (m_trace : Int64) (m_text : Nat → Int32) (m_typed : Int32) (m_told : Nat → Int32) (m_draft : Nat → Int32) (m_s : Nat → Int32) (m_past : Nat → Int32) (m_known : Int32) (m_images : Nat → Int32) (m_kept : Nat → Int32) (m_notes : Nat → Int32) (m_noted : Int32) (m_at : Int32) (m_sort : Int32) (m_start : Int32) (m_value : Int32) (m_steps : Nat → Int32) (m_rows : Nat → Int32) (m_held : Nat → Int32) (a1 : Int32) (r0 : Int32) (hG : gX7_count m_typed m_told m_noted a1 = some r0) : Met l yX7_count wsX7_count ({ frames := 0, cells := 0, slots := 0, locals := 0 } : Room) (va_Pc [.ref (qa 0), .int a1] (wq_pp (dC, dI) [(cI, .int), (cJ, .long), (cZ, .boolean)] (wcM qa cI cJ cZ m_trace m_text m_typed m_told m_draft m_s m_past m_known m_images m_kept m_notes m_noted m_at m_sort m_start m_value m_steps m_rows m_held) sz)) (wq_Qi r0 wq_tr (va_A [] sz)) 0 0 (va_A [] sz) := by
  refine Met.ofW (cc := cX7_count) (maxL := 2) (ret := (some .int)) (by decide) rfl ?_
  intro p e s m args below meth c s₁ B hml hv
  obtain ⟨rfl, hsz, hP, hK, hE⟩ := hv
  have hx := B.exec
  have hb := B.bytes
  have hr := B.returns
  have hts := atoms_spec (ws := wsX7_count) B.pre
  have hown : s.vm.findClass RX7 = some m.cls := findClass_of_methodNamed B.named
  have hlocks := B.notSynchronized
  subst hsz
  generalize hAe : va_A [] s.heap.size = A at hE ⊢
  have hA : ∀ q : Nat, s.heap.size ≤ q → A q := fun q h => by rw [← hAe]; exact Or.inr h
  have hS : va_S A s.heap s.heap [] := va_S.rf
  have hinX7 : ∀ w ∈ u_ws RX7 TX7 19, w ∈ wsX7_count := by decide +kernel
  have k1 := hts (.fieldLink RX7 13 "DoorMorningsModel" "told" "[I") (by decide +kernel)
  have k2 := hts (.fieldLink RX7 98 "DoorMorningsModel" "noted" "I") (by decide +kernel)
  have k3 := hts (.fieldLink RX7 55 "DoorMorningsModel" "typed" "I") (by decide +kernel)
  have hl := lv_entry ([.ref (qa 0), .int a1]) (n := 2) (Nat.le_of_ble_eq_true rfl)
  rw [lg_entry_eq]
  generalize (lg_sl ([.ref (qa 0), .int a1]) ++ List.replicate (2 - (lg_sl ([.ref (qa 0), .int a1])).length) Slot.unset).toArray = ls at hl ⊢
  have hl : lv_has ls 2 [(0, .ref (qa 0)), (1, .int a1)] := hl
  unfold gX7_count at hG
  refine lv_iload_n hx hb dX7_count_0 rfl (lv_at hl 1 rfl) ?_
  by_cases c1 : a1 = 0
  · replace hG := wq_t c1 hG
    refine lv_tableIn (off := 47) (tgt := 48) hx hb dX7_count_1 (by rw [c1]; decide) (by rw [c1]; decide) (by rw [c1]; decide) (by decide) ?_
    refine lv_aload_n hx hb dX7_count_48 rfl (lv_at hl 0 rfl) ?_
    refine va_get (D := (dC, dI)) (ci := 7) (v := .ref (qa 2)) (C := RX7) (T := TX7) (N := 19) hx hb hts hinX7 hown hK hP 0 rfl rfl 3 (by decide) k1 (fun _ h9 => h9) rfl dX7_count_49 ?_
    refine lv_iconst (v := 0) hx hb dX7_count_52 (by decide) ?_
    refine wq_iald (D := (dC, dI)) hx hb hK hP 2 0 rfl rfl (wq_lit (by decide)) 0 rfl dX7_count_53 ?_
    exact W.iret (v := (m_told 0)) hx hb hr (fun t ht hW => ⟨⟨(m_told 0), (), rfl, ⟨Option.some.inj hG, trivial⟩, trivial⟩, hS.F ht⟩) hS.2.2 dX7_count_54
  · replace hG := wq_f c1 hG
    by_cases c2 : a1 = 1
    · replace hG := wq_t c2 hG
      refine lv_tableIn (off := 54) (tgt := 55) hx hb dX7_count_1 (by rw [c2]; decide) (by rw [c2]; decide) (by rw [c2]; decide) (by decide) ?_
      refine lv_aload_n hx hb dX7_count_55 rfl (lv_at hl 0 rfl) ?_
      refine va_get (D := (dC, dI)) (ci := 7) (v := .ref (qa 2)) (C := RX7) (T := TX7) (N := 19) hx hb hts hinX7 hown hK hP 0 rfl rfl 3 (by decide) k1 (fun _ h9 => h9) rfl dX7_count_56 ?_
      refine lv_iconst (v := 1) hx hb dX7_count_59 (by decide) ?_
      refine wq_iald (D := (dC, dI)) hx hb hK hP 2 0 rfl rfl (wq_lit (by decide)) 1 rfl dX7_count_60 ?_
      exact W.iret (v := (m_told 1)) hx hb hr (fun t ht hW => ⟨⟨(m_told 1), (), rfl, ⟨Option.some.inj hG, trivial⟩, trivial⟩, hS.F ht⟩) hS.2.2 dX7_count_61
    · replace hG := wq_f c2 hG
      by_cases c3 : a1 = 2
      · replace hG := wq_t c3 hG
        refine lv_tableIn (off := 61) (tgt := 62) hx hb dX7_count_1 (by rw [c3]; decide) (by rw [c3]; decide) (by rw [c3]; decide) (by decide) ?_
        refine lv_aload_n hx hb dX7_count_62 rfl (lv_at hl 0 rfl) ?_
        refine va_get (D := (dC, dI)) (ci := 7) (v := .ref (qa 2)) (C := RX7) (T := TX7) (N := 19) hx hb hts hinX7 hown hK hP 0 rfl rfl 3 (by decide) k1 (fun _ h9 => h9) rfl dX7_count_63 ?_
        refine lv_iconst (v := 2) hx hb dX7_count_66 (by decide) ?_
        refine wq_iald (D := (dC, dI)) hx hb hK hP 2 0 rfl rfl (wq_lit (by decide)) 2 rfl dX7_count_67 ?_
        exact W.iret (v := (m_told 2)) hx hb hr (fun t ht hW => ⟨⟨(m_told 2), (), rfl, ⟨Option.some.inj hG, trivial⟩, trivial⟩, hS.F ht⟩) hS.2.2 dX7_count_68
      · replace hG := wq_f c3 hG
        by_cases c4 : a1 = 3
        · replace hG := wq_t c4 hG
          refine lv_tableIn (off := 68) (tgt := 69) hx hb dX7_count_1 (by rw [c4]; decide) (by rw [c4]; decide) (by rw [c4]; decide) (by decide) ?_
          refine lv_aload_n hx hb dX7_count_69 rfl (lv_at hl 0 rfl) ?_
          refine va_get (D := (dC, dI)) (ci := 7) (v := .ref (qa 2)) (C := RX7) (T := TX7) (N := 19) hx hb hts hinX7 hown hK hP 0 rfl rfl 3 (by decide) k1 (fun _ h9 => h9) rfl dX7_count_70 ?_
          refine lv_iconst (v := 3) hx hb dX7_count_73 (by decide) ?_
          refine wq_iald (D := (dC, dI)) hx hb hK hP 2 0 rfl rfl (wq_lit (by decide)) 3 rfl dX7_count_74 ?_
          exact W.iret (v := (m_told 3)) hx hb hr (fun t ht hW => ⟨⟨(m_told 3), (), rfl, ⟨Option.some.inj hG, trivial⟩, trivial⟩, hS.F ht⟩) hS.2.2 dX7_count_75
        · replace hG := wq_f c4 hG
          by_cases c5 : a1 = 4
          · replace hG := wq_t c5 hG
            refine lv_tableIn (off := 75) (tgt := 76) hx hb dX7_count_1 (by rw [c5]; decide) (by rw [c5]; decide) (by rw [c5]; decide) (by decide) ?_
            refine lv_aload_n hx hb dX7_count_76 rfl (lv_at hl 0 rfl) ?_
            refine va_get (D := (dC, dI)) (ci := 7) (v := .ref (qa 2)) (C := RX7) (T := TX7) (N := 19) hx hb hts hinX7 hown hK hP 0 rfl rfl 3 (by decide) k1 (fun _ h9 => h9) rfl dX7_count_77 ?_
            refine lv_iconst (v := 4) hx hb dX7_count_80 (by decide) ?_
            refine wq_iald (D := (dC, dI)) hx hb hK hP 2 0 rfl rfl (wq_lit (by decide)) 4 rfl dX7_count_81 ?_
            exact W.iret (v := (m_told 4)) hx hb hr (fun t ht hW => ⟨⟨(m_told 4), (), rfl, ⟨Option.some.inj hG, trivial⟩, trivial⟩, hS.F ht⟩) hS.2.2 dX7_count_82
          · replace hG := wq_f c5 hG
            by_cases c6 : a1 = 5
            · replace hG := wq_t c6 hG
              refine lv_tableIn (off := 82) (tgt := 83) hx hb dX7_count_1 (by rw [c6]; decide) (by rw [c6]; decide) (by rw [c6]; decide) (by decide) ?_
              refine lv_aload_n hx hb dX7_count_83 rfl (lv_at hl 0 rfl) ?_
              refine va_get (D := (dC, dI)) (ci := 7) (v := .ref (qa 2)) (C := RX7) (T := TX7) (N := 19) hx hb hts hinX7 hown hK hP 0 rfl rfl 3 (by decide) k1 (fun _ h9 => h9) rfl dX7_count_84 ?_
              refine lv_iconst (v := 5) hx hb dX7_count_87 (by decide) ?_
              refine wq_iald (D := (dC, dI)) hx hb hK hP 2 0 rfl rfl (wq_lit (by decide)) 5 rfl dX7_count_88 ?_
              exact W.iret (v := (m_told 5)) hx hb hr (fun t ht hW => ⟨⟨(m_told 5), (), rfl, ⟨Option.some.inj hG, trivial⟩, trivial⟩, hS.F ht⟩) hS.2.2 dX7_count_89
            · replace hG := wq_f c6 hG
              by_cases c7 : a1 = 6
              · replace hG := wq_t c7 hG
                refine lv_tableIn (off := 89) (tgt := 90) hx hb dX7_count_1 (by rw [c7]; decide) (by rw [c7]; decide) (by rw [c7]; decide) (by decide) ?_
                refine lv_aload_n hx hb dX7_count_90 rfl (lv_at hl 0 rfl) ?_
                refine va_get (D := (dC, dI)) (ci := 7) (v := .int m_noted) (C := RX7) (T := TX7) (N := 19) hx hb hts hinX7 hown hK hP 0 rfl rfl 11 (by decide) k2 (fun _ h9 => h9) rfl dX7_count_91 ?_
                exact W.iret (v := m_noted) hx hb hr (fun t ht hW => ⟨⟨m_noted, (), rfl, ⟨Option.some.inj hG, trivial⟩, trivial⟩, hS.F ht⟩) hS.2.2 dX7_count_94
              · replace hG := wq_f c7 hG
                by_cases c8 : a1 = 7
                · replace hG := wq_t c8 hG
                  refine lv_tableIn (off := 94) (tgt := 95) hx hb dX7_count_1 (by rw [c8]; decide) (by rw [c8]; decide) (by rw [c8]; decide) (by decide) ?_
                  refine lv_aload_n hx hb dX7_count_95 rfl (lv_at hl 0 rfl) ?_
                  refine va_get (D := (dC, dI)) (ci := 7) (v := .int m_typed) (C := RX7) (T := TX7) (N := 19) hx hb hts hinX7 hown hK hP 0 rfl rfl 2 (by decide) k3 (fun _ h9 => h9) rfl dX7_count_96 ?_
                  exact W.iret (v := m_typed) hx hb hr (fun t ht hW => ⟨⟨m_typed, (), rfl, ⟨Option.some.inj hG, trivial⟩, trivial⟩, hS.F ht⟩) hS.2.2 dX7_count_99
                · replace hG := wq_f c8 hG
                  refine lv_tableOut (tgt := 100) hx hb dX7_count_1 (by have e0 := lv_neT c1 (a := 0) (by decide); have e1 := lv_neT c2 (a := 1) (by decide); have e2 := lv_neT c3 (a := 2) (by decide); have e3 := lv_neT c4 (a := 3) (by decide); have e4 := lv_neT c5 (a := 4) (by decide); have e5 := lv_neT c6 (a := 5) (by decide); have e6 := lv_neT c7 (a := 6) (by decide); have e7 := lv_neT c8 (a := 7) (by decide); omega) (by decide) ?_
                  refine lv_iconst (v := (-1)) hx hb dX7_count_100 (by decide) ?_
                  exact W.iret (v := (-1)) hx hb hr (fun t ht hW => ⟨⟨(-1), (), rfl, ⟨Option.some.inj hG, trivial⟩, trivial⟩, hS.F ht⟩) hS.2.2 dX7_count_101

theorem hdV_X7_trace : yX7_trace.cls = RX7 ∧ yX7_trace.cls ≠ "java/lang/invoke/MethodHandle" ∧ yX7_trace.cls ≠ "java/lang/invoke/VarHandle" ∧ (parseMethodDescriptor yX7_trace.desc).map (fun d => d.parameters.length) = some 0 := by decide +kernel
set_option maxHeartbeats 4000000 in
set_option maxRecDepth 100000 in
theorem C_X7_trace (l : Launch) (dC : Nat → ClassId) (dI : Nat → Nat → Nat) (cI cJ cZ : ClassId) (qa : Nat → Nat) (sz : Nat) (m_trace : Int64) (m_text : Nat → Int32) (m_typed : Int32) (m_told : Nat → Int32) (m_draft : Nat → Int32) (m_s : Nat → Int32) (m_past : Nat → Int32) (m_known : Int32) (m_images : Nat → Int32) (m_kept : Nat → Int32) (m_notes : Nat → Int32) (m_noted : Int32) (m_at : Int32) (m_sort : Int32) (m_start : Int32) (m_value : Int32) (m_steps : Nat → Int32) (m_rows : Nat → Int32) (m_held : Nat → Int32) (r0 : Int64) (hG : gX7_trace m_trace = some r0) : Met l yX7_trace wsX7_trace ({ frames := 0, cells := 0, slots := 0, locals := 0 } : Room) (va_Pc [.ref (qa 0)] (wq_pp (dC, dI) [(cI, .int), (cJ, .long), (cZ, .boolean)] (wcM qa cI cJ cZ m_trace m_text m_typed m_told m_draft m_s m_past m_known m_images m_kept m_notes m_noted m_at m_sort m_start m_value m_steps m_rows m_held) sz)) (wq_Ql r0 (va_A [] sz)) 0 0 (va_A [] sz) := by
  refine Met.ofW (cc := cX7_trace) (maxL := 1) (ret := (some .long)) (by decide) rfl ?_
  intro p e s m args below meth c s₁ B hml hv
  obtain ⟨rfl, hsz, hP, hK, hE⟩ := hv
  have hx := B.exec
  have hb := B.bytes
  have hr := B.returns
  have hts := atoms_spec (ws := wsX7_trace) B.pre
  have hown : s.vm.findClass RX7 = some m.cls := findClass_of_methodNamed B.named
  have hlocks := B.notSynchronized
  subst hsz
  generalize hAe : va_A [] s.heap.size = A at hE ⊢
  have hA : ∀ q : Nat, s.heap.size ≤ q → A q := fun q h => by rw [← hAe]; exact Or.inr h
  have hS : va_S A s.heap s.heap [] := va_S.rf
  have hinX7 : ∀ w ∈ u_ws RX7 TX7 19, w ∈ wsX7_trace := by decide +kernel
  have k1 := hts (.fieldLink RX7 176 "DoorMorningsModel" "trace" "J") (by decide +kernel)
  have hl := lv_entry ([.ref (qa 0)]) (n := 1) (Nat.le_of_ble_eq_true rfl)
  rw [lg_entry_eq]
  generalize (lg_sl ([.ref (qa 0)]) ++ List.replicate (1 - (lg_sl ([.ref (qa 0)])).length) Slot.unset).toArray = ls at hl ⊢
  have hl : lv_has ls 1 [(0, .ref (qa 0))] := hl
  unfold gX7_trace at hG
  refine lv_aload_n hx hb dX7_trace_0 rfl (lv_at hl 0 rfl) ?_
  refine va_get (D := (dC, dI)) (ci := 7) (v := .long m_trace) (C := RX7) (T := TX7) (N := 19) hx hb hts hinX7 hown hK hP 0 rfl rfl 0 (by decide) k1 (fun _ h9 => h9) rfl dX7_trace_1 ?_
  exact W.lret (v := m_trace) hx hb hr (fun t ht hW => ⟨⟨m_trace, (), rfl, Option.some.inj hG, trivial⟩, hS.F ht⟩) hS.2.2 dX7_trace_4

