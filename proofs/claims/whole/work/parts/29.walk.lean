theorem hdV_X7_shows : yX7_shows.cls = RX7 ∧ yX7_shows.cls ≠ "java/lang/invoke/MethodHandle" ∧ yX7_shows.cls ≠ "java/lang/invoke/VarHandle" ∧ (parseMethodDescriptor yX7_shows.desc).map (fun d => d.parameters.length) = some 5 := by decide +kernel
set_option maxHeartbeats 4000000 in
set_option maxRecDepth 100000 in
theorem C_X7_shows (l : Launch) (dC : Nat → ClassId) (dI : Nat → Nat → Nat) (cI cJ cZ : ClassId) (qa : Nat → Nat) (sz : Nat) (m_trace : Int64) (m_text : Nat → Int32) (m_typed : Int32) (m_told : Nat → Int32) (m_draft : Nat → Int32) (m_s : Nat → Int32) (m_past : Nat → Int32) (m_known : Int32) (m_images : Nat → Int32) (m_kept : Nat → Int32) (m_notes : Nat → Int32) (m_noted : Int32) (m_at : Int32) (m_sort : Int32) (m_start : Int32) (m_value : Int32) (m_steps : Nat → Int32) (m_rows : Nat → Int32) (m_held : Nat → Int32) (a1 : Int32) (a2 : Int32) (a3 : Int32) (a4 : Int32) (a5 : Int32) (r0 : Int32) (r_m_notes : Nat → Int32) (r_m_noted : Int32) (hG : gX7_shows m_told m_notes m_noted a1 a2 a3 a4 a5 = some (r0, r_m_notes, r_m_noted)) : Met l yX7_shows wsX7_shows ({ frames := 2, cells := 0, slots := 0, locals := 43 } : Room) (va_Pc [.ref (qa 0), .int a1, .int a2, .int a3, .int a4, .int a5] (wq_pw (dC, dI) [(cI, .int), (cJ, .long), (cZ, .boolean)] (wcM qa cI cJ cZ m_trace m_text m_typed m_told m_draft m_s m_past m_known m_images m_kept m_notes m_noted m_at m_sort m_start m_value m_steps m_rows m_held) sz)) (wq_Wi (dC, dI) r0 wq_tr (wcM qa cI cJ cZ m_trace m_text m_typed m_told m_draft m_s m_past m_known m_images m_kept r_m_notes r_m_noted m_at m_sort m_start m_value m_steps m_rows m_held) (va_A (wcM qa cI cJ cZ m_trace m_text m_typed m_told m_draft m_s m_past m_known m_images m_kept m_notes m_noted m_at m_sort m_start m_value m_steps m_rows m_held) sz)) 0 0 (va_A (wcM qa cI cJ cZ m_trace m_text m_typed m_told m_draft m_s m_past m_known m_images m_kept m_notes m_noted m_at m_sort m_start m_value m_steps m_rows m_held) sz) := by
  refine Met.ofW (cc := cX7_shows) (maxL := 6) (ret := (some .int)) (by decide) rfl ?_
  intro p e s m args below meth c s₁ B hml hv
  obtain ⟨rfl, hsz, hP, hK, hD0, hE⟩ := hv
  have hx := B.exec
  have hb := B.bytes
  have hr := B.returns
  have hts := atoms_spec (ws := wsX7_shows) B.pre
  have hown : s.vm.findClass RX7 = some m.cls := findClass_of_methodNamed B.named
  have hlocks := B.notSynchronized
  subst hsz
  have hD := hD0.self (sz := s.heap.size)
  generalize hAe : va_A (wcM qa cI cJ cZ m_trace m_text m_typed m_told m_draft m_s m_past m_known m_images m_kept m_notes m_noted m_at m_sort m_start m_value m_steps m_rows m_held) s.heap.size = A at hD hE ⊢
  have hA : ∀ q : Nat, s.heap.size ≤ q → A q := fun q h => by rw [← hAe]; exact Or.inr h
  have hS : va_S A s.heap s.heap [] := va_S.rf
  have hinX7 : ∀ w ∈ u_ws RX7 TX7 19, w ∈ wsX7_shows := by decide +kernel
  have k1 := hts (.fieldLink RX7 98 "DoorMorningsModel" "noted" "I") (by decide +kernel)
  have k2 := hts (.fieldLink RX7 32 "DoorMorningsModel" "notes" "[I") (by decide +kernel)
  have hl := lv_entry ([.ref (qa 0), .int a1, .int a2, .int a3, .int a4, .int a5]) (n := 6) (Nat.le_of_ble_eq_true rfl)
  rw [lg_entry_eq]
  generalize (lg_sl ([.ref (qa 0), .int a1, .int a2, .int a3, .int a4, .int a5]) ++ List.replicate (6 - (lg_sl ([.ref (qa 0), .int a1, .int a2, .int a3, .int a4, .int a5])).length) Slot.unset).toArray = ls at hl ⊢
  have hl : lv_has ls 6 [(0, .ref (qa 0)), (1, .int a1), (2, .int a2), (3, .int a3), (4, .int a4), (5, .int a5)] := hl
  unfold gX7_shows at hG
  refine lv_aload_n hx hb dX7_shows_0 rfl (lv_at hl 0 rfl) ?_
  refine lv_iload_n hx hb dX7_shows_1 rfl (lv_at hl 1 rfl) ?_
  obtain ⟨v2, g1, hG⟩ := wq_b1_s hG
  refine wq_ci (v := v2) (B := wq_Z1) (va_runV (As := [.int a1]) (rest := []) ⟨hx, hb, hml, hown, hts⟩ (C_X7_isGoodbye l dC dI cI cJ cZ qa s.heap.size m_trace m_text m_typed m_told m_draft m_s m_past m_known m_images m_kept m_notes m_noted m_at m_sort m_start m_value m_steps m_rows m_held a1 v2 g1) (cwV 1 hts gX7_shows_X7_isGoodbye rfl rfl rfl hdV_X7_isGoodbye ⟨Nat.le_of_ble_eq_true rfl, Nat.le_of_ble_eq_true rfl⟩) (wq_ppV hK hP hE hS hA (ci := 7) (q0 := 0) rfl rfl) rfl rfl hl.1 rfl (lv_room (Nat.le_of_ble_eq_true rfl)) dX7_shows_2 ⟨Nat.zero_le _, Nat.zero_le _⟩) hS hA (fun H locs b3 hk hS => ?_)
  replace hP := wq_kp hP hk
  clear hk
  refine lv_if_eq (tgt := 50) hx hb dX7_shows_5 (by decide) (fun c4 => ?_) (fun c4 => ?_)
  · replace hG := wq_t c4 hG
    refine lv_iconst (v := (-1)) hx hb dX7_shows_50 (by decide) ?_
    obtain ⟨e0, e1, e2⟩ := wq_j3 hG
    subst e0
    subst e1
    subst e2
    exact W.iret hx hb hr (fun t ht hW => ⟨⟨_, (), rfl, ⟨rfl, trivial⟩, by rw [ht]; exact hP, hD⟩, hS.F ht⟩) hS.2.2 dX7_shows_51
  · replace hG := wq_f c4 hG
    refine lv_iload_n hx hb dX7_shows_8 rfl (lv_at hl 2 rfl) ?_
    refine lv_iconst (v := 0) hx hb dX7_shows_9 (by decide) ?_
    refine lv_bipush (v := 24) hx hb dX7_shows_10 (by decide) ?_
    obtain ⟨v6, g5, hG⟩ := wq_b1_s hG
    refine wq_ci (v := v6) (B := wq_Z1) (va_runS (As := [.int a2, .int 0, .int 24]) (rest := []) ⟨hx, hb, hml, hown, hts⟩ (C_X7_in l dC dI cI cJ cZ qa H.size  a2 0 24 v6 g5) (va_cwS 3 hts gX7_shows_X7_in rfl rfl rfl hdS_X7_in ⟨Nat.le_of_ble_eq_true rfl, Nat.le_of_ble_eq_true rfl⟩) (wq_ppS hK (hP.sub (ws' := []) [] rfl) hE hS hA) rfl rfl hl.1 rfl (lv_room (Nat.le_of_ble_eq_true rfl)) dX7_shows_12 ⟨Nat.zero_le _, Nat.zero_le _⟩) hS hA (fun H locs b7 hk hS => ?_)
    replace hP := wq_kp hP hk
    clear hk
    refine lv_if_eq (tgt := 50) hx hb dX7_shows_15 (by decide) (fun c8 => ?_) (fun c8 => ?_)
    · replace hG := wq_t c8 hG
      refine lv_iconst (v := (-1)) hx hb dX7_shows_50 (by decide) ?_
      obtain ⟨e0, e1, e2⟩ := wq_j3 hG
      subst e0
      subst e1
      subst e2
      exact W.iret hx hb hr (fun t ht hW => ⟨⟨_, (), rfl, ⟨rfl, trivial⟩, by rw [ht]; exact hP, hD⟩, hS.F ht⟩) hS.2.2 dX7_shows_51
    · replace hG := wq_f c8 hG
      refine lv_iload_n hx hb dX7_shows_18 rfl (lv_at hl 3 rfl) ?_
      refine lv_iconst (v := 1) hx hb dX7_shows_19 (by decide) ?_
      refine lv_bipush (v := 96) hx hb dX7_shows_20 (by decide) ?_
      obtain ⟨v10, g9, hG⟩ := wq_b1_s hG
      refine wq_ci (v := v10) (B := wq_Z1) (va_runS (As := [.int a3, .int 1, .int 96]) (rest := []) ⟨hx, hb, hml, hown, hts⟩ (C_X7_in l dC dI cI cJ cZ qa H.size  a3 1 96 v10 g9) (va_cwS 3 hts gX7_shows_X7_in rfl rfl rfl hdS_X7_in ⟨Nat.le_of_ble_eq_true rfl, Nat.le_of_ble_eq_true rfl⟩) (wq_ppS hK (hP.sub (ws' := []) [] rfl) hE hS hA) rfl rfl hl.1 rfl (lv_room (Nat.le_of_ble_eq_true rfl)) dX7_shows_22 ⟨Nat.zero_le _, Nat.zero_le _⟩) hS hA (fun H locs b11 hk hS => ?_)
      replace hP := wq_kp hP hk
      clear hk
      refine lv_if_eq (tgt := 50) hx hb dX7_shows_25 (by decide) (fun c12 => ?_) (fun c12 => ?_)
      · replace hG := wq_t c12 hG
        refine lv_iconst (v := (-1)) hx hb dX7_shows_50 (by decide) ?_
        obtain ⟨e0, e1, e2⟩ := wq_j3 hG
        subst e0
        subst e1
        subst e2
        exact W.iret hx hb hr (fun t ht hW => ⟨⟨_, (), rfl, ⟨rfl, trivial⟩, by rw [ht]; exact hP, hD⟩, hS.F ht⟩) hS.2.2 dX7_shows_51
      · replace hG := wq_f c12 hG
        refine lv_iload hx hb dX7_shows_28 (lv_at hl 4 rfl) ?_
        refine lv_iconst (v := 0) hx hb dX7_shows_30 (by decide) ?_
        refine lv_bipush (v := 9) hx hb dX7_shows_31 (by decide) ?_
        obtain ⟨v14, g13, hG⟩ := wq_b1_s hG
        refine wq_ci (v := v14) (B := wq_Z1) (va_runS (As := [.int a4, .int 0, .int 9]) (rest := []) ⟨hx, hb, hml, hown, hts⟩ (C_X7_in l dC dI cI cJ cZ qa H.size  a4 0 9 v14 g13) (va_cwS 3 hts gX7_shows_X7_in rfl rfl rfl hdS_X7_in ⟨Nat.le_of_ble_eq_true rfl, Nat.le_of_ble_eq_true rfl⟩) (wq_ppS hK (hP.sub (ws' := []) [] rfl) hE hS hA) rfl rfl hl.1 rfl (lv_room (Nat.le_of_ble_eq_true rfl)) dX7_shows_33 ⟨Nat.zero_le _, Nat.zero_le _⟩) hS hA (fun H locs b15 hk hS => ?_)
        replace hP := wq_kp hP hk
        clear hk
        refine lv_if_eq (tgt := 50) hx hb dX7_shows_36 (by decide) (fun c16 => ?_) (fun c16 => ?_)
        · replace hG := wq_t c16 hG
          refine lv_iconst (v := (-1)) hx hb dX7_shows_50 (by decide) ?_
          obtain ⟨e0, e1, e2⟩ := wq_j3 hG
          subst e0
          subst e1
          subst e2
          exact W.iret hx hb hr (fun t ht hW => ⟨⟨_, (), rfl, ⟨rfl, trivial⟩, by rw [ht]; exact hP, hD⟩, hS.F ht⟩) hS.2.2 dX7_shows_51
        · replace hG := wq_f c16 hG
          refine lv_iload hx hb dX7_shows_39 (lv_at hl 5 rfl) ?_
          refine lv_iconst (v := 0) hx hb dX7_shows_41 (by decide) ?_
          refine lv_bipush (v := 60) hx hb dX7_shows_42 (by decide) ?_
          obtain ⟨v18, g17, hG⟩ := wq_b1_s hG
          refine wq_ci (v := v18) (B := wq_Z1) (va_runS (As := [.int a5, .int 0, .int 60]) (rest := []) ⟨hx, hb, hml, hown, hts⟩ (C_X7_in l dC dI cI cJ cZ qa H.size  a5 0 60 v18 g17) (va_cwS 3 hts gX7_shows_X7_in rfl rfl rfl hdS_X7_in ⟨Nat.le_of_ble_eq_true rfl, Nat.le_of_ble_eq_true rfl⟩) (wq_ppS hK (hP.sub (ws' := []) [] rfl) hE hS hA) rfl rfl hl.1 rfl (lv_room (Nat.le_of_ble_eq_true rfl)) dX7_shows_44 ⟨Nat.zero_le _, Nat.zero_le _⟩) hS hA (fun H locs b19 hk hS => ?_)
          replace hP := wq_kp hP hk
          clear hk
          refine lv_if_ne (tgt := 52) hx hb dX7_shows_47 (by decide) (fun c20 => ?_) (fun c20 => ?_)
          · replace hG := wq_f c20 hG
            refine lv_aload_n hx hb dX7_shows_52 rfl (lv_at hl 0 rfl) ?_
            refine va_get (D := (dC, dI)) (ci := 7) (v := .int m_noted) (C := RX7) (T := TX7) (N := 19) hx hb hts hinX7 hown hK hP 0 rfl rfl 11 (by decide) k1 (fun _ h9 => h9) rfl dX7_shows_53 ?_
            refine lv_bipush (v := 6) hx hb dX7_shows_56 (by decide) ?_
            refine lv_icmp_ne (tgt := 64) hx hb dX7_shows_58 (by decide) (fun c21 => ?_) (fun c21 => ?_)
            · replace hG := wq_f c21 hG
              refine lv_aload_n hx hb dX7_shows_64 rfl (lv_at hl 0 rfl) ?_
              refine va_get (D := (dC, dI)) (ci := 7) (v := .ref (qa 8)) (C := RX7) (T := TX7) (N := 19) hx hb hts hinX7 hown hK hP 0 rfl rfl 10 (by decide) k2 (fun _ h9 => h9) rfl dX7_shows_65 ?_
              refine lv_iconst (v := 5) hx hb dX7_shows_68 (by decide) ?_
              refine lv_aload_n hx hb dX7_shows_69 rfl (lv_at hl 0 rfl) ?_
              refine va_get (D := (dC, dI)) (ci := 7) (v := .int m_noted) (C := RX7) (T := TX7) (N := 19) hx hb hts hinX7 hown hK hP 0 rfl rfl 11 (by decide) k1 (fun _ h9 => h9) rfl dX7_shows_70 ?_
              refine lv_imul hx hb dX7_shows_73 ?_
              refine lv_iload_n hx hb dX7_shows_74 rfl (lv_at hl 1 rfl) ?_
              obtain ⟨h22, hG⟩ := wq_chk_s hG
              refine wq_iast (D := (dC, dI)) hx hb hK hP hD hS 8 0 rfl rfl h22 (Int32.toNatClampNeg (5 * m_noted)) rfl (wcM qa cI cJ cZ m_trace m_text m_typed m_told m_draft m_s m_past m_known m_images m_kept (upd m_notes (Int32.toNatClampNeg (5 * m_noted)) a1) m_noted m_at m_sort m_start m_value m_steps m_rows m_held) rfl dX7_shows_75 (fun H locs hP hD hS => ?_)
              refine lv_aload_n hx hb dX7_shows_76 rfl (lv_at hl 0 rfl) ?_
              refine va_get (D := (dC, dI)) (ci := 7) (v := .ref (qa 8)) (C := RX7) (T := TX7) (N := 19) hx hb hts hinX7 hown hK hP 0 rfl rfl 10 (by decide) k2 (fun _ h9 => h9) rfl dX7_shows_77 ?_
              refine lv_iconst (v := 5) hx hb dX7_shows_80 (by decide) ?_
              refine lv_aload_n hx hb dX7_shows_81 rfl (lv_at hl 0 rfl) ?_
              refine va_get (D := (dC, dI)) (ci := 7) (v := .int m_noted) (C := RX7) (T := TX7) (N := 19) hx hb hts hinX7 hown hK hP 0 rfl rfl 11 (by decide) k1 (fun _ h9 => h9) rfl dX7_shows_82 ?_
              refine lv_imul hx hb dX7_shows_85 ?_
              refine lv_iconst (v := 1) hx hb dX7_shows_86 (by decide) ?_
              refine lv_iadd hx hb dX7_shows_87 ?_
              refine lv_iload_n hx hb dX7_shows_88 rfl (lv_at hl 2 rfl) ?_
              obtain ⟨h23, hG⟩ := wq_chk_s hG
              refine wq_iast (D := (dC, dI)) hx hb hK hP hD hS 8 0 rfl rfl h23 (Int32.toNatClampNeg ((5 * m_noted) + 1)) rfl (wcM qa cI cJ cZ m_trace m_text m_typed m_told m_draft m_s m_past m_known m_images m_kept (upd (upd m_notes (Int32.toNatClampNeg (5 * m_noted)) a1) (Int32.toNatClampNeg ((5 * m_noted) + 1)) a2) m_noted m_at m_sort m_start m_value m_steps m_rows m_held) rfl dX7_shows_89 (fun H locs hP hD hS => ?_)
              refine lv_aload_n hx hb dX7_shows_90 rfl (lv_at hl 0 rfl) ?_
              refine va_get (D := (dC, dI)) (ci := 7) (v := .ref (qa 8)) (C := RX7) (T := TX7) (N := 19) hx hb hts hinX7 hown hK hP 0 rfl rfl 10 (by decide) k2 (fun _ h9 => h9) rfl dX7_shows_91 ?_
              refine lv_iconst (v := 5) hx hb dX7_shows_94 (by decide) ?_
              refine lv_aload_n hx hb dX7_shows_95 rfl (lv_at hl 0 rfl) ?_
              refine va_get (D := (dC, dI)) (ci := 7) (v := .int m_noted) (C := RX7) (T := TX7) (N := 19) hx hb hts hinX7 hown hK hP 0 rfl rfl 11 (by decide) k1 (fun _ h9 => h9) rfl dX7_shows_96 ?_
              refine lv_imul hx hb dX7_shows_99 ?_
              refine lv_iconst (v := 2) hx hb dX7_shows_100 (by decide) ?_
              refine lv_iadd hx hb dX7_shows_101 ?_
              refine lv_iload_n hx hb dX7_shows_102 rfl (lv_at hl 3 rfl) ?_
              obtain ⟨h24, hG⟩ := wq_chk_s hG
              refine wq_iast (D := (dC, dI)) hx hb hK hP hD hS 8 0 rfl rfl h24 (Int32.toNatClampNeg ((5 * m_noted) + 2)) rfl (wcM qa cI cJ cZ m_trace m_text m_typed m_told m_draft m_s m_past m_known m_images m_kept (upd (upd (upd m_notes (Int32.toNatClampNeg (5 * m_noted)) a1) (Int32.toNatClampNeg ((5 * m_noted) + 1)) a2) (Int32.toNatClampNeg ((5 * m_noted) + 2)) a3) m_noted m_at m_sort m_start m_value m_steps m_rows m_held) rfl dX7_shows_103 (fun H locs hP hD hS => ?_)
              refine lv_aload_n hx hb dX7_shows_104 rfl (lv_at hl 0 rfl) ?_
              refine va_get (D := (dC, dI)) (ci := 7) (v := .ref (qa 8)) (C := RX7) (T := TX7) (N := 19) hx hb hts hinX7 hown hK hP 0 rfl rfl 10 (by decide) k2 (fun _ h9 => h9) rfl dX7_shows_105 ?_
              refine lv_iconst (v := 5) hx hb dX7_shows_108 (by decide) ?_
              refine lv_aload_n hx hb dX7_shows_109 rfl (lv_at hl 0 rfl) ?_
              refine va_get (D := (dC, dI)) (ci := 7) (v := .int m_noted) (C := RX7) (T := TX7) (N := 19) hx hb hts hinX7 hown hK hP 0 rfl rfl 11 (by decide) k1 (fun _ h9 => h9) rfl dX7_shows_110 ?_
              refine lv_imul hx hb dX7_shows_113 ?_
              refine lv_iconst (v := 3) hx hb dX7_shows_114 (by decide) ?_
              refine lv_iadd hx hb dX7_shows_115 ?_
              refine lv_iload hx hb dX7_shows_116 (lv_at hl 4 rfl) ?_
              obtain ⟨h25, hG⟩ := wq_chk_s hG
              refine wq_iast (D := (dC, dI)) hx hb hK hP hD hS 8 0 rfl rfl h25 (Int32.toNatClampNeg ((5 * m_noted) + 3)) rfl (wcM qa cI cJ cZ m_trace m_text m_typed m_told m_draft m_s m_past m_known m_images m_kept (upd (upd (upd (upd m_notes (Int32.toNatClampNeg (5 * m_noted)) a1) (Int32.toNatClampNeg ((5 * m_noted) + 1)) a2) (Int32.toNatClampNeg ((5 * m_noted) + 2)) a3) (Int32.toNatClampNeg ((5 * m_noted) + 3)) a4) m_noted m_at m_sort m_start m_value m_steps m_rows m_held) rfl dX7_shows_118 (fun H locs hP hD hS => ?_)
              refine lv_aload_n hx hb dX7_shows_119 rfl (lv_at hl 0 rfl) ?_
              refine va_get (D := (dC, dI)) (ci := 7) (v := .ref (qa 8)) (C := RX7) (T := TX7) (N := 19) hx hb hts hinX7 hown hK hP 0 rfl rfl 10 (by decide) k2 (fun _ h9 => h9) rfl dX7_shows_120 ?_
              refine lv_iconst (v := 5) hx hb dX7_shows_123 (by decide) ?_
              refine lv_aload_n hx hb dX7_shows_124 rfl (lv_at hl 0 rfl) ?_
              refine va_get (D := (dC, dI)) (ci := 7) (v := .int m_noted) (C := RX7) (T := TX7) (N := 19) hx hb hts hinX7 hown hK hP 0 rfl rfl 11 (by decide) k1 (fun _ h9 => h9) rfl dX7_shows_125 ?_
              refine lv_imul hx hb dX7_shows_128 ?_
              refine lv_iconst (v := 4) hx hb dX7_shows_129 (by decide) ?_
              refine lv_iadd hx hb dX7_shows_130 ?_
              refine lv_iload hx hb dX7_shows_131 (lv_at hl 5 rfl) ?_
              obtain ⟨h26, hG⟩ := wq_chk_s hG
              refine wq_iast (D := (dC, dI)) hx hb hK hP hD hS 8 0 rfl rfl h26 (Int32.toNatClampNeg ((5 * m_noted) + 4)) rfl (wcM qa cI cJ cZ m_trace m_text m_typed m_told m_draft m_s m_past m_known m_images m_kept (upd (upd (upd (upd (upd m_notes (Int32.toNatClampNeg (5 * m_noted)) a1) (Int32.toNatClampNeg ((5 * m_noted) + 1)) a2) (Int32.toNatClampNeg ((5 * m_noted) + 2)) a3) (Int32.toNatClampNeg ((5 * m_noted) + 3)) a4) (Int32.toNatClampNeg ((5 * m_noted) + 4)) a5) m_noted m_at m_sort m_start m_value m_steps m_rows m_held) rfl dX7_shows_133 (fun H locs hP hD hS => ?_)
              refine lv_aload_n hx hb dX7_shows_134 rfl (lv_at hl 0 rfl) ?_
              refine lv_dup hx hb dX7_shows_135 rfl ?_
              refine va_get (D := (dC, dI)) (ci := 7) (v := .int m_noted) (C := RX7) (T := TX7) (N := 19) hx hb hts hinX7 hown hK hP 0 rfl rfl 11 (by decide) k1 (fun _ h9 => h9) rfl dX7_shows_136 ?_
              refine lv_iconst (v := 1) hx hb dX7_shows_139 (by decide) ?_
              refine lv_iadd hx hb dX7_shows_140 ?_
              refine va_put (D := (dC, dI)) (ci := 7) (v := .int (m_noted + 1)) (ty := tyX7 11) (C := RX7) (T := TX7) (N := 19) hx hb hts hinX7 tyX7 tyX7_ok nmX7 hown hK hP hD hS 0 rfl rfl 11 (by decide) k1 (fun _ h9 => h9) rfl (tyX7_ok 11 (by decide)) rfl rfl (Nat.le_of_ble_eq_true rfl) dX7_shows_141 (fun H locs hP hD hS => ?_)
              replace hP : va_P (dC, dI) vwCl (wcM qa cI cJ cZ m_trace m_text m_typed m_told m_draft m_s m_past m_known m_images m_kept (upd (upd (upd (upd (upd m_notes (Int32.toNatClampNeg (5 * m_noted)) a1) (Int32.toNatClampNeg ((5 * m_noted) + 1)) a2) (Int32.toNatClampNeg ((5 * m_noted) + 2)) a3) (Int32.toNatClampNeg ((5 * m_noted) + 3)) a4) (Int32.toNatClampNeg ((5 * m_noted) + 4)) a5) (m_noted + 1) m_at m_sort m_start m_value m_steps m_rows m_held) H := hP
              replace hD : va_D A (wcM qa cI cJ cZ m_trace m_text m_typed m_told m_draft m_s m_past m_known m_images m_kept (upd (upd (upd (upd (upd m_notes (Int32.toNatClampNeg (5 * m_noted)) a1) (Int32.toNatClampNeg ((5 * m_noted) + 1)) a2) (Int32.toNatClampNeg ((5 * m_noted) + 2)) a3) (Int32.toNatClampNeg ((5 * m_noted) + 3)) a4) (Int32.toNatClampNeg ((5 * m_noted) + 4)) a5) (m_noted + 1) m_at m_sort m_start m_value m_steps m_rows m_held) := hD
              refine lv_aload_n hx hb dX7_shows_144 rfl (lv_at hl 0 rfl) ?_
              refine va_get (D := (dC, dI)) (ci := 7) (v := .int (m_noted + 1)) (C := RX7) (T := TX7) (N := 19) hx hb hts hinX7 hown hK hP 0 rfl rfl 11 (by decide) k1 (fun _ h9 => h9) rfl dX7_shows_145 ?_
              obtain ⟨e0, e1, e2⟩ := wq_j3 hG
              subst e0
              subst e1
              subst e2
              exact W.iret hx hb hr (fun t ht hW => ⟨⟨_, (), rfl, ⟨rfl, trivial⟩, by rw [ht]; exact hP, hD⟩, hS.F ht⟩) hS.2.2 dX7_shows_148
            · replace hG := wq_t c21 hG
              refine lv_bipush (v := (-3)) hx hb dX7_shows_61 (by decide) ?_
              obtain ⟨e0, e1, e2⟩ := wq_j3 hG
              subst e0
              subst e1
              subst e2
              exact W.iret hx hb hr (fun t ht hW => ⟨⟨_, (), rfl, ⟨rfl, trivial⟩, by rw [ht]; exact hP, hD⟩, hS.F ht⟩) hS.2.2 dX7_shows_63
          · replace hG := wq_t c20 hG
            refine lv_iconst (v := (-1)) hx hb dX7_shows_50 (by decide) ?_
            obtain ⟨e0, e1, e2⟩ := wq_j3 hG
            subst e0
            subst e1
            subst e2
            exact W.iret hx hb hr (fun t ht hW => ⟨⟨_, (), rfl, ⟨rfl, trivial⟩, by rw [ht]; exact hP, hD⟩, hS.F ht⟩) hS.2.2 dX7_shows_51

theorem hdV_X7_forget : yX7_forget.cls = RX7 ∧ yX7_forget.cls ≠ "java/lang/invoke/MethodHandle" ∧ yX7_forget.cls ≠ "java/lang/invoke/VarHandle" ∧ (parseMethodDescriptor yX7_forget.desc).map (fun d => d.parameters.length) = some 0 := by decide +kernel
set_option maxHeartbeats 4000000 in
set_option maxRecDepth 100000 in
theorem C_X7_forget (l : Launch) (dC : Nat → ClassId) (dI : Nat → Nat → Nat) (cI cJ cZ : ClassId) (qa : Nat → Nat) (sz : Nat) (m_trace : Int64) (m_text : Nat → Int32) (m_typed : Int32) (m_told : Nat → Int32) (m_draft : Nat → Int32) (m_s : Nat → Int32) (m_past : Nat → Int32) (m_known : Int32) (m_images : Nat → Int32) (m_kept : Nat → Int32) (m_notes : Nat → Int32) (m_noted : Int32) (m_at : Int32) (m_sort : Int32) (m_start : Int32) (m_value : Int32) (m_steps : Nat → Int32) (m_rows : Nat → Int32) (m_held : Nat → Int32) (r0 : Int32) (r_m_noted : Int32) (hG : gX7_forget m_noted = some (r0, r_m_noted)) : Met l yX7_forget wsX7_forget ({ frames := 0, cells := 0, slots := 0, locals := 0 } : Room) (va_Pc [.ref (qa 0)] (wq_pw (dC, dI) [(cI, .int), (cJ, .long), (cZ, .boolean)] (wcM qa cI cJ cZ m_trace m_text m_typed m_told m_draft m_s m_past m_known m_images m_kept m_notes m_noted m_at m_sort m_start m_value m_steps m_rows m_held) sz)) (wq_Wi (dC, dI) r0 wq_tr (wcM qa cI cJ cZ m_trace m_text m_typed m_told m_draft m_s m_past m_known m_images m_kept m_notes r_m_noted m_at m_sort m_start m_value m_steps m_rows m_held) (va_A (wcM qa cI cJ cZ m_trace m_text m_typed m_told m_draft m_s m_past m_known m_images m_kept m_notes m_noted m_at m_sort m_start m_value m_steps m_rows m_held) sz)) 0 0 (va_A (wcM qa cI cJ cZ m_trace m_text m_typed m_told m_draft m_s m_past m_known m_images m_kept m_notes m_noted m_at m_sort m_start m_value m_steps m_rows m_held) sz) := by
  refine Met.ofW (cc := cX7_forget) (maxL := 2) (ret := (some .int)) (by decide) rfl ?_
  intro p e s m args below meth c s₁ B hml hv
  obtain ⟨rfl, hsz, hP, hK, hD0, hE⟩ := hv
  have hx := B.exec
  have hb := B.bytes
  have hr := B.returns
  have hts := atoms_spec (ws := wsX7_forget) B.pre
  have hown : s.vm.findClass RX7 = some m.cls := findClass_of_methodNamed B.named
  have hlocks := B.notSynchronized
  subst hsz
  have hD := hD0.self (sz := s.heap.size)
  generalize hAe : va_A (wcM qa cI cJ cZ m_trace m_text m_typed m_told m_draft m_s m_past m_known m_images m_kept m_notes m_noted m_at m_sort m_start m_value m_steps m_rows m_held) s.heap.size = A at hD hE ⊢
  have hA : ∀ q : Nat, s.heap.size ≤ q → A q := fun q h => by rw [← hAe]; exact Or.inr h
  have hS : va_S A s.heap s.heap [] := va_S.rf
  have hinX7 : ∀ w ∈ u_ws RX7 TX7 19, w ∈ wsX7_forget := by decide +kernel
  have k1 := hts (.fieldLink RX7 98 "DoorMorningsModel" "noted" "I") (by decide +kernel)
  have hl := lv_entry ([.ref (qa 0)]) (n := 2) (Nat.le_of_ble_eq_true rfl)
  rw [lg_entry_eq]
  generalize (lg_sl ([.ref (qa 0)]) ++ List.replicate (2 - (lg_sl ([.ref (qa 0)])).length) Slot.unset).toArray = ls at hl ⊢
  have hl : lv_has ls 2 [(0, .ref (qa 0))] := hl
  unfold gX7_forget at hG
  refine lv_aload_n hx hb dX7_forget_0 rfl (lv_at hl 0 rfl) ?_
  refine va_get (D := (dC, dI)) (ci := 7) (v := .int m_noted) (C := RX7) (T := TX7) (N := 19) hx hb hts hinX7 hown hK hP 0 rfl rfl 11 (by decide) k1 (fun _ h9 => h9) rfl dX7_forget_1 ?_
  refine lv_istore_n (lv' := [(1, .int m_noted), (0, .ref (qa 0))]) hx hb dX7_forget_4 rfl hl (by decide) rfl (fun ls hl => ?_)
  refine lv_aload_n hx hb dX7_forget_5 rfl (lv_at hl 1 rfl) ?_
  refine lv_iconst (v := 0) hx hb dX7_forget_6 (by decide) ?_
  refine va_put (D := (dC, dI)) (ci := 7) (v := .int 0) (ty := tyX7 11) (C := RX7) (T := TX7) (N := 19) hx hb hts hinX7 tyX7 tyX7_ok nmX7 hown hK hP hD hS 0 rfl rfl 11 (by decide) k1 (fun _ h9 => h9) rfl (tyX7_ok 11 (by decide)) rfl rfl (Nat.le_of_ble_eq_true rfl) dX7_forget_7 (fun H locs hP hD hS => ?_)
  replace hP : va_P (dC, dI) vwCl (wcM qa cI cJ cZ m_trace m_text m_typed m_told m_draft m_s m_past m_known m_images m_kept m_notes 0 m_at m_sort m_start m_value m_steps m_rows m_held) H := hP
  replace hD : va_D A (wcM qa cI cJ cZ m_trace m_text m_typed m_told m_draft m_s m_past m_known m_images m_kept m_notes 0 m_at m_sort m_start m_value m_steps m_rows m_held) := hD
  refine lv_iload_n hx hb dX7_forget_10 rfl (lv_at hl 0 rfl) ?_
  obtain ⟨e0, e1⟩ := wq_j2 hG
  subst e0
  subst e1
  exact W.iret hx hb hr (fun t ht hW => ⟨⟨_, (), rfl, ⟨rfl, trivial⟩, by rw [ht]; exact hP, hD⟩, hS.F ht⟩) hS.2.2 dX7_forget_11

theorem hdV_X7_fits : yX7_fits.cls = RX7 ∧ yX7_fits.cls ≠ "java/lang/invoke/MethodHandle" ∧ yX7_fits.cls ≠ "java/lang/invoke/VarHandle" ∧ (parseMethodDescriptor yX7_fits.desc).map (fun d => d.parameters.length) = some 0 := by decide +kernel
set_option maxHeartbeats 4000000 in
set_option maxRecDepth 100000 in
theorem C_X7_fits (l : Launch) (dC : Nat → ClassId) (dI : Nat → Nat → Nat) (cI cJ cZ : ClassId) (qa : Nat → Nat) (sz : Nat) (m_trace : Int64) (m_text : Nat → Int32) (m_typed : Int32) (m_told : Nat → Int32) (m_draft : Nat → Int32) (m_s : Nat → Int32) (m_past : Nat → Int32) (m_known : Int32) (m_images : Nat → Int32) (m_kept : Nat → Int32) (m_notes : Nat → Int32) (m_noted : Int32) (m_at : Int32) (m_sort : Int32) (m_start : Int32) (m_value : Int32) (m_steps : Nat → Int32) (m_rows : Nat → Int32) (m_held : Nat → Int32) (r0 : Int32) (hG : gX7_fits m_told m_notes m_noted = some r0) : Met l yX7_fits wsX7_fits ({ frames := 2, cells := 0, slots := 0, locals := 47 } : Room) (va_Pc [.ref (qa 0)] (wq_pp (dC, dI) [(cI, .int), (cJ, .long), (cZ, .boolean)] (wcM qa cI cJ cZ m_trace m_text m_typed m_told m_draft m_s m_past m_known m_images m_kept m_notes m_noted m_at m_sort m_start m_value m_steps m_rows m_held) sz)) (wq_Qi r0 wq_tr (va_A [] sz)) 0 0 (va_A [] sz) := by
  refine Met.ofW (cc := cX7_fits) (maxL := 5) (ret := (some .int)) (by decide) rfl ?_
  intro p e s m args below meth c s₁ B hml hv
  obtain ⟨rfl, hsz, hP, hK, hE⟩ := hv
  have hx := B.exec
  have hb := B.bytes
  have hr := B.returns
  have hts := atoms_spec (ws := wsX7_fits) B.pre
  have hown : s.vm.findClass RX7 = some m.cls := findClass_of_methodNamed B.named
  have hlocks := B.notSynchronized
  subst hsz
  generalize hAe : va_A [] s.heap.size = A at hE ⊢
  have hA : ∀ q : Nat, s.heap.size ≤ q → A q := fun q h => by rw [← hAe]; exact Or.inr h
  have hS : va_S A s.heap s.heap [] := va_S.rf
  have hinX7 : ∀ w ∈ u_ws RX7 TX7 19, w ∈ wsX7_fits := by decide +kernel
  have k1 := hts (.fieldLink RX7 98 "DoorMorningsModel" "noted" "I") (by decide +kernel)
  have k2 := hts (.fieldLink RX7 13 "DoorMorningsModel" "told" "[I") (by decide +kernel)
  have k3 := hts (.fieldLink RX7 32 "DoorMorningsModel" "notes" "[I") (by decide +kernel)
  have hl := lv_entry ([.ref (qa 0)]) (n := 5) (Nat.le_of_ble_eq_true rfl)
  rw [lg_entry_eq]
  generalize (lg_sl ([.ref (qa 0)]) ++ List.replicate (5 - (lg_sl ([.ref (qa 0)])).length) Slot.unset).toArray = ls at hl ⊢
  have hl : lv_has ls 5 [(0, .ref (qa 0))] := hl
  have hL15 : ∀ (x1 : Int32) (x2 : Int32) (kk4 : Int32 → Int32 → Option (Int32)) (hk4 : ∀ (y1 : Int32) (y2 : Int32) (H : Heap) (locs : List Loc) (ls : Array Slot), kk4 y1 y2 = some r0 → va_P (dC, dI) vwCl (wcM qa cI cJ cZ m_trace m_text m_typed m_told m_draft m_s m_past m_known m_images m_kept m_notes m_noted m_at m_sort m_start m_value m_steps m_rows m_held) H → va_S A s.heap H locs → lv_has ls 5 [(0, .ref (qa 0)), (1, .int y1), (2, .int y2)] → W p l e (headSpec wsX7_fits ({ frames := 2, cells := 0, slots := 0, locals := 47 } : Room)).room s m ([.ref (qa 0)] : List Value).toArray below meth c H locs 0 0 (MQ below (wq_Qi r0 wq_tr A) ([.ref (qa 0)] : List Value).toArray s 0 0 A) (F0 m 4 ls [])) (n : Nat) (x3 : Int32) (x4 : Int32) (H : Heap) (locs : List Loc) (ls : Array Slot), gX7_fits_L15 kk4 m_told m_notes m_noted x1 x2 n x3 x4 = some r0 → va_P (dC, dI) vwCl (wcM qa cI cJ cZ m_trace m_text m_typed m_told m_draft m_s m_past m_known m_images m_kept m_notes m_noted m_at m_sort m_start m_value m_steps m_rows m_held) H → va_S A s.heap H locs → lv_has ls 5 [(0, .ref (qa 0)), (1, .int x1), (2, .int x2), (3, .int x3), (4, .int x4)] → W p l e (headSpec wsX7_fits ({ frames := 2, cells := 0, slots := 0, locals := 47 } : Room)).room s m ([.ref (qa 0)] : List Value).toArray below meth c H locs 0 0 (MQ below (wq_Qi r0 wq_tr A) ([.ref (qa 0)] : List Value).toArray s 0 0 A) (F0 m 15 ls []) := by
    intro x1 x2 kk4 hk4 n
    induction n with
    | zero =>
      intro x3 x4 H locs ls hG
      exact absurd (show (none : Option (Int32)) = some r0 from hG) (by intro h9; cases h9)
    | succ n ih15 =>
      intro x3 x4 H locs ls hG hP hS hl
      rw [gX7_fits_L15] at hG
      refine lv_iload hx hb dX7_fits_15 (lv_at hl 4 rfl) ?_
      refine lv_iconst (v := 5) hx hb dX7_fits_17 (by decide) ?_
      refine lv_aload_n hx hb dX7_fits_18 rfl (lv_at hl 0 rfl) ?_
      refine va_get (D := (dC, dI)) (ci := 7) (v := .int m_noted) (C := RX7) (T := TX7) (N := 19) hx hb hts hinX7 hown hK hP 0 rfl rfl 11 (by decide) k1 (fun _ h9 => h9) rfl dX7_fits_19 ?_
      refine lv_imul hx hb dX7_fits_22 ?_
      refine lv_icmp_ge (tgt := 100) hx hb dX7_fits_23 (by decide) (fun c1 => ?_) (fun c1 => ?_)
      · replace hG := wq_t c1 hG
        refine lv_iload_n hx hb dX7_fits_100 rfl (lv_at hl 1 rfl) ?_
        refine lv_iload_n hx hb dX7_fits_101 rfl (lv_at hl 3 rfl) ?_
        refine lv_if_eq (tgt := 111) hx hb dX7_fits_102 (by decide) (fun c2 => ?_) (fun c2 => ?_)
        · replace hG := wq_t c2 hG
          refine lv_iconst (v := 0) hx hb dX7_fits_111 (by decide) ?_
          refine lv_ior hx hb dX7_fits_112 ?_
          refine lv_istore_n (lv' := [(1, .int (x1 ||| 0)), (0, .ref (qa 0)), (2, .int x2), (3, .int x3), (4, .int x4)]) hx hb dX7_fits_113 rfl hl (by decide) rfl (fun ls hl => ?_)
          refine lv_iinc (v := (x2 + 1)) (lv' := [(2, .int (x2 + 1)), (1, .int (x1 ||| 0)), (0, .ref (qa 0)), (3, .int x3), (4, .int x4)]) hx hb dX7_fits_114 hl (k := 2) rfl rfl (by decide) rfl (fun ls hl => ?_)
          refine lv_goto (tgt := 4) hx hb dX7_fits_117 (by decide) ?_
          exact hk4 (x1 ||| 0) (x2 + 1) _ _ _ hG hP hS (lv_sub hl [2, 1, 0] rfl)
        · replace hG := wq_f c2 hG
          refine lv_iconst (v := 1) hx hb dX7_fits_105 (by decide) ?_
          refine lv_iload_n hx hb dX7_fits_106 rfl (lv_at hl 2 rfl) ?_
          refine lv_ishl hx hb dX7_fits_107 ?_
          refine lv_goto (tgt := 112) hx hb dX7_fits_108 (by decide) ?_
          refine lv_ior hx hb dX7_fits_112 ?_
          refine lv_istore_n (lv' := [(1, .int (x1 ||| (1 <<< (x2 &&& 31)))), (0, .ref (qa 0)), (2, .int x2), (3, .int x3), (4, .int x4)]) hx hb dX7_fits_113 rfl hl (by decide) rfl (fun ls hl => ?_)
          refine lv_iinc (v := (x2 + 1)) (lv' := [(2, .int (x2 + 1)), (1, .int (x1 ||| (1 <<< (x2 &&& 31)))), (0, .ref (qa 0)), (3, .int x3), (4, .int x4)]) hx hb dX7_fits_114 hl (k := 2) rfl rfl (by decide) rfl (fun ls hl => ?_)
          refine lv_goto (tgt := 4) hx hb dX7_fits_117 (by decide) ?_
          exact hk4 (x1 ||| (1 <<< (x2 &&& 31))) (x2 + 1) _ _ _ hG hP hS (lv_sub hl [2, 1, 0] rfl)
      · replace hG := wq_f c1 hG
        refine lv_iload_n hx hb dX7_fits_26 rfl (lv_at hl 3 rfl) ?_
        refine lv_if_eq (tgt := 92) hx hb dX7_fits_27 (by decide) (fun c3 => ?_) (fun c3 => ?_)
        · replace hG := wq_t c3 hG
          refine lv_iconst (v := 0) hx hb dX7_fits_92 (by decide) ?_
          refine lv_istore_n (lv' := [(3, .int 0), (0, .ref (qa 0)), (1, .int x1), (2, .int x2), (4, .int x4)]) hx hb dX7_fits_93 rfl hl (by decide) rfl (fun ls hl => ?_)
          refine lv_iinc (v := (x4 + 5)) (lv' := [(4, .int (x4 + 5)), (3, .int 0), (0, .ref (qa 0)), (1, .int x1), (2, .int x2)]) hx hb dX7_fits_94 hl (k := 4) rfl rfl (by decide) rfl (fun ls hl => ?_)
          refine lv_goto (tgt := 15) hx hb dX7_fits_97 (by decide) ?_
          exact ih15 0 (x4 + 5) _ _ _ hG hP hS (lv_sub hl [2, 3, 4, 1, 0] rfl)
        · replace hG := wq_f c3 hG
          refine lv_aload_n hx hb dX7_fits_30 rfl (lv_at hl 0 rfl) ?_
          refine va_get (D := (dC, dI)) (ci := 7) (v := .ref (qa 2)) (C := RX7) (T := TX7) (N := 19) hx hb hts hinX7 hown hK hP 0 rfl rfl 3 (by decide) k2 (fun _ h9 => h9) rfl dX7_fits_31 ?_
          refine lv_bipush (v := 8) hx hb dX7_fits_34 (by decide) ?_
          refine lv_aload_n hx hb dX7_fits_36 rfl (lv_at hl 0 rfl) ?_
          refine va_get (D := (dC, dI)) (ci := 7) (v := .ref (qa 8)) (C := RX7) (T := TX7) (N := 19) hx hb hts hinX7 hown hK hP 0 rfl rfl 10 (by decide) k3 (fun _ h9 => h9) rfl dX7_fits_37 ?_
          refine lv_iload hx hb dX7_fits_40 (lv_at hl 4 rfl) ?_
          obtain ⟨h4, hG⟩ := wq_chk_s hG
          refine wq_iald (D := (dC, dI)) hx hb hK hP 8 0 rfl rfl h4 (Int32.toNatClampNeg x4) rfl dX7_fits_42 ?_
          refine lv_iadd hx hb dX7_fits_43 ?_
          obtain ⟨h5, hG⟩ := wq_chk_s hG
          refine wq_iald (D := (dC, dI)) hx hb hK hP 2 0 rfl rfl h5 (Int32.toNatClampNeg (8 + (m_notes (Int32.toNatClampNeg x4)))) rfl dX7_fits_44 ?_
          refine lv_iload_n hx hb dX7_fits_45 rfl (lv_at hl 2 rfl) ?_
          refine lv_aload_n hx hb dX7_fits_46 rfl (lv_at hl 0 rfl) ?_
          refine va_get (D := (dC, dI)) (ci := 7) (v := .ref (qa 8)) (C := RX7) (T := TX7) (N := 19) hx hb hts hinX7 hown hK hP 0 rfl rfl 10 (by decide) k3 (fun _ h9 => h9) rfl dX7_fits_47 ?_
          refine lv_iload hx hb dX7_fits_50 (lv_at hl 4 rfl) ?_
          refine lv_iconst (v := 1) hx hb dX7_fits_52 (by decide) ?_
          refine lv_iadd hx hb dX7_fits_53 ?_
          obtain ⟨h6, hG⟩ := wq_chk_s hG
          refine wq_iald (D := (dC, dI)) hx hb hK hP 8 0 rfl rfl h6 (Int32.toNatClampNeg (x4 + 1)) rfl dX7_fits_54 ?_
          refine lv_aload_n hx hb dX7_fits_55 rfl (lv_at hl 0 rfl) ?_
          refine va_get (D := (dC, dI)) (ci := 7) (v := .ref (qa 8)) (C := RX7) (T := TX7) (N := 19) hx hb hts hinX7 hown hK hP 0 rfl rfl 10 (by decide) k3 (fun _ h9 => h9) rfl dX7_fits_56 ?_
          refine lv_iload hx hb dX7_fits_59 (lv_at hl 4 rfl) ?_
          refine lv_iconst (v := 2) hx hb dX7_fits_61 (by decide) ?_
          refine lv_iadd hx hb dX7_fits_62 ?_
          obtain ⟨h7, hG⟩ := wq_chk_s hG
          refine wq_iald (D := (dC, dI)) hx hb hK hP 8 0 rfl rfl h7 (Int32.toNatClampNeg (x4 + 2)) rfl dX7_fits_63 ?_
          refine lv_aload_n hx hb dX7_fits_64 rfl (lv_at hl 0 rfl) ?_
          refine va_get (D := (dC, dI)) (ci := 7) (v := .ref (qa 8)) (C := RX7) (T := TX7) (N := 19) hx hb hts hinX7 hown hK hP 0 rfl rfl 10 (by decide) k3 (fun _ h9 => h9) rfl dX7_fits_65 ?_
          refine lv_iload hx hb dX7_fits_68 (lv_at hl 4 rfl) ?_
          refine lv_iconst (v := 3) hx hb dX7_fits_70 (by decide) ?_
          refine lv_iadd hx hb dX7_fits_71 ?_
          obtain ⟨h8, hG⟩ := wq_chk_s hG
          refine wq_iald (D := (dC, dI)) hx hb hK hP 8 0 rfl rfl h8 (Int32.toNatClampNeg (x4 + 3)) rfl dX7_fits_72 ?_
          obtain ⟨v10, g9, hG⟩ := wq_b1_s hG
          refine wq_ci (v := v10) (B := wq_tr) (va_runS (As := [.int (m_told (Int32.toNatClampNeg (8 + (m_notes (Int32.toNatClampNeg x4))))), .int x2, .int (m_notes (Int32.toNatClampNeg (x4 + 1))), .int (m_notes (Int32.toNatClampNeg (x4 + 2))), .int (m_notes (Int32.toNatClampNeg (x4 + 3)))]) (rest := []) ⟨hx, hb, hml, hown, hts⟩ (C_X7_cries l dC dI cI cJ cZ qa H.size  (m_told (Int32.toNatClampNeg (8 + (m_notes (Int32.toNatClampNeg x4))))) x2 (m_notes (Int32.toNatClampNeg (x4 + 1))) (m_notes (Int32.toNatClampNeg (x4 + 2))) (m_notes (Int32.toNatClampNeg (x4 + 3))) v10 g9) (va_cwS 5 hts gX7_fits_X7_cries rfl rfl rfl hdS_X7_cries ⟨Nat.le_of_ble_eq_true rfl, Nat.le_of_ble_eq_true rfl⟩) (wq_ppS hK (hP.sub (ws' := []) [] rfl) hE hS hA) rfl rfl hl.1 rfl (lv_room (Nat.le_of_ble_eq_true rfl)) dX7_fits_73 ⟨Nat.zero_le _, Nat.zero_le _⟩) hS hA (fun H locs b11 hk hS => ?_)
          replace hP := wq_kp hP hk
          clear hk
          refine lv_aload_n hx hb dX7_fits_76 rfl (lv_at hl 0 rfl) ?_
          refine va_get (D := (dC, dI)) (ci := 7) (v := .ref (qa 8)) (C := RX7) (T := TX7) (N := 19) hx hb hts hinX7 hown hK hP 0 rfl rfl 10 (by decide) k3 (fun _ h9 => h9) rfl dX7_fits_77 ?_
          refine lv_iload hx hb dX7_fits_80 (lv_at hl 4 rfl) ?_
          refine lv_iconst (v := 4) hx hb dX7_fits_82 (by decide) ?_
          refine lv_iadd hx hb dX7_fits_83 ?_
          obtain ⟨h12, hG⟩ := wq_chk_s hG
          refine wq_iald (D := (dC, dI)) hx hb hK hP 8 0 rfl rfl h12 (Int32.toNatClampNeg (x4 + 4)) rfl dX7_fits_84 ?_
          refine lv_icmp_ne (tgt := 92) hx hb dX7_fits_85 (by decide) (fun c13 => ?_) (fun c13 => ?_)
          · replace hG := wq_f c13 hG
            refine lv_iconst (v := 0) hx hb dX7_fits_92 (by decide) ?_
            refine lv_istore_n (lv' := [(3, .int 0), (0, .ref (qa 0)), (1, .int x1), (2, .int x2), (4, .int x4)]) hx hb dX7_fits_93 rfl hl (by decide) rfl (fun ls hl => ?_)
            refine lv_iinc (v := (x4 + 5)) (lv' := [(4, .int (x4 + 5)), (3, .int 0), (0, .ref (qa 0)), (1, .int x1), (2, .int x2)]) hx hb dX7_fits_94 hl (k := 4) rfl rfl (by decide) rfl (fun ls hl => ?_)
            refine lv_goto (tgt := 15) hx hb dX7_fits_97 (by decide) ?_
            exact ih15 0 (x4 + 5) _ _ _ hG hP hS (lv_sub hl [2, 3, 4, 1, 0] rfl)
          · replace hG := wq_t c13 hG
            refine lv_iconst (v := 1) hx hb dX7_fits_88 (by decide) ?_
            refine lv_goto (tgt := 93) hx hb dX7_fits_89 (by decide) ?_
            refine lv_istore_n (lv' := [(3, .int 1), (0, .ref (qa 0)), (1, .int x1), (2, .int x2), (4, .int x4)]) hx hb dX7_fits_93 rfl hl (by decide) rfl (fun ls hl => ?_)
            refine lv_iinc (v := (x4 + 5)) (lv' := [(4, .int (x4 + 5)), (3, .int 1), (0, .ref (qa 0)), (1, .int x1), (2, .int x2)]) hx hb dX7_fits_94 hl (k := 4) rfl rfl (by decide) rfl (fun ls hl => ?_)
            refine lv_goto (tgt := 15) hx hb dX7_fits_97 (by decide) ?_
            exact ih15 1 (x4 + 5) _ _ _ hG hP hS (lv_sub hl [2, 3, 4, 1, 0] rfl)
  have hL4 : ∀  (n : Nat) (x1 : Int32) (x2 : Int32) (H : Heap) (locs : List Loc) (ls : Array Slot), gX7_fits_L4 m_told m_notes m_noted n x1 x2 = some r0 → va_P (dC, dI) vwCl (wcM qa cI cJ cZ m_trace m_text m_typed m_told m_draft m_s m_past m_known m_images m_kept m_notes m_noted m_at m_sort m_start m_value m_steps m_rows m_held) H → va_S A s.heap H locs → lv_has ls 5 [(0, .ref (qa 0)), (1, .int x1), (2, .int x2)] → W p l e (headSpec wsX7_fits ({ frames := 2, cells := 0, slots := 0, locals := 47 } : Room)).room s m ([.ref (qa 0)] : List Value).toArray below meth c H locs 0 0 (MQ below (wq_Qi r0 wq_tr A) ([.ref (qa 0)] : List Value).toArray s 0 0 A) (F0 m 4 ls []) := by
    intro  n
    induction n with
    | zero =>
      intro x1 x2 H locs ls hG
      exact absurd (show (none : Option (Int32)) = some r0 from hG) (by intro h9; cases h9)
    | succ n ih4 =>
      intro x1 x2 H locs ls hG hP hS hl
      rw [gX7_fits_L4] at hG
      refine lv_iload_n hx hb dX7_fits_4 rfl (lv_at hl 2 rfl) ?_
      refine lv_bipush (v := 10) hx hb dX7_fits_5 (by decide) ?_
      refine lv_icmp_ge (tgt := 120) hx hb dX7_fits_7 (by decide) (fun c14 => ?_) (fun c14 => ?_)
      · replace hG := wq_t c14 hG
        refine lv_iload_n hx hb dX7_fits_120 rfl (lv_at hl 1 rfl) ?_
        exact W.iret (v := x1) hx hb hr (fun t ht hW => ⟨⟨x1, (), rfl, ⟨Option.some.inj hG, trivial⟩, trivial⟩, hS.F ht⟩) hS.2.2 dX7_fits_121
      · replace hG := wq_f c14 hG
        refine lv_iconst (v := 1) hx hb dX7_fits_10 (by decide) ?_
        refine lv_istore_n (lv' := [(3, .int 1), (0, .ref (qa 0)), (1, .int x1), (2, .int x2)]) hx hb dX7_fits_11 rfl hl (by decide) rfl (fun ls hl => ?_)
        refine lv_iconst (v := 0) hx hb dX7_fits_12 (by decide) ?_
        refine lv_istore (lv' := [(4, .int 0), (3, .int 1), (0, .ref (qa 0)), (1, .int x1), (2, .int x2)]) hx hb dX7_fits_13 hl (by decide) rfl (fun ls hl => ?_)
        exact hL15 x1 x2 (gX7_fits_L4 m_told m_notes m_noted n) ih4 1000 1 0 _ _ _ hG hP hS (lv_sub hl [2, 3, 4, 1, 0] rfl)
  unfold gX7_fits at hG
  refine lv_iconst (v := 0) hx hb dX7_fits_0 (by decide) ?_
  refine lv_istore_n (lv' := [(1, .int 0), (0, .ref (qa 0))]) hx hb dX7_fits_1 rfl hl (by decide) rfl (fun ls hl => ?_)
  refine lv_iconst (v := 1) hx hb dX7_fits_2 (by decide) ?_
  refine lv_istore_n (lv' := [(2, .int 1), (1, .int 0), (0, .ref (qa 0))]) hx hb dX7_fits_3 rfl hl (by decide) rfl (fun ls hl => ?_)
  exact hL4  1000 0 1 _ _ _ hG hP hS (lv_sub hl [2, 1, 0] rfl)

theorem hdV_X7_rate : yX7_rate.cls = RX7 ∧ yX7_rate.cls ≠ "java/lang/invoke/MethodHandle" ∧ yX7_rate.cls ≠ "java/lang/invoke/VarHandle" ∧ (parseMethodDescriptor yX7_rate.desc).map (fun d => d.parameters.length) = some 2 := by decide +kernel
set_option maxHeartbeats 4000000 in
set_option maxRecDepth 100000 in
theorem C_X7_rate (l : Launch) (dC : Nat → ClassId) (dI : Nat → Nat → Nat) (cI cJ cZ : ClassId) (qa : Nat → Nat) (sz : Nat) (m_trace : Int64) (m_text : Nat → Int32) (m_typed : Int32) (m_told : Nat → Int32) (m_draft : Nat → Int32) (m_s : Nat → Int32) (m_past : Nat → Int32) (m_known : Int32) (m_images : Nat → Int32) (m_kept : Nat → Int32) (m_notes : Nat → Int32) (m_noted : Int32) (m_at : Int32) (m_sort : Int32) (m_start : Int32) (m_value : Int32) (m_steps : Nat → Int32) (m_rows : Nat → Int32) (m_held : Nat → Int32) (a1 : Int32) (a2 : Int32) (r0 : Int32) (r_m_trace : Int64) (hG : gX7_rate m_trace m_told m_s a1 a2 = some (r0, r_m_trace)) : Met l yX7_rate wsX7_rate ({ frames := 2, cells := 0, slots := 0, locals := 43 } : Room) (va_Pc [.ref (qa 0), .int a1, .int a2] (wq_pw (dC, dI) [(cI, .int), (cJ, .long), (cZ, .boolean)] (wcM qa cI cJ cZ m_trace m_text m_typed m_told m_draft m_s m_past m_known m_images m_kept m_notes m_noted m_at m_sort m_start m_value m_steps m_rows m_held) sz)) (wq_Wi (dC, dI) r0 wq_tr (wcM qa cI cJ cZ r_m_trace m_text m_typed m_told m_draft m_s m_past m_known m_images m_kept m_notes m_noted m_at m_sort m_start m_value m_steps m_rows m_held) (va_A (wcM qa cI cJ cZ m_trace m_text m_typed m_told m_draft m_s m_past m_known m_images m_kept m_notes m_noted m_at m_sort m_start m_value m_steps m_rows m_held) sz)) 0 0 (va_A (wcM qa cI cJ cZ m_trace m_text m_typed m_told m_draft m_s m_past m_known m_images m_kept m_notes m_noted m_at m_sort m_start m_value m_steps m_rows m_held) sz) := by
  refine Met.ofW (cc := cX7_rate) (maxL := 6) (ret := (some .int)) (by decide) rfl ?_
  intro p e s m args below meth c s₁ B hml hv
  obtain ⟨rfl, hsz, hP, hK, hD0, hE⟩ := hv
  have hx := B.exec
  have hb := B.bytes
  have hr := B.returns
  have hts := atoms_spec (ws := wsX7_rate) B.pre
  have hown : s.vm.findClass RX7 = some m.cls := findClass_of_methodNamed B.named
  have hlocks := B.notSynchronized
  subst hsz
  have hD := hD0.self (sz := s.heap.size)
  generalize hAe : va_A (wcM qa cI cJ cZ m_trace m_text m_typed m_told m_draft m_s m_past m_known m_images m_kept m_notes m_noted m_at m_sort m_start m_value m_steps m_rows m_held) s.heap.size = A at hD hE ⊢
  have hA : ∀ q : Nat, s.heap.size ≤ q → A q := fun q h => by rw [← hAe]; exact Or.inr h
  have hS : va_S A s.heap s.heap [] := va_S.rf
  have hinX7 : ∀ w ∈ u_ws RX7 TX7 19, w ∈ wsX7_rate := by decide +kernel
  have k1 := hts (.constant RX7 169 (-1000000)) (by decide +kernel)
  have k2 := hts (.fieldLink RX7 176 "DoorMorningsModel" "trace" "J") (by decide +kernel)
  have k3 := hts (.constantLong RX7 188 (100001)) (by decide +kernel)
  have k4 := hts (.fieldLink RX7 13 "DoorMorningsModel" "told" "[I") (by decide +kernel)
  have k5 := hts (.fieldLink RX7 19 "DoorMorningsModel" "s" "[I") (by decide +kernel)
  have k6 := hts (.constantLong RX7 186 (10101)) (by decide +kernel)
  have k7 := hts (.constantLong RX7 184 (1011)) (by decide +kernel)
  have k8 := hts (.constantLong RX7 182 (101)) (by decide +kernel)
  have k9 := hts (.constantLong RX7 180 (11)) (by decide +kernel)
  have hl := lv_entry ([.ref (qa 0), .int a1, .int a2]) (n := 6) (Nat.le_of_ble_eq_true rfl)
  rw [lg_entry_eq]
  generalize (lg_sl ([.ref (qa 0), .int a1, .int a2]) ++ List.replicate (6 - (lg_sl ([.ref (qa 0), .int a1, .int a2])).length) Slot.unset).toArray = ls at hl ⊢
  have hl : lv_has ls 6 [(0, .ref (qa 0)), (1, .int a1), (2, .int a2)] := hl
  unfold gX7_rate at hG
  refine lv_iload_n hx hb dX7_rate_0 rfl (lv_at hl 1 rfl) ?_
  refine lv_iconst (v := 0) hx hb dX7_rate_1 (by decide) ?_
  refine lv_iconst (v := 5) hx hb dX7_rate_2 (by decide) ?_
  obtain ⟨v2, g1, hG⟩ := wq_b1_s hG
  refine wq_ci (v := v2) (B := wq_Z1) (va_runS (As := [.int a1, .int 0, .int 5]) (rest := []) ⟨hx, hb, hml, hown, hts⟩ (C_X7_in l dC dI cI cJ cZ qa s.heap.size  a1 0 5 v2 g1) (va_cwS 3 hts gX7_rate_X7_in rfl rfl rfl hdS_X7_in ⟨Nat.le_of_ble_eq_true rfl, Nat.le_of_ble_eq_true rfl⟩) (wq_ppS hK (hP.sub (ws' := []) [] rfl) hE hS hA) rfl rfl hl.1 rfl (lv_room (Nat.le_of_ble_eq_true rfl)) dX7_rate_3 ⟨Nat.zero_le _, Nat.zero_le _⟩) hS hA (fun H locs b3 hk hS => ?_)
  replace hP := wq_kp hP hk
  clear hk
  refine lv_if_eq (tgt := 17) hx hb dX7_rate_6 (by decide) (fun c4 => ?_) (fun c4 => ?_)
  · replace hG := wq_t c4 hG
    refine lv_ldc (v := (-1000000)) hx hb hown k1 dX7_rate_17 ?_
    obtain ⟨e0, e1⟩ := wq_j2 hG
    subst e0
    subst e1
    exact W.iret hx hb hr (fun t ht hW => ⟨⟨_, (), rfl, ⟨rfl, trivial⟩, by rw [ht]; exact hP, hD⟩, hS.F ht⟩) hS.2.2 dX7_rate_19
  · replace hG := wq_f c4 hG
    refine lv_aload_n hx hb dX7_rate_9 rfl (lv_at hl 0 rfl) ?_
    refine lv_iload_n hx hb dX7_rate_10 rfl (lv_at hl 2 rfl) ?_
    obtain ⟨v6, g5, hG⟩ := wq_b1_s hG
    refine wq_ci (v := v6) (B := wq_Z1) (va_runV (As := [.int a2]) (rest := []) ⟨hx, hb, hml, hown, hts⟩ (C_X7_isGoodbye l dC dI cI cJ cZ qa H.size m_trace m_text m_typed m_told m_draft m_s m_past m_known m_images m_kept m_notes m_noted m_at m_sort m_start m_value m_steps m_rows m_held a2 v6 g5) (cwV 1 hts gX7_rate_X7_isGoodbye rfl rfl rfl hdV_X7_isGoodbye ⟨Nat.le_of_ble_eq_true rfl, Nat.le_of_ble_eq_true rfl⟩) (wq_ppV hK hP hE hS hA (ci := 7) (q0 := 0) rfl rfl) rfl rfl hl.1 rfl (lv_room (Nat.le_of_ble_eq_true rfl)) dX7_rate_11 ⟨Nat.zero_le _, Nat.zero_le _⟩) hS hA (fun H locs b7 hk hS => ?_)
    replace hP := wq_kp hP hk
    clear hk
    refine lv_if_ne (tgt := 20) hx hb dX7_rate_14 (by decide) (fun c8 => ?_) (fun c8 => ?_)
    · replace hG := wq_f c8 hG
      refine lv_aload_n hx hb dX7_rate_20 rfl (lv_at hl 0 rfl) ?_
      refine lv_dup hx hb dX7_rate_21 rfl ?_
      refine va_get (D := (dC, dI)) (ci := 7) (v := .long m_trace) (C := RX7) (T := TX7) (N := 19) hx hb hts hinX7 hown hK hP 0 rfl rfl 0 (by decide) k2 (fun _ h9 => h9) rfl dX7_rate_22 ?_
      refine lv_iload_n hx hb dX7_rate_25 rfl (lv_at hl 1 rfl) ?_
      refine lv_if_ne (tgt := 33) hx hb dX7_rate_26 (by decide) (fun c9 => ?_) (fun c9 => ?_)
      · replace hG := wq_f c9 hG
        refine lv_iload_n hx hb dX7_rate_33 rfl (lv_at hl 1 rfl) ?_
        refine lv_iconst (v := 1) hx hb dX7_rate_34 (by decide) ?_
        refine lv_icmp_ne (tgt := 44) hx hb dX7_rate_35 (by decide) (fun c10 => ?_) (fun c10 => ?_)
        · replace hG := wq_f c10 hG
          refine lv_iload_n hx hb dX7_rate_44 rfl (lv_at hl 1 rfl) ?_
          refine lv_iconst (v := 2) hx hb dX7_rate_45 (by decide) ?_
          refine lv_icmp_ne (tgt := 55) hx hb dX7_rate_46 (by decide) (fun c11 => ?_) (fun c11 => ?_)
          · replace hG := wq_f c11 hG
            refine lv_iload_n hx hb dX7_rate_55 rfl (lv_at hl 1 rfl) ?_
            refine lv_iconst (v := 3) hx hb dX7_rate_56 (by decide) ?_
            refine lv_icmp_ne (tgt := 66) hx hb dX7_rate_57 (by decide) (fun c12 => ?_) (fun c12 => ?_)
            · replace hG := wq_f c12 hG
              refine lv_iload_n hx hb dX7_rate_66 rfl (lv_at hl 1 rfl) ?_
              refine lv_iconst (v := 4) hx hb dX7_rate_67 (by decide) ?_
              refine lv_icmp_ne (tgt := 77) hx hb dX7_rate_68 (by decide) (fun c13 => ?_) (fun c13 => ?_)
              · replace hG := wq_f c13 hG
                refine lv_ldc2 (v := 100001) hx hb hown k3 dX7_rate_77 ?_
                refine lv_ladd hx hb dX7_rate_80 ?_
                refine va_put (D := (dC, dI)) (ci := 7) (v := .long (m_trace + 100001)) (ty := tyX7 0) (C := RX7) (T := TX7) (N := 19) hx hb hts hinX7 tyX7 tyX7_ok nmX7 hown hK hP hD hS 0 rfl rfl 0 (by decide) k2 (fun _ h9 => h9) rfl (tyX7_ok 0 (by decide)) rfl rfl (Nat.le_of_ble_eq_true rfl) dX7_rate_81 (fun H locs hP hD hS => ?_)
                replace hP : va_P (dC, dI) vwCl (wcM qa cI cJ cZ (m_trace + 100001) m_text m_typed m_told m_draft m_s m_past m_known m_images m_kept m_notes m_noted m_at m_sort m_start m_value m_steps m_rows m_held) H := hP
                replace hD : va_D A (wcM qa cI cJ cZ (m_trace + 100001) m_text m_typed m_told m_draft m_s m_past m_known m_images m_kept m_notes m_noted m_at m_sort m_start m_value m_steps m_rows m_held) := hD
                refine lv_aload_n hx hb dX7_rate_84 rfl (lv_at hl 0 rfl) ?_
                refine va_get (D := (dC, dI)) (ci := 7) (v := .ref (qa 2)) (C := RX7) (T := TX7) (N := 19) hx hb hts hinX7 hown hK hP 0 rfl rfl 3 (by decide) k4 (fun _ h9 => h9) rfl dX7_rate_85 ?_
                refine lv_bipush (v := 8) hx hb dX7_rate_88 (by decide) ?_
                refine lv_iload_n hx hb dX7_rate_90 rfl (lv_at hl 2 rfl) ?_
                refine lv_iadd hx hb dX7_rate_91 ?_
                obtain ⟨h14, hG⟩ := wq_chk_s hG
                refine wq_iald (D := (dC, dI)) hx hb hK hP 2 0 rfl rfl h14 (Int32.toNatClampNeg (8 + a2)) rfl dX7_rate_92 ?_
                refine lv_istore_n (lv' := [(3, .int (m_told (Int32.toNatClampNeg (8 + a2)))), (0, .ref (qa 0)), (1, .int a1), (2, .int a2)]) hx hb dX7_rate_93 rfl hl (by decide) rfl (fun ls hl => ?_)
                refine lv_iload_n hx hb dX7_rate_94 rfl (lv_at hl 0 rfl) ?_
                refine lv_aload_n hx hb dX7_rate_95 rfl (lv_at hl 1 rfl) ?_
                refine va_get (D := (dC, dI)) (ci := 7) (v := .ref (qa 2)) (C := RX7) (T := TX7) (N := 19) hx hb hts hinX7 hown hK hP 0 rfl rfl 3 (by decide) k4 (fun _ h9 => h9) rfl dX7_rate_96 ?_
                refine lv_bipush (v := 13) hx hb dX7_rate_99 (by decide) ?_
                refine lv_iload_n hx hb dX7_rate_101 rfl (lv_at hl 3 rfl) ?_
                refine lv_iadd hx hb dX7_rate_102 ?_
                obtain ⟨h15, hG⟩ := wq_chk_s hG
                refine wq_iald (D := (dC, dI)) hx hb hK hP 2 0 rfl rfl h15 (Int32.toNatClampNeg (13 + a2)) rfl dX7_rate_103 ?_
                refine lv_iadd hx hb dX7_rate_104 ?_
                refine lv_istore (lv' := [(4, .int ((m_told (Int32.toNatClampNeg (8 + a2))) + (m_told (Int32.toNatClampNeg (13 + a2))))), (3, .int (m_told (Int32.toNatClampNeg (8 + a2)))), (0, .ref (qa 0)), (1, .int a1), (2, .int a2)]) hx hb dX7_rate_105 hl (by decide) rfl (fun ls hl => ?_)
                refine lv_iload_n hx hb dX7_rate_107 rfl (lv_at hl 1 rfl) ?_
                refine lv_aload_n hx hb dX7_rate_108 rfl (lv_at hl 2 rfl) ?_
                refine va_get (D := (dC, dI)) (ci := 7) (v := .ref (qa 4)) (C := RX7) (T := TX7) (N := 19) hx hb hts hinX7 hown hK hP 0 rfl rfl 5 (by decide) k5 (fun _ h9 => h9) rfl dX7_rate_109 ?_
                refine lv_iconst (v := 1) hx hb dX7_rate_112 (by decide) ?_
                refine wq_iald (D := (dC, dI)) hx hb hK hP 4 0 rfl rfl (wq_lit (by decide)) 1 rfl dX7_rate_113 ?_
                refine lv_isub hx hb dX7_rate_114 ?_
                refine lv_istore (lv' := [(5, .int ((m_told (Int32.toNatClampNeg (8 + a2))) - (m_s 1))), (4, .int ((m_told (Int32.toNatClampNeg (8 + a2))) + (m_told (Int32.toNatClampNeg (13 + a2))))), (3, .int (m_told (Int32.toNatClampNeg (8 + a2)))), (0, .ref (qa 0)), (1, .int a1), (2, .int a2)]) hx hb dX7_rate_115 hl (by decide) rfl (fun ls hl => ?_)
                refine lv_iload_n hx hb dX7_rate_117 rfl (lv_at hl 4 rfl) ?_
                refine lv_if_ne (tgt := 125) hx hb dX7_rate_118 (by decide) (fun c16 => ?_) (fun c16 => absurd c16 c9)
                refine lv_iload_n hx hb dX7_rate_125 rfl (lv_at hl 4 rfl) ?_
                refine lv_iconst (v := 1) hx hb dX7_rate_126 (by decide) ?_
                refine lv_icmp_ne (tgt := 135) hx hb dX7_rate_127 (by decide) (fun c17 => ?_) (fun c17 => absurd c17 c10)
                refine lv_iload_n hx hb dX7_rate_135 rfl (lv_at hl 4 rfl) ?_
                refine lv_iconst (v := 2) hx hb dX7_rate_136 (by decide) ?_
                refine lv_icmp_ne (tgt := 145) hx hb dX7_rate_137 (by decide) (fun c18 => ?_) (fun c18 => absurd c18 c11)
                refine lv_iload_n hx hb dX7_rate_145 rfl (lv_at hl 4 rfl) ?_
                refine lv_iconst (v := 3) hx hb dX7_rate_146 (by decide) ?_
                refine lv_icmp_ne (tgt := 157) hx hb dX7_rate_147 (by decide) (fun c19 => ?_) (fun c19 => absurd c19 c12)
                refine lv_iload_n hx hb dX7_rate_157 rfl (lv_at hl 4 rfl) ?_
                refine lv_iconst (v := 4) hx hb dX7_rate_158 (by decide) ?_
                refine lv_icmp_ne (tgt := 169) hx hb dX7_rate_159 (by decide) (fun c20 => ?_) (fun c20 => absurd c20 c13)
                refine lv_iload_n hx hb dX7_rate_169 rfl (lv_at hl 2 rfl) ?_
                refine lv_aload_n hx hb dX7_rate_170 rfl (lv_at hl 3 rfl) ?_
                refine va_get (D := (dC, dI)) (ci := 7) (v := .ref (qa 4)) (C := RX7) (T := TX7) (N := 19) hx hb hts hinX7 hown hK hP 0 rfl rfl 5 (by decide) k5 (fun _ h9 => h9) rfl dX7_rate_171 ?_
                refine lv_iconst (v := 0) hx hb dX7_rate_174 (by decide) ?_
                refine wq_iald (D := (dC, dI)) hx hb hK hP 4 0 rfl rfl (wq_lit (by decide)) 0 rfl dX7_rate_175 ?_
                refine lv_iadd hx hb dX7_rate_176 ?_
                obtain ⟨e0, e1⟩ := wq_j2 hG
                subst e0
                subst e1
                exact W.iret hx hb hr (fun t ht hW => ⟨⟨_, (), rfl, ⟨rfl, trivial⟩, by rw [ht]; exact hP, hD⟩, hS.F ht⟩) hS.2.2 dX7_rate_177
              · replace hG := wq_t c13 hG
                refine lv_ldc2 (v := 10101) hx hb hown k6 dX7_rate_71 ?_
                refine lv_goto (tgt := 80) hx hb dX7_rate_74 (by decide) ?_
                refine lv_ladd hx hb dX7_rate_80 ?_
                refine va_put (D := (dC, dI)) (ci := 7) (v := .long (m_trace + 10101)) (ty := tyX7 0) (C := RX7) (T := TX7) (N := 19) hx hb hts hinX7 tyX7 tyX7_ok nmX7 hown hK hP hD hS 0 rfl rfl 0 (by decide) k2 (fun _ h9 => h9) rfl (tyX7_ok 0 (by decide)) rfl rfl (Nat.le_of_ble_eq_true rfl) dX7_rate_81 (fun H locs hP hD hS => ?_)
                replace hP : va_P (dC, dI) vwCl (wcM qa cI cJ cZ (m_trace + 10101) m_text m_typed m_told m_draft m_s m_past m_known m_images m_kept m_notes m_noted m_at m_sort m_start m_value m_steps m_rows m_held) H := hP
                replace hD : va_D A (wcM qa cI cJ cZ (m_trace + 10101) m_text m_typed m_told m_draft m_s m_past m_known m_images m_kept m_notes m_noted m_at m_sort m_start m_value m_steps m_rows m_held) := hD
                refine lv_aload_n hx hb dX7_rate_84 rfl (lv_at hl 0 rfl) ?_
                refine va_get (D := (dC, dI)) (ci := 7) (v := .ref (qa 2)) (C := RX7) (T := TX7) (N := 19) hx hb hts hinX7 hown hK hP 0 rfl rfl 3 (by decide) k4 (fun _ h9 => h9) rfl dX7_rate_85 ?_
                refine lv_bipush (v := 8) hx hb dX7_rate_88 (by decide) ?_
                refine lv_iload_n hx hb dX7_rate_90 rfl (lv_at hl 2 rfl) ?_
                refine lv_iadd hx hb dX7_rate_91 ?_
                obtain ⟨h21, hG⟩ := wq_chk_s hG
                refine wq_iald (D := (dC, dI)) hx hb hK hP 2 0 rfl rfl h21 (Int32.toNatClampNeg (8 + a2)) rfl dX7_rate_92 ?_
                refine lv_istore_n (lv' := [(3, .int (m_told (Int32.toNatClampNeg (8 + a2)))), (0, .ref (qa 0)), (1, .int a1), (2, .int a2)]) hx hb dX7_rate_93 rfl hl (by decide) rfl (fun ls hl => ?_)
                refine lv_iload_n hx hb dX7_rate_94 rfl (lv_at hl 0 rfl) ?_
                refine lv_aload_n hx hb dX7_rate_95 rfl (lv_at hl 1 rfl) ?_
                refine va_get (D := (dC, dI)) (ci := 7) (v := .ref (qa 2)) (C := RX7) (T := TX7) (N := 19) hx hb hts hinX7 hown hK hP 0 rfl rfl 3 (by decide) k4 (fun _ h9 => h9) rfl dX7_rate_96 ?_
                refine lv_bipush (v := 13) hx hb dX7_rate_99 (by decide) ?_
                refine lv_iload_n hx hb dX7_rate_101 rfl (lv_at hl 3 rfl) ?_
                refine lv_iadd hx hb dX7_rate_102 ?_
                obtain ⟨h22, hG⟩ := wq_chk_s hG
                refine wq_iald (D := (dC, dI)) hx hb hK hP 2 0 rfl rfl h22 (Int32.toNatClampNeg (13 + a2)) rfl dX7_rate_103 ?_
                refine lv_iadd hx hb dX7_rate_104 ?_
                refine lv_istore (lv' := [(4, .int ((m_told (Int32.toNatClampNeg (8 + a2))) + (m_told (Int32.toNatClampNeg (13 + a2))))), (3, .int (m_told (Int32.toNatClampNeg (8 + a2)))), (0, .ref (qa 0)), (1, .int a1), (2, .int a2)]) hx hb dX7_rate_105 hl (by decide) rfl (fun ls hl => ?_)
                refine lv_iload_n hx hb dX7_rate_107 rfl (lv_at hl 1 rfl) ?_
                refine lv_aload_n hx hb dX7_rate_108 rfl (lv_at hl 2 rfl) ?_
                refine va_get (D := (dC, dI)) (ci := 7) (v := .ref (qa 4)) (C := RX7) (T := TX7) (N := 19) hx hb hts hinX7 hown hK hP 0 rfl rfl 5 (by decide) k5 (fun _ h9 => h9) rfl dX7_rate_109 ?_
                refine lv_iconst (v := 1) hx hb dX7_rate_112 (by decide) ?_
                refine wq_iald (D := (dC, dI)) hx hb hK hP 4 0 rfl rfl (wq_lit (by decide)) 1 rfl dX7_rate_113 ?_
                refine lv_isub hx hb dX7_rate_114 ?_
                refine lv_istore (lv' := [(5, .int ((m_told (Int32.toNatClampNeg (8 + a2))) - (m_s 1))), (4, .int ((m_told (Int32.toNatClampNeg (8 + a2))) + (m_told (Int32.toNatClampNeg (13 + a2))))), (3, .int (m_told (Int32.toNatClampNeg (8 + a2)))), (0, .ref (qa 0)), (1, .int a1), (2, .int a2)]) hx hb dX7_rate_115 hl (by decide) rfl (fun ls hl => ?_)
                refine lv_iload_n hx hb dX7_rate_117 rfl (lv_at hl 4 rfl) ?_
                refine lv_if_ne (tgt := 125) hx hb dX7_rate_118 (by decide) (fun c23 => ?_) (fun c23 => absurd c23 c9)
                refine lv_iload_n hx hb dX7_rate_125 rfl (lv_at hl 4 rfl) ?_
                refine lv_iconst (v := 1) hx hb dX7_rate_126 (by decide) ?_
                refine lv_icmp_ne (tgt := 135) hx hb dX7_rate_127 (by decide) (fun c24 => ?_) (fun c24 => absurd c24 c10)
                refine lv_iload_n hx hb dX7_rate_135 rfl (lv_at hl 4 rfl) ?_
                refine lv_iconst (v := 2) hx hb dX7_rate_136 (by decide) ?_
                refine lv_icmp_ne (tgt := 145) hx hb dX7_rate_137 (by decide) (fun c25 => ?_) (fun c25 => absurd c25 c11)
                refine lv_iload_n hx hb dX7_rate_145 rfl (lv_at hl 4 rfl) ?_
                refine lv_iconst (v := 3) hx hb dX7_rate_146 (by decide) ?_
                refine lv_icmp_ne (tgt := 157) hx hb dX7_rate_147 (by decide) (fun c26 => ?_) (fun c26 => absurd c26 c12)
                refine lv_iload_n hx hb dX7_rate_157 rfl (lv_at hl 4 rfl) ?_
                refine lv_iconst (v := 4) hx hb dX7_rate_158 (by decide) ?_
                refine lv_icmp_ne (tgt := 169) hx hb dX7_rate_159 (by decide) (fun c27 => absurd c13 c27) (fun c27 => ?_)
                refine lv_iload hx hb dX7_rate_162 (lv_at hl 0 rfl) ?_
                refine lv_iload_n hx hb dX7_rate_164 rfl (lv_at hl 5 rfl) ?_
                refine lv_iadd hx hb dX7_rate_165 ?_
                refine lv_goto (tgt := 177) hx hb dX7_rate_166 (by decide) ?_
                obtain ⟨e0, e1⟩ := wq_j2 hG
                subst e0
                subst e1
                exact W.iret hx hb hr (fun t ht hW => ⟨⟨_, (), rfl, ⟨rfl, trivial⟩, by rw [ht]; exact hP, hD⟩, hS.F ht⟩) hS.2.2 dX7_rate_177
            · replace hG := wq_t c12 hG
              refine lv_ldc2 (v := 1011) hx hb hown k7 dX7_rate_60 ?_
              refine lv_goto (tgt := 80) hx hb dX7_rate_63 (by decide) ?_
              refine lv_ladd hx hb dX7_rate_80 ?_
              refine va_put (D := (dC, dI)) (ci := 7) (v := .long (m_trace + 1011)) (ty := tyX7 0) (C := RX7) (T := TX7) (N := 19) hx hb hts hinX7 tyX7 tyX7_ok nmX7 hown hK hP hD hS 0 rfl rfl 0 (by decide) k2 (fun _ h9 => h9) rfl (tyX7_ok 0 (by decide)) rfl rfl (Nat.le_of_ble_eq_true rfl) dX7_rate_81 (fun H locs hP hD hS => ?_)
              replace hP : va_P (dC, dI) vwCl (wcM qa cI cJ cZ (m_trace + 1011) m_text m_typed m_told m_draft m_s m_past m_known m_images m_kept m_notes m_noted m_at m_sort m_start m_value m_steps m_rows m_held) H := hP
              replace hD : va_D A (wcM qa cI cJ cZ (m_trace + 1011) m_text m_typed m_told m_draft m_s m_past m_known m_images m_kept m_notes m_noted m_at m_sort m_start m_value m_steps m_rows m_held) := hD
              refine lv_aload_n hx hb dX7_rate_84 rfl (lv_at hl 0 rfl) ?_
              refine va_get (D := (dC, dI)) (ci := 7) (v := .ref (qa 2)) (C := RX7) (T := TX7) (N := 19) hx hb hts hinX7 hown hK hP 0 rfl rfl 3 (by decide) k4 (fun _ h9 => h9) rfl dX7_rate_85 ?_
              refine lv_bipush (v := 8) hx hb dX7_rate_88 (by decide) ?_
              refine lv_iload_n hx hb dX7_rate_90 rfl (lv_at hl 2 rfl) ?_
              refine lv_iadd hx hb dX7_rate_91 ?_
              obtain ⟨h28, hG⟩ := wq_chk_s hG
              refine wq_iald (D := (dC, dI)) hx hb hK hP 2 0 rfl rfl h28 (Int32.toNatClampNeg (8 + a2)) rfl dX7_rate_92 ?_
              refine lv_istore_n (lv' := [(3, .int (m_told (Int32.toNatClampNeg (8 + a2)))), (0, .ref (qa 0)), (1, .int a1), (2, .int a2)]) hx hb dX7_rate_93 rfl hl (by decide) rfl (fun ls hl => ?_)
              refine lv_iload_n hx hb dX7_rate_94 rfl (lv_at hl 0 rfl) ?_
              refine lv_aload_n hx hb dX7_rate_95 rfl (lv_at hl 1 rfl) ?_
              refine va_get (D := (dC, dI)) (ci := 7) (v := .ref (qa 2)) (C := RX7) (T := TX7) (N := 19) hx hb hts hinX7 hown hK hP 0 rfl rfl 3 (by decide) k4 (fun _ h9 => h9) rfl dX7_rate_96 ?_
              refine lv_bipush (v := 13) hx hb dX7_rate_99 (by decide) ?_
              refine lv_iload_n hx hb dX7_rate_101 rfl (lv_at hl 3 rfl) ?_
              refine lv_iadd hx hb dX7_rate_102 ?_
              obtain ⟨h29, hG⟩ := wq_chk_s hG
              refine wq_iald (D := (dC, dI)) hx hb hK hP 2 0 rfl rfl h29 (Int32.toNatClampNeg (13 + a2)) rfl dX7_rate_103 ?_
              refine lv_iadd hx hb dX7_rate_104 ?_
              refine lv_istore (lv' := [(4, .int ((m_told (Int32.toNatClampNeg (8 + a2))) + (m_told (Int32.toNatClampNeg (13 + a2))))), (3, .int (m_told (Int32.toNatClampNeg (8 + a2)))), (0, .ref (qa 0)), (1, .int a1), (2, .int a2)]) hx hb dX7_rate_105 hl (by decide) rfl (fun ls hl => ?_)
              refine lv_iload_n hx hb dX7_rate_107 rfl (lv_at hl 1 rfl) ?_
              refine lv_aload_n hx hb dX7_rate_108 rfl (lv_at hl 2 rfl) ?_
              refine va_get (D := (dC, dI)) (ci := 7) (v := .ref (qa 4)) (C := RX7) (T := TX7) (N := 19) hx hb hts hinX7 hown hK hP 0 rfl rfl 5 (by decide) k5 (fun _ h9 => h9) rfl dX7_rate_109 ?_
              refine lv_iconst (v := 1) hx hb dX7_rate_112 (by decide) ?_
              refine wq_iald (D := (dC, dI)) hx hb hK hP 4 0 rfl rfl (wq_lit (by decide)) 1 rfl dX7_rate_113 ?_
              refine lv_isub hx hb dX7_rate_114 ?_
              refine lv_istore (lv' := [(5, .int ((m_told (Int32.toNatClampNeg (8 + a2))) - (m_s 1))), (4, .int ((m_told (Int32.toNatClampNeg (8 + a2))) + (m_told (Int32.toNatClampNeg (13 + a2))))), (3, .int (m_told (Int32.toNatClampNeg (8 + a2)))), (0, .ref (qa 0)), (1, .int a1), (2, .int a2)]) hx hb dX7_rate_115 hl (by decide) rfl (fun ls hl => ?_)
              refine lv_iload_n hx hb dX7_rate_117 rfl (lv_at hl 4 rfl) ?_
              refine lv_if_ne (tgt := 125) hx hb dX7_rate_118 (by decide) (fun c30 => ?_) (fun c30 => absurd c30 c9)
              refine lv_iload_n hx hb dX7_rate_125 rfl (lv_at hl 4 rfl) ?_
              refine lv_iconst (v := 1) hx hb dX7_rate_126 (by decide) ?_
              refine lv_icmp_ne (tgt := 135) hx hb dX7_rate_127 (by decide) (fun c31 => ?_) (fun c31 => absurd c31 c10)
              refine lv_iload_n hx hb dX7_rate_135 rfl (lv_at hl 4 rfl) ?_
              refine lv_iconst (v := 2) hx hb dX7_rate_136 (by decide) ?_
              refine lv_icmp_ne (tgt := 145) hx hb dX7_rate_137 (by decide) (fun c32 => ?_) (fun c32 => absurd c32 c11)
              refine lv_iload_n hx hb dX7_rate_145 rfl (lv_at hl 4 rfl) ?_
              refine lv_iconst (v := 3) hx hb dX7_rate_146 (by decide) ?_
              refine lv_icmp_ne (tgt := 157) hx hb dX7_rate_147 (by decide) (fun c33 => absurd c12 c33) (fun c33 => ?_)
              refine lv_iconst (v := 2) hx hb dX7_rate_150 (by decide) ?_
              refine lv_iload hx hb dX7_rate_151 (lv_at hl 1 rfl) ?_
              refine lv_imul hx hb dX7_rate_153 ?_
              refine lv_goto (tgt := 177) hx hb dX7_rate_154 (by decide) ?_
              obtain ⟨e0, e1⟩ := wq_j2 hG
              subst e0
              subst e1
              exact W.iret hx hb hr (fun t ht hW => ⟨⟨_, (), rfl, ⟨rfl, trivial⟩, by rw [ht]; exact hP, hD⟩, hS.F ht⟩) hS.2.2 dX7_rate_177
          · replace hG := wq_t c11 hG
            refine lv_ldc2 (v := 101) hx hb hown k8 dX7_rate_49 ?_
            refine lv_goto (tgt := 80) hx hb dX7_rate_52 (by decide) ?_
            refine lv_ladd hx hb dX7_rate_80 ?_
            refine va_put (D := (dC, dI)) (ci := 7) (v := .long (m_trace + 101)) (ty := tyX7 0) (C := RX7) (T := TX7) (N := 19) hx hb hts hinX7 tyX7 tyX7_ok nmX7 hown hK hP hD hS 0 rfl rfl 0 (by decide) k2 (fun _ h9 => h9) rfl (tyX7_ok 0 (by decide)) rfl rfl (Nat.le_of_ble_eq_true rfl) dX7_rate_81 (fun H locs hP hD hS => ?_)
            replace hP : va_P (dC, dI) vwCl (wcM qa cI cJ cZ (m_trace + 101) m_text m_typed m_told m_draft m_s m_past m_known m_images m_kept m_notes m_noted m_at m_sort m_start m_value m_steps m_rows m_held) H := hP
            replace hD : va_D A (wcM qa cI cJ cZ (m_trace + 101) m_text m_typed m_told m_draft m_s m_past m_known m_images m_kept m_notes m_noted m_at m_sort m_start m_value m_steps m_rows m_held) := hD
            refine lv_aload_n hx hb dX7_rate_84 rfl (lv_at hl 0 rfl) ?_
            refine va_get (D := (dC, dI)) (ci := 7) (v := .ref (qa 2)) (C := RX7) (T := TX7) (N := 19) hx hb hts hinX7 hown hK hP 0 rfl rfl 3 (by decide) k4 (fun _ h9 => h9) rfl dX7_rate_85 ?_
            refine lv_bipush (v := 8) hx hb dX7_rate_88 (by decide) ?_
            refine lv_iload_n hx hb dX7_rate_90 rfl (lv_at hl 2 rfl) ?_
            refine lv_iadd hx hb dX7_rate_91 ?_
            obtain ⟨h34, hG⟩ := wq_chk_s hG
            refine wq_iald (D := (dC, dI)) hx hb hK hP 2 0 rfl rfl h34 (Int32.toNatClampNeg (8 + a2)) rfl dX7_rate_92 ?_
            refine lv_istore_n (lv' := [(3, .int (m_told (Int32.toNatClampNeg (8 + a2)))), (0, .ref (qa 0)), (1, .int a1), (2, .int a2)]) hx hb dX7_rate_93 rfl hl (by decide) rfl (fun ls hl => ?_)
            refine lv_iload_n hx hb dX7_rate_94 rfl (lv_at hl 0 rfl) ?_
            refine lv_aload_n hx hb dX7_rate_95 rfl (lv_at hl 1 rfl) ?_
            refine va_get (D := (dC, dI)) (ci := 7) (v := .ref (qa 2)) (C := RX7) (T := TX7) (N := 19) hx hb hts hinX7 hown hK hP 0 rfl rfl 3 (by decide) k4 (fun _ h9 => h9) rfl dX7_rate_96 ?_
            refine lv_bipush (v := 13) hx hb dX7_rate_99 (by decide) ?_
            refine lv_iload_n hx hb dX7_rate_101 rfl (lv_at hl 3 rfl) ?_
            refine lv_iadd hx hb dX7_rate_102 ?_
            obtain ⟨h35, hG⟩ := wq_chk_s hG
            refine wq_iald (D := (dC, dI)) hx hb hK hP 2 0 rfl rfl h35 (Int32.toNatClampNeg (13 + a2)) rfl dX7_rate_103 ?_
            refine lv_iadd hx hb dX7_rate_104 ?_
            refine lv_istore (lv' := [(4, .int ((m_told (Int32.toNatClampNeg (8 + a2))) + (m_told (Int32.toNatClampNeg (13 + a2))))), (3, .int (m_told (Int32.toNatClampNeg (8 + a2)))), (0, .ref (qa 0)), (1, .int a1), (2, .int a2)]) hx hb dX7_rate_105 hl (by decide) rfl (fun ls hl => ?_)
            refine lv_iload_n hx hb dX7_rate_107 rfl (lv_at hl 1 rfl) ?_
            refine lv_aload_n hx hb dX7_rate_108 rfl (lv_at hl 2 rfl) ?_
            refine va_get (D := (dC, dI)) (ci := 7) (v := .ref (qa 4)) (C := RX7) (T := TX7) (N := 19) hx hb hts hinX7 hown hK hP 0 rfl rfl 5 (by decide) k5 (fun _ h9 => h9) rfl dX7_rate_109 ?_
            refine lv_iconst (v := 1) hx hb dX7_rate_112 (by decide) ?_
            refine wq_iald (D := (dC, dI)) hx hb hK hP 4 0 rfl rfl (wq_lit (by decide)) 1 rfl dX7_rate_113 ?_
            refine lv_isub hx hb dX7_rate_114 ?_
            refine lv_istore (lv' := [(5, .int ((m_told (Int32.toNatClampNeg (8 + a2))) - (m_s 1))), (4, .int ((m_told (Int32.toNatClampNeg (8 + a2))) + (m_told (Int32.toNatClampNeg (13 + a2))))), (3, .int (m_told (Int32.toNatClampNeg (8 + a2)))), (0, .ref (qa 0)), (1, .int a1), (2, .int a2)]) hx hb dX7_rate_115 hl (by decide) rfl (fun ls hl => ?_)
            refine lv_iload_n hx hb dX7_rate_117 rfl (lv_at hl 4 rfl) ?_
            refine lv_if_ne (tgt := 125) hx hb dX7_rate_118 (by decide) (fun c36 => ?_) (fun c36 => absurd c36 c9)
            refine lv_iload_n hx hb dX7_rate_125 rfl (lv_at hl 4 rfl) ?_
            refine lv_iconst (v := 1) hx hb dX7_rate_126 (by decide) ?_
            refine lv_icmp_ne (tgt := 135) hx hb dX7_rate_127 (by decide) (fun c37 => ?_) (fun c37 => absurd c37 c10)
            refine lv_iload_n hx hb dX7_rate_135 rfl (lv_at hl 4 rfl) ?_
            refine lv_iconst (v := 2) hx hb dX7_rate_136 (by decide) ?_
            refine lv_icmp_ne (tgt := 145) hx hb dX7_rate_137 (by decide) (fun c38 => absurd c11 c38) (fun c38 => ?_)
            refine lv_iload hx hb dX7_rate_140 (lv_at hl 0 rfl) ?_
            refine lv_goto (tgt := 177) hx hb dX7_rate_142 (by decide) ?_
            obtain ⟨e0, e1⟩ := wq_j2 hG
            subst e0
            subst e1
            exact W.iret hx hb hr (fun t ht hW => ⟨⟨_, (), rfl, ⟨rfl, trivial⟩, by rw [ht]; exact hP, hD⟩, hS.F ht⟩) hS.2.2 dX7_rate_177
        · replace hG := wq_t c10 hG
          refine lv_ldc2 (v := 11) hx hb hown k9 dX7_rate_38 ?_
          refine lv_goto (tgt := 80) hx hb dX7_rate_41 (by decide) ?_
          refine lv_ladd hx hb dX7_rate_80 ?_
          refine va_put (D := (dC, dI)) (ci := 7) (v := .long (m_trace + 11)) (ty := tyX7 0) (C := RX7) (T := TX7) (N := 19) hx hb hts hinX7 tyX7 tyX7_ok nmX7 hown hK hP hD hS 0 rfl rfl 0 (by decide) k2 (fun _ h9 => h9) rfl (tyX7_ok 0 (by decide)) rfl rfl (Nat.le_of_ble_eq_true rfl) dX7_rate_81 (fun H locs hP hD hS => ?_)
          replace hP : va_P (dC, dI) vwCl (wcM qa cI cJ cZ (m_trace + 11) m_text m_typed m_told m_draft m_s m_past m_known m_images m_kept m_notes m_noted m_at m_sort m_start m_value m_steps m_rows m_held) H := hP
          replace hD : va_D A (wcM qa cI cJ cZ (m_trace + 11) m_text m_typed m_told m_draft m_s m_past m_known m_images m_kept m_notes m_noted m_at m_sort m_start m_value m_steps m_rows m_held) := hD
          refine lv_aload_n hx hb dX7_rate_84 rfl (lv_at hl 0 rfl) ?_
          refine va_get (D := (dC, dI)) (ci := 7) (v := .ref (qa 2)) (C := RX7) (T := TX7) (N := 19) hx hb hts hinX7 hown hK hP 0 rfl rfl 3 (by decide) k4 (fun _ h9 => h9) rfl dX7_rate_85 ?_
          refine lv_bipush (v := 8) hx hb dX7_rate_88 (by decide) ?_
          refine lv_iload_n hx hb dX7_rate_90 rfl (lv_at hl 2 rfl) ?_
          refine lv_iadd hx hb dX7_rate_91 ?_
          obtain ⟨h39, hG⟩ := wq_chk_s hG
          refine wq_iald (D := (dC, dI)) hx hb hK hP 2 0 rfl rfl h39 (Int32.toNatClampNeg (8 + a2)) rfl dX7_rate_92 ?_
          refine lv_istore_n (lv' := [(3, .int (m_told (Int32.toNatClampNeg (8 + a2)))), (0, .ref (qa 0)), (1, .int a1), (2, .int a2)]) hx hb dX7_rate_93 rfl hl (by decide) rfl (fun ls hl => ?_)
          refine lv_iload_n hx hb dX7_rate_94 rfl (lv_at hl 0 rfl) ?_
          refine lv_aload_n hx hb dX7_rate_95 rfl (lv_at hl 1 rfl) ?_
          refine va_get (D := (dC, dI)) (ci := 7) (v := .ref (qa 2)) (C := RX7) (T := TX7) (N := 19) hx hb hts hinX7 hown hK hP 0 rfl rfl 3 (by decide) k4 (fun _ h9 => h9) rfl dX7_rate_96 ?_
          refine lv_bipush (v := 13) hx hb dX7_rate_99 (by decide) ?_
          refine lv_iload_n hx hb dX7_rate_101 rfl (lv_at hl 3 rfl) ?_
          refine lv_iadd hx hb dX7_rate_102 ?_
          obtain ⟨h40, hG⟩ := wq_chk_s hG
          refine wq_iald (D := (dC, dI)) hx hb hK hP 2 0 rfl rfl h40 (Int32.toNatClampNeg (13 + a2)) rfl dX7_rate_103 ?_
          refine lv_iadd hx hb dX7_rate_104 ?_
          refine lv_istore (lv' := [(4, .int ((m_told (Int32.toNatClampNeg (8 + a2))) + (m_told (Int32.toNatClampNeg (13 + a2))))), (3, .int (m_told (Int32.toNatClampNeg (8 + a2)))), (0, .ref (qa 0)), (1, .int a1), (2, .int a2)]) hx hb dX7_rate_105 hl (by decide) rfl (fun ls hl => ?_)
          refine lv_iload_n hx hb dX7_rate_107 rfl (lv_at hl 1 rfl) ?_
          refine lv_aload_n hx hb dX7_rate_108 rfl (lv_at hl 2 rfl) ?_
          refine va_get (D := (dC, dI)) (ci := 7) (v := .ref (qa 4)) (C := RX7) (T := TX7) (N := 19) hx hb hts hinX7 hown hK hP 0 rfl rfl 5 (by decide) k5 (fun _ h9 => h9) rfl dX7_rate_109 ?_
          refine lv_iconst (v := 1) hx hb dX7_rate_112 (by decide) ?_
          refine wq_iald (D := (dC, dI)) hx hb hK hP 4 0 rfl rfl (wq_lit (by decide)) 1 rfl dX7_rate_113 ?_
          refine lv_isub hx hb dX7_rate_114 ?_
          refine lv_istore (lv' := [(5, .int ((m_told (Int32.toNatClampNeg (8 + a2))) - (m_s 1))), (4, .int ((m_told (Int32.toNatClampNeg (8 + a2))) + (m_told (Int32.toNatClampNeg (13 + a2))))), (3, .int (m_told (Int32.toNatClampNeg (8 + a2)))), (0, .ref (qa 0)), (1, .int a1), (2, .int a2)]) hx hb dX7_rate_115 hl (by decide) rfl (fun ls hl => ?_)
          refine lv_iload_n hx hb dX7_rate_117 rfl (lv_at hl 4 rfl) ?_
          refine lv_if_ne (tgt := 125) hx hb dX7_rate_118 (by decide) (fun c41 => ?_) (fun c41 => absurd c41 c9)
          refine lv_iload_n hx hb dX7_rate_125 rfl (lv_at hl 4 rfl) ?_
          refine lv_iconst (v := 1) hx hb dX7_rate_126 (by decide) ?_
          refine lv_icmp_ne (tgt := 135) hx hb dX7_rate_127 (by decide) (fun c42 => absurd c10 c42) (fun c42 => ?_)
          refine lv_iload hx hb dX7_rate_130 (lv_at hl 1 rfl) ?_
          refine lv_goto (tgt := 177) hx hb dX7_rate_132 (by decide) ?_
          obtain ⟨e0, e1⟩ := wq_j2 hG
          subst e0
          subst e1
          exact W.iret hx hb hr (fun t ht hW => ⟨⟨_, (), rfl, ⟨rfl, trivial⟩, by rw [ht]; exact hP, hD⟩, hS.F ht⟩) hS.2.2 dX7_rate_177
      · replace hG := wq_t c9 hG
        refine lv_lconst (v := 1) hx hb dX7_rate_29 (by decide) ?_
        refine lv_goto (tgt := 80) hx hb dX7_rate_30 (by decide) ?_
        refine lv_ladd hx hb dX7_rate_80 ?_
        refine va_put (D := (dC, dI)) (ci := 7) (v := .long (m_trace + 1)) (ty := tyX7 0) (C := RX7) (T := TX7) (N := 19) hx hb hts hinX7 tyX7 tyX7_ok nmX7 hown hK hP hD hS 0 rfl rfl 0 (by decide) k2 (fun _ h9 => h9) rfl (tyX7_ok 0 (by decide)) rfl rfl (Nat.le_of_ble_eq_true rfl) dX7_rate_81 (fun H locs hP hD hS => ?_)
        replace hP : va_P (dC, dI) vwCl (wcM qa cI cJ cZ (m_trace + 1) m_text m_typed m_told m_draft m_s m_past m_known m_images m_kept m_notes m_noted m_at m_sort m_start m_value m_steps m_rows m_held) H := hP
        replace hD : va_D A (wcM qa cI cJ cZ (m_trace + 1) m_text m_typed m_told m_draft m_s m_past m_known m_images m_kept m_notes m_noted m_at m_sort m_start m_value m_steps m_rows m_held) := hD
        refine lv_aload_n hx hb dX7_rate_84 rfl (lv_at hl 0 rfl) ?_
        refine va_get (D := (dC, dI)) (ci := 7) (v := .ref (qa 2)) (C := RX7) (T := TX7) (N := 19) hx hb hts hinX7 hown hK hP 0 rfl rfl 3 (by decide) k4 (fun _ h9 => h9) rfl dX7_rate_85 ?_
        refine lv_bipush (v := 8) hx hb dX7_rate_88 (by decide) ?_
        refine lv_iload_n hx hb dX7_rate_90 rfl (lv_at hl 2 rfl) ?_
        refine lv_iadd hx hb dX7_rate_91 ?_
        obtain ⟨h43, hG⟩ := wq_chk_s hG
        refine wq_iald (D := (dC, dI)) hx hb hK hP 2 0 rfl rfl h43 (Int32.toNatClampNeg (8 + a2)) rfl dX7_rate_92 ?_
        refine lv_istore_n (lv' := [(3, .int (m_told (Int32.toNatClampNeg (8 + a2)))), (0, .ref (qa 0)), (1, .int a1), (2, .int a2)]) hx hb dX7_rate_93 rfl hl (by decide) rfl (fun ls hl => ?_)
        refine lv_iload_n hx hb dX7_rate_94 rfl (lv_at hl 0 rfl) ?_
        refine lv_aload_n hx hb dX7_rate_95 rfl (lv_at hl 1 rfl) ?_
        refine va_get (D := (dC, dI)) (ci := 7) (v := .ref (qa 2)) (C := RX7) (T := TX7) (N := 19) hx hb hts hinX7 hown hK hP 0 rfl rfl 3 (by decide) k4 (fun _ h9 => h9) rfl dX7_rate_96 ?_
        refine lv_bipush (v := 13) hx hb dX7_rate_99 (by decide) ?_
        refine lv_iload_n hx hb dX7_rate_101 rfl (lv_at hl 3 rfl) ?_
        refine lv_iadd hx hb dX7_rate_102 ?_
        obtain ⟨h44, hG⟩ := wq_chk_s hG
        refine wq_iald (D := (dC, dI)) hx hb hK hP 2 0 rfl rfl h44 (Int32.toNatClampNeg (13 + a2)) rfl dX7_rate_103 ?_
        refine lv_iadd hx hb dX7_rate_104 ?_
        refine lv_istore (lv' := [(4, .int ((m_told (Int32.toNatClampNeg (8 + a2))) + (m_told (Int32.toNatClampNeg (13 + a2))))), (3, .int (m_told (Int32.toNatClampNeg (8 + a2)))), (0, .ref (qa 0)), (1, .int a1), (2, .int a2)]) hx hb dX7_rate_105 hl (by decide) rfl (fun ls hl => ?_)
        refine lv_iload_n hx hb dX7_rate_107 rfl (lv_at hl 1 rfl) ?_
        refine lv_aload_n hx hb dX7_rate_108 rfl (lv_at hl 2 rfl) ?_
        refine va_get (D := (dC, dI)) (ci := 7) (v := .ref (qa 4)) (C := RX7) (T := TX7) (N := 19) hx hb hts hinX7 hown hK hP 0 rfl rfl 5 (by decide) k5 (fun _ h9 => h9) rfl dX7_rate_109 ?_
        refine lv_iconst (v := 1) hx hb dX7_rate_112 (by decide) ?_
        refine wq_iald (D := (dC, dI)) hx hb hK hP 4 0 rfl rfl (wq_lit (by decide)) 1 rfl dX7_rate_113 ?_
        refine lv_isub hx hb dX7_rate_114 ?_
        refine lv_istore (lv' := [(5, .int ((m_told (Int32.toNatClampNeg (8 + a2))) - (m_s 1))), (4, .int ((m_told (Int32.toNatClampNeg (8 + a2))) + (m_told (Int32.toNatClampNeg (13 + a2))))), (3, .int (m_told (Int32.toNatClampNeg (8 + a2)))), (0, .ref (qa 0)), (1, .int a1), (2, .int a2)]) hx hb dX7_rate_115 hl (by decide) rfl (fun ls hl => ?_)
        refine lv_iload_n hx hb dX7_rate_117 rfl (lv_at hl 4 rfl) ?_
        refine lv_if_ne (tgt := 125) hx hb dX7_rate_118 (by decide) (fun c45 => absurd c9 c45) (fun c45 => ?_)
        refine lv_iload_n hx hb dX7_rate_121 rfl (lv_at hl 2 rfl) ?_
        refine lv_goto (tgt := 177) hx hb dX7_rate_122 (by decide) ?_
        obtain ⟨e0, e1⟩ := wq_j2 hG
        subst e0
        subst e1
        exact W.iret hx hb hr (fun t ht hW => ⟨⟨_, (), rfl, ⟨rfl, trivial⟩, by rw [ht]; exact hP, hD⟩, hS.F ht⟩) hS.2.2 dX7_rate_177
    · replace hG := wq_t c8 hG
      refine lv_ldc (v := (-1000000)) hx hb hown k1 dX7_rate_17 ?_
      obtain ⟨e0, e1⟩ := wq_j2 hG
      subst e0
      subst e1
      exact W.iret hx hb hr (fun t ht hW => ⟨⟨_, (), rfl, ⟨rfl, trivial⟩, by rw [ht]; exact hP, hD⟩, hS.F ht⟩) hS.2.2 dX7_rate_19

theorem hdV_X7_keep : yX7_keep.cls = RX7 ∧ yX7_keep.cls ≠ "java/lang/invoke/MethodHandle" ∧ yX7_keep.cls ≠ "java/lang/invoke/VarHandle" ∧ (parseMethodDescriptor yX7_keep.desc).map (fun d => d.parameters.length) = some 1 := by decide +kernel
set_option maxHeartbeats 4000000 in
set_option maxRecDepth 100000 in
theorem C_X7_keep (l : Launch) (dC : Nat → ClassId) (dI : Nat → Nat → Nat) (cI cJ cZ : ClassId) (qa : Nat → Nat) (sz : Nat) (m_trace : Int64) (m_text : Nat → Int32) (m_typed : Int32) (m_told : Nat → Int32) (m_draft : Nat → Int32) (m_s : Nat → Int32) (m_past : Nat → Int32) (m_known : Int32) (m_images : Nat → Int32) (m_kept : Nat → Int32) (m_notes : Nat → Int32) (m_noted : Int32) (m_at : Int32) (m_sort : Int32) (m_start : Int32) (m_value : Int32) (m_steps : Nat → Int32) (m_rows : Nat → Int32) (m_held : Nat → Int32) (a1 : Int32) (r0 : Int32) (r_m_images : Nat → Int32) (r_m_kept : Nat → Int32) (hG : gX7_keep m_s m_images m_kept a1 = some (r0, r_m_images, r_m_kept)) : Met l yX7_keep wsX7_keep ({ frames := 1, cells := 0, slots := 0, locals := 22 } : Room) (va_Pc [.ref (qa 0), .int a1] (wq_pw (dC, dI) [(cI, .int), (cJ, .long), (cZ, .boolean)] (wcM qa cI cJ cZ m_trace m_text m_typed m_told m_draft m_s m_past m_known m_images m_kept m_notes m_noted m_at m_sort m_start m_value m_steps m_rows m_held) sz)) (wq_Wi (dC, dI) r0 wq_tr (wcM qa cI cJ cZ m_trace m_text m_typed m_told m_draft m_s m_past m_known r_m_images r_m_kept m_notes m_noted m_at m_sort m_start m_value m_steps m_rows m_held) (va_A (wcM qa cI cJ cZ m_trace m_text m_typed m_told m_draft m_s m_past m_known m_images m_kept m_notes m_noted m_at m_sort m_start m_value m_steps m_rows m_held) sz)) 0 0 (va_A (wcM qa cI cJ cZ m_trace m_text m_typed m_told m_draft m_s m_past m_known m_images m_kept m_notes m_noted m_at m_sort m_start m_value m_steps m_rows m_held) sz) := by
  refine Met.ofW (cc := cX7_keep) (maxL := 3) (ret := (some .int)) (by decide) rfl ?_
  intro p e s m args below meth c s₁ B hml hv
  obtain ⟨rfl, hsz, hP, hK, hD0, hE⟩ := hv
  have hx := B.exec
  have hb := B.bytes
  have hr := B.returns
  have hts := atoms_spec (ws := wsX7_keep) B.pre
  have hown : s.vm.findClass RX7 = some m.cls := findClass_of_methodNamed B.named
  have hlocks := B.notSynchronized
  subst hsz
  have hD := hD0.self (sz := s.heap.size)
  generalize hAe : va_A (wcM qa cI cJ cZ m_trace m_text m_typed m_told m_draft m_s m_past m_known m_images m_kept m_notes m_noted m_at m_sort m_start m_value m_steps m_rows m_held) s.heap.size = A at hD hE ⊢
  have hA : ∀ q : Nat, s.heap.size ≤ q → A q := fun q h => by rw [← hAe]; exact Or.inr h
  have hS : va_S A s.heap s.heap [] := va_S.rf
  have hinX7 : ∀ w ∈ u_ws RX7 TX7 19, w ∈ wsX7_keep := by decide +kernel
  have k1 := hts (.fieldLink RX7 28 "DoorMorningsModel" "kept" "[Z") (by decide +kernel)
  have k2 := hts (.fieldLink RX7 19 "DoorMorningsModel" "s" "[I") (by decide +kernel)
  have k3 := hts (.fieldLink RX7 25 "DoorMorningsModel" "images" "[I") (by decide +kernel)
  have hl := lv_entry ([.ref (qa 0), .int a1]) (n := 3) (Nat.le_of_ble_eq_true rfl)
  rw [lg_entry_eq]
  generalize (lg_sl ([.ref (qa 0), .int a1]) ++ List.replicate (3 - (lg_sl ([.ref (qa 0), .int a1])).length) Slot.unset).toArray = ls at hl ⊢
  have hl : lv_has ls 3 [(0, .ref (qa 0)), (1, .int a1)] := hl
  have hL13 : ∀ (z_m_kept : Nat → Int32) (n : Nat) (x2 : Int32) (z_m_images : Nat → Int32) (H : Heap) (locs : List Loc) (ls : Array Slot), gX7_keep_L13 m_s z_m_kept a1 n x2 z_m_images = some (r0, r_m_images, r_m_kept) → va_P (dC, dI) vwCl (wcM qa cI cJ cZ m_trace m_text m_typed m_told m_draft m_s m_past m_known z_m_images z_m_kept m_notes m_noted m_at m_sort m_start m_value m_steps m_rows m_held) H → va_D A (wcM qa cI cJ cZ m_trace m_text m_typed m_told m_draft m_s m_past m_known z_m_images z_m_kept m_notes m_noted m_at m_sort m_start m_value m_steps m_rows m_held) → va_S A s.heap H locs → lv_has ls 3 [(0, .ref (qa 0)), (1, .int a1), (2, .int x2)] → W p l e (headSpec wsX7_keep ({ frames := 1, cells := 0, slots := 0, locals := 22 } : Room)).room s m ([.ref (qa 0), .int a1] : List Value).toArray below meth c H locs 0 0 (MQ below (wq_Wi (dC, dI) r0 wq_tr (wcM qa cI cJ cZ m_trace m_text m_typed m_told m_draft m_s m_past m_known r_m_images r_m_kept m_notes m_noted m_at m_sort m_start m_value m_steps m_rows m_held) A) ([.ref (qa 0), .int a1] : List Value).toArray s 0 0 A) (F0 m 13 ls []) := by
    intro z_m_kept n
    induction n with
    | zero =>
      intro x2 z_m_images H locs ls hG
      exact absurd (show (none : Option (Int32 × (Nat → Int32) × (Nat → Int32))) = some (r0, r_m_images, r_m_kept) from hG) (by intro h9; cases h9)
    | succ n ih13 =>
      intro x2 z_m_images H locs ls hG hP hD hS hl
      rw [gX7_keep_L13] at hG
      refine lv_iload_n hx hb dX7_keep_13 rfl (lv_at hl 2 rfl) ?_
      refine lv_bipush (v := 8) hx hb dX7_keep_14 (by decide) ?_
      refine lv_icmp_ge (tgt := 42) hx hb dX7_keep_16 (by decide) (fun c1 => ?_) (fun c1 => ?_)
      · replace hG := wq_t c1 hG
        refine lv_aload_n hx hb dX7_keep_42 rfl (lv_at hl 0 rfl) ?_
        refine va_get (D := (dC, dI)) (ci := 7) (v := .ref (qa 7)) (C := RX7) (T := TX7) (N := 19) hx hb hts hinX7 hown hK hP 0 rfl rfl 9 (by decide) k1 (fun _ h9 => h9) rfl dX7_keep_43 ?_
        refine lv_iload_n hx hb dX7_keep_46 rfl (lv_at hl 1 rfl) ?_
        refine lv_iconst (v := 1) hx hb dX7_keep_47 (by decide) ?_
        obtain ⟨h2, hG⟩ := wq_chk_s hG
        refine wq_zast (D := (dC, dI)) (y := 1) hx hb hK hP hD hS 7 2 rfl rfl h2 (Int32.toNatClampNeg a1) rfl (by decide) (wcM qa cI cJ cZ m_trace m_text m_typed m_told m_draft m_s m_past m_known z_m_images (upd z_m_kept (Int32.toNatClampNeg a1) 1) m_notes m_noted m_at m_sort m_start m_value m_steps m_rows m_held) rfl dX7_keep_48 (fun H locs hP hD hS => ?_)
        refine lv_aload_n hx hb dX7_keep_49 rfl (lv_at hl 0 rfl) ?_
        refine va_get (D := (dC, dI)) (ci := 7) (v := .ref (qa 4)) (C := RX7) (T := TX7) (N := 19) hx hb hts hinX7 hown hK hP 0 rfl rfl 5 (by decide) k2 (fun _ h9 => h9) rfl dX7_keep_50 ?_
        refine lv_iconst (v := 0) hx hb dX7_keep_53 (by decide) ?_
        refine wq_iald (D := (dC, dI)) hx hb hK hP 4 0 rfl rfl (wq_lit (by decide)) 0 rfl dX7_keep_54 ?_
        obtain ⟨e0, e1, e2⟩ := wq_j3 hG
        subst e0
        subst e1
        subst e2
        exact W.iret hx hb hr (fun t ht hW => ⟨⟨_, (), rfl, ⟨rfl, trivial⟩, by rw [ht]; exact hP, hD⟩, hS.F ht⟩) hS.2.2 dX7_keep_55
      · replace hG := wq_f c1 hG
        refine lv_aload_n hx hb dX7_keep_19 rfl (lv_at hl 0 rfl) ?_
        refine va_get (D := (dC, dI)) (ci := 7) (v := .ref (qa 6)) (C := RX7) (T := TX7) (N := 19) hx hb hts hinX7 hown hK hP 0 rfl rfl 8 (by decide) k3 (fun _ h9 => h9) rfl dX7_keep_20 ?_
        refine lv_bipush (v := 8) hx hb dX7_keep_23 (by decide) ?_
        refine lv_iload_n hx hb dX7_keep_25 rfl (lv_at hl 1 rfl) ?_
        refine lv_imul hx hb dX7_keep_26 ?_
        refine lv_iload_n hx hb dX7_keep_27 rfl (lv_at hl 2 rfl) ?_
        refine lv_iadd hx hb dX7_keep_28 ?_
        refine lv_aload_n hx hb dX7_keep_29 rfl (lv_at hl 0 rfl) ?_
        refine va_get (D := (dC, dI)) (ci := 7) (v := .ref (qa 4)) (C := RX7) (T := TX7) (N := 19) hx hb hts hinX7 hown hK hP 0 rfl rfl 5 (by decide) k2 (fun _ h9 => h9) rfl dX7_keep_30 ?_
        refine lv_iload_n hx hb dX7_keep_33 rfl (lv_at hl 2 rfl) ?_
        obtain ⟨h3, hG⟩ := wq_chk_s hG
        refine wq_iald (D := (dC, dI)) hx hb hK hP 4 0 rfl rfl h3 (Int32.toNatClampNeg x2) rfl dX7_keep_34 ?_
        obtain ⟨h4, hG⟩ := wq_chk_s hG
        refine wq_iast (D := (dC, dI)) hx hb hK hP hD hS 6 0 rfl rfl h4 (Int32.toNatClampNeg ((8 * a1) + x2)) rfl (wcM qa cI cJ cZ m_trace m_text m_typed m_told m_draft m_s m_past m_known (upd z_m_images (Int32.toNatClampNeg ((8 * a1) + x2)) (m_s (Int32.toNatClampNeg x2))) z_m_kept m_notes m_noted m_at m_sort m_start m_value m_steps m_rows m_held) rfl dX7_keep_35 (fun H locs hP hD hS => ?_)
        refine lv_iinc (v := (x2 + 1)) (lv' := [(2, .int (x2 + 1)), (0, .ref (qa 0)), (1, .int a1)]) hx hb dX7_keep_36 hl (k := 2) rfl rfl (by decide) rfl (fun ls hl => ?_)
        refine lv_goto (tgt := 13) hx hb dX7_keep_39 (by decide) ?_
        exact ih13 (x2 + 1) (upd z_m_images (Int32.toNatClampNeg ((8 * a1) + x2)) (m_s (Int32.toNatClampNeg x2))) _ _ _ hG hP hD hS (lv_sub hl [1, 2, 0] rfl)
  unfold gX7_keep at hG
  refine lv_iload_n hx hb dX7_keep_0 rfl (lv_at hl 1 rfl) ?_
  refine lv_iconst (v := 0) hx hb dX7_keep_1 (by decide) ?_
  refine lv_iconst (v := 1) hx hb dX7_keep_2 (by decide) ?_
  obtain ⟨v6, g5, hG⟩ := wq_b1_s hG
  refine wq_ci (v := v6) (B := wq_Z1) (va_runS (As := [.int a1, .int 0, .int 1]) (rest := []) ⟨hx, hb, hml, hown, hts⟩ (C_X7_in l dC dI cI cJ cZ qa s.heap.size  a1 0 1 v6 g5) (va_cwS 3 hts gX7_keep_X7_in rfl rfl rfl hdS_X7_in ⟨Nat.le_of_ble_eq_true rfl, Nat.le_of_ble_eq_true rfl⟩) (wq_ppS hK (hP.sub (ws' := []) [] rfl) hE hS hA) rfl rfl hl.1 rfl (lv_room (Nat.le_of_ble_eq_true rfl)) dX7_keep_3 ⟨Nat.zero_le _, Nat.zero_le _⟩) hS hA (fun H locs b7 hk hS => ?_)
  replace hP := wq_kp hP hk
  clear hk
  refine lv_if_ne (tgt := 11) hx hb dX7_keep_6 (by decide) (fun c8 => ?_) (fun c8 => ?_)
  · replace hG := wq_f c8 hG
    refine lv_iconst (v := 0) hx hb dX7_keep_11 (by decide) ?_
    refine lv_istore_n (lv' := [(2, .int 0), (0, .ref (qa 0)), (1, .int a1)]) hx hb dX7_keep_12 rfl hl (by decide) rfl (fun ls hl => ?_)
    exact hL13 m_kept 1000 0 m_images _ _ _ hG hP hD hS (lv_sub hl [1, 2, 0] rfl)
  · replace hG := wq_t c8 hG
    refine lv_iconst (v := (-1)) hx hb dX7_keep_9 (by decide) ?_
    obtain ⟨e0, e1, e2⟩ := wq_j3 hG
    subst e0
    subst e1
    subst e2
    exact W.iret hx hb hr (fun t ht hW => ⟨⟨_, (), rfl, ⟨rfl, trivial⟩, by rw [ht]; exact hP, hD⟩, hS.F ht⟩) hS.2.2 dX7_keep_10

