theorem hdV_X7_isNearer : yX7_isNearer.cls = RX7 ∧ yX7_isNearer.cls ≠ "java/lang/invoke/MethodHandle" ∧ yX7_isNearer.cls ≠ "java/lang/invoke/VarHandle" ∧ (parseMethodDescriptor yX7_isNearer.desc).map (fun d => d.parameters.length) = some 3 := by decide +kernel
set_option maxHeartbeats 4000000 in
set_option maxRecDepth 100000 in
theorem C_X7_isNearer (l : Launch) (dC : Nat → ClassId) (dI : Nat → Nat → Nat) (cI cJ cZ : ClassId) (qa : Nat → Nat) (sz : Nat) (m_trace : Int64) (m_text : Nat → Int32) (m_typed : Int32) (m_told : Nat → Int32) (m_draft : Nat → Int32) (m_s : Nat → Int32) (m_past : Nat → Int32) (m_known : Int32) (m_images : Nat → Int32) (m_kept : Nat → Int32) (m_notes : Nat → Int32) (m_noted : Int32) (m_at : Int32) (m_sort : Int32) (m_start : Int32) (m_value : Int32) (m_steps : Nat → Int32) (m_rows : Nat → Int32) (m_held : Nat → Int32) (a1 : Int32) (a2 : Int32) (a3 : Int32) (r0 : Int32) (hG : gX7_isNearer m_told m_steps a1 a2 a3 = some r0) : Met l yX7_isNearer wsX7_isNearer ({ frames := 3, cells := 0, slots := 0, locals := 66 } : Room) (va_Pc [.ref (qa 0), .int a1, .int a2, .int a3] (wq_pp (dC, dI) [(cI, .int), (cJ, .long), (cZ, .boolean)] (wcM qa cI cJ cZ m_trace m_text m_typed m_told m_draft m_s m_past m_known m_images m_kept m_notes m_noted m_at m_sort m_start m_value m_steps m_rows m_held) sz)) (wq_Qi r0 wq_Z1 (va_A [] sz)) 0 0 (va_A [] sz) := by
  refine Met.ofW (cc := cX7_isNearer) (maxL := 9) (ret := (some .boolean)) (by decide) rfl ?_
  intro p e s m args below meth c s₁ B hml hv
  obtain ⟨rfl, hsz, hP, hK, hE⟩ := hv
  have hx := B.exec
  have hb := B.bytes
  have hr := B.returns
  have hts := atoms_spec (ws := wsX7_isNearer) B.pre
  have hown : s.vm.findClass RX7 = some m.cls := findClass_of_methodNamed B.named
  have hlocks := B.notSynchronized
  subst hsz
  generalize hAe : va_A [] s.heap.size = A at hE ⊢
  have hA : ∀ q : Nat, s.heap.size ≤ q → A q := fun q h => by rw [← hAe]; exact Or.inr h
  have hS : va_S A s.heap s.heap [] := va_S.rf
  have hinX7 : ∀ w ∈ u_ws RX7 TX7 19, w ∈ wsX7_isNearer := by decide +kernel
  have k1 := hts (.fieldLink RX7 13 "DoorMorningsModel" "told" "[I") (by decide +kernel)
  have k2 := hts (.fieldLink RX7 35 "DoorMorningsModel" "steps" "[I") (by decide +kernel)
  have hl := lv_entry ([.ref (qa 0), .int a1, .int a2, .int a3]) (n := 9) (Nat.le_of_ble_eq_true rfl)
  rw [lg_entry_eq]
  generalize (lg_sl ([.ref (qa 0), .int a1, .int a2, .int a3]) ++ List.replicate (9 - (lg_sl ([.ref (qa 0), .int a1, .int a2, .int a3])).length) Slot.unset).toArray = ls at hl ⊢
  have hl : lv_has ls 9 [(0, .ref (qa 0)), (1, .int a1), (2, .int a2), (3, .int a3)] := hl
  have hL6 : ∀  (n : Nat) (x4 : Int32) (x5 : Int32) (H : Heap) (locs : List Loc) (ls : Array Slot), gX7_isNearer_L6 m_told m_steps a1 a2 a3 n x4 x5 = some r0 → va_P (dC, dI) vwCl (wcM qa cI cJ cZ m_trace m_text m_typed m_told m_draft m_s m_past m_known m_images m_kept m_notes m_noted m_at m_sort m_start m_value m_steps m_rows m_held) H → va_S A s.heap H locs → lv_has ls 9 [(0, .ref (qa 0)), (1, .int a1), (2, .int a2), (3, .int a3), (4, .int x4), (5, .int x5)] → W p l e (headSpec wsX7_isNearer ({ frames := 3, cells := 0, slots := 0, locals := 66 } : Room)).room s m ([.ref (qa 0), .int a1, .int a2, .int a3] : List Value).toArray below meth c H locs 0 0 (MQ below (wq_Qi r0 wq_Z1 A) ([.ref (qa 0), .int a1, .int a2, .int a3] : List Value).toArray s 0 0 A) (F0 m 6 ls []) := by
    intro  n
    induction n with
    | zero =>
      intro x4 x5 H locs ls hG
      exact absurd (show (none : Option (Int32)) = some r0 from hG) (by intro h9; cases h9)
    | succ n ih6 =>
      intro x4 x5 H locs ls hG hP hS hl
      rw [gX7_isNearer_L6] at hG
      refine lv_iload hx hb dX7_isNearer_6 (lv_at hl 5 rfl) ?_
      refine lv_aload_n hx hb dX7_isNearer_8 rfl (lv_at hl 0 rfl) ?_
      refine va_get (D := (dC, dI)) (ci := 7) (v := .ref (qa 2)) (C := RX7) (T := TX7) (N := 19) hx hb hts hinX7 hown hK hP 0 rfl rfl 3 (by decide) k1 (fun _ h9 => h9) rfl dX7_isNearer_9 ?_
      refine lv_iconst (v := 0) hx hb dX7_isNearer_12 (by decide) ?_
      refine wq_iald (D := (dC, dI)) hx hb hK hP 2 0 rfl rfl (wq_lit (by decide)) 0 rfl dX7_isNearer_13 ?_
      refine lv_icmp_ge (tgt := 151) hx hb dX7_isNearer_14 (by decide) (fun c1 => ?_) (fun c1 => ?_)
      · replace hG := wq_t c1 hG
        refine lv_iload hx hb dX7_isNearer_151 (lv_at hl 4 rfl) ?_
        obtain ⟨b2, hG⟩ := wq_z01_s hG
        exact W.zret (v := x4) hx hb hr (wq_Z1_n b2) (fun t ht hW => ⟨⟨x4, (), rfl, ⟨Option.some.inj hG, b2⟩, trivial⟩, hS.F ht⟩) hS.2.2 dX7_isNearer_153
      · replace hG := wq_f c1 hG
        refine lv_aload_n hx hb dX7_isNearer_17 rfl (lv_at hl 0 rfl) ?_
        refine lv_iload hx hb dX7_isNearer_18 (lv_at hl 5 rfl) ?_
        refine lv_iload_n hx hb dX7_isNearer_20 rfl (lv_at hl 1 rfl) ?_
        refine lv_iload_n hx hb dX7_isNearer_21 rfl (lv_at hl 2 rfl) ?_
        obtain ⟨v4, g3, hG⟩ := wq_b1_s hG
        refine wq_ci (v := v4) (B := wq_tr) (va_runV (As := [.int x5, .int a1, .int a2]) (rest := []) ⟨hx, hb, hml, hown, hts⟩ (C_X7_calmTo l dC dI cI cJ cZ qa H.size m_trace m_text m_typed m_told m_draft m_s m_past m_known m_images m_kept m_notes m_noted m_at m_sort m_start m_value m_steps m_rows m_held x5 a1 a2 v4 g3) (cwV 3 hts gX7_isNearer_X7_calmTo rfl rfl rfl hdV_X7_calmTo ⟨Nat.le_of_ble_eq_true rfl, Nat.le_of_ble_eq_true rfl⟩) (wq_ppV hK hP hE hS hA (ci := 7) (q0 := 0) rfl rfl) rfl rfl hl.1 rfl (lv_room (Nat.le_of_ble_eq_true rfl)) dX7_isNearer_22 ⟨Nat.zero_le _, Nat.zero_le _⟩) hS hA (fun H locs b5 hk hS => ?_)
        replace hP := wq_kp hP hk
        clear hk
        refine lv_istore (lv' := [(6, .int v4), (0, .ref (qa 0)), (1, .int a1), (2, .int a2), (3, .int a3), (4, .int x4), (5, .int x5)]) hx hb dX7_isNearer_25 hl (by decide) rfl (fun ls hl => ?_)
        refine lv_iload_n hx hb dX7_isNearer_27 rfl (lv_at hl 4 rfl) ?_
        refine lv_iconst (v := 1) hx hb dX7_isNearer_28 (by decide) ?_
        refine lv_icmp_ne (tgt := 51) hx hb dX7_isNearer_29 (by decide) (fun c6 => ?_) (fun c6 => ?_)
        · replace hG := wq_f c6 hG
          refine lv_iload hx hb dX7_isNearer_51 (lv_at hl 0 rfl) ?_
          refine lv_if_le (tgt := 79) hx hb dX7_isNearer_53 (by decide) (fun c7 => ?_) (fun c7 => ?_)
          · replace hG := wq_t c7 hG
            refine lv_iconst (v := 0) hx hb dX7_isNearer_79 (by decide) ?_
            refine lv_istore (lv' := [(7, .int 0), (6, .int v4), (0, .ref (qa 0)), (1, .int a1), (2, .int a2), (3, .int a3), (4, .int x4), (5, .int x5)]) hx hb dX7_isNearer_80 hl (by decide) rfl (fun ls hl => ?_)
            refine lv_iload_n hx hb dX7_isNearer_82 rfl (lv_at hl 5 rfl) ?_
            refine lv_iconst (v := 1) hx hb dX7_isNearer_83 (by decide) ?_
            refine lv_icmp_le (tgt := 120) hx hb dX7_isNearer_84 (by decide) (fun c8 => ?_) (fun c8 => ?_)
            · replace hG := wq_t c8 hG
              refine lv_iconst (v := 0) hx hb dX7_isNearer_120 (by decide) ?_
              refine lv_istore (lv' := [(8, .int 0), (7, .int 0), (6, .int v4), (0, .ref (qa 0)), (1, .int a1), (2, .int a2), (3, .int a3), (4, .int x4), (5, .int x5)]) hx hb dX7_isNearer_121 hl (by decide) rfl (fun ls hl => ?_)
              refine lv_iload hx hb dX7_isNearer_123 (lv_at hl 7 rfl) ?_
              refine lv_if_ne (tgt := 138) hx hb dX7_isNearer_125 (by decide) (fun c9 => ?_) (fun c9 => ?_)
              · replace hG := wq_f c9 hG
                refine lv_iconst (v := 1) hx hb dX7_isNearer_138 (by decide) ?_
                refine lv_goto (tgt := 143) hx hb dX7_isNearer_139 (by decide) ?_
                refine lv_istore (lv' := [(4, .int 1), (8, .int 0), (7, .int 0), (6, .int v4), (0, .ref (qa 0)), (1, .int a1), (2, .int a2), (3, .int a3), (5, .int x5)]) hx hb dX7_isNearer_143 hl (by decide) rfl (fun ls hl => ?_)
                refine lv_iinc (v := (x5 + 1)) (lv' := [(5, .int (x5 + 1)), (4, .int 1), (8, .int 0), (7, .int 0), (6, .int v4), (0, .ref (qa 0)), (1, .int a1), (2, .int a2), (3, .int a3)]) hx hb dX7_isNearer_145 hl (k := 8) rfl rfl (by decide) rfl (fun ls hl => ?_)
                refine lv_goto (tgt := 6) hx hb dX7_isNearer_148 (by decide) ?_
                exact ih6 1 (x5 + 1) _ _ _ hG hP hS (lv_sub hl [5, 6, 7, 8, 1, 0] rfl)
              · replace hG := wq_t c9 hG
                refine lv_iload hx hb dX7_isNearer_128 (lv_at hl 1 rfl) ?_
                refine lv_if_ne (tgt := 138) hx hb dX7_isNearer_130 (by decide) (fun c10 => absurd (by decide) c10) (fun c10 => ?_)
                refine lv_iload hx hb dX7_isNearer_133 (lv_at hl 0 rfl) ?_
                refine lv_if_eq (tgt := 142) hx hb dX7_isNearer_135 (by decide) (fun c11 => ?_) (fun c11 => absurd (by decide) c11)
                refine lv_iconst (v := 0) hx hb dX7_isNearer_142 (by decide) ?_
                refine lv_istore (lv' := [(4, .int 0), (8, .int 0), (7, .int 0), (6, .int v4), (0, .ref (qa 0)), (1, .int a1), (2, .int a2), (3, .int a3), (5, .int x5)]) hx hb dX7_isNearer_143 hl (by decide) rfl (fun ls hl => ?_)
                refine lv_iinc (v := (x5 + 1)) (lv' := [(5, .int (x5 + 1)), (4, .int 0), (8, .int 0), (7, .int 0), (6, .int v4), (0, .ref (qa 0)), (1, .int a1), (2, .int a2), (3, .int a3)]) hx hb dX7_isNearer_145 hl (k := 8) rfl rfl (by decide) rfl (fun ls hl => ?_)
                refine lv_goto (tgt := 6) hx hb dX7_isNearer_148 (by decide) ?_
                exact ih6 0 (x5 + 1) _ _ _ hG hP hS (lv_sub hl [5, 6, 7, 8, 1, 0] rfl)
            · replace hG := wq_f c8 hG
              refine lv_aload_n hx hb dX7_isNearer_87 rfl (lv_at hl 2 rfl) ?_
              refine lv_iload hx hb dX7_isNearer_88 (lv_at hl 7 rfl) ?_
              refine lv_iload_n hx hb dX7_isNearer_90 rfl (lv_at hl 3 rfl) ?_
              refine lv_iload_n hx hb dX7_isNearer_91 rfl (lv_at hl 4 rfl) ?_
              obtain ⟨v13, g12, hG⟩ := wq_b1_s hG
              refine wq_ci (v := v13) (B := wq_tr) (va_runV (As := [.int x5, .int a1, .int a2]) (rest := []) ⟨hx, hb, hml, hown, hts⟩ (C_X7_wildFrom l dC dI cI cJ cZ qa H.size m_trace m_text m_typed m_told m_draft m_s m_past m_known m_images m_kept m_notes m_noted m_at m_sort m_start m_value m_steps m_rows m_held x5 a1 a2 v13 g12) (cwV 3 hts gX7_isNearer_X7_wildFrom rfl rfl rfl hdV_X7_wildFrom ⟨Nat.le_of_ble_eq_true rfl, Nat.le_of_ble_eq_true rfl⟩) (wq_ppV hK hP hE hS hA (ci := 7) (q0 := 0) rfl rfl) rfl rfl hl.1 rfl (lv_room (Nat.le_of_ble_eq_true rfl)) dX7_isNearer_92 ⟨Nat.zero_le _, Nat.zero_le _⟩) hS hA (fun H locs b14 hk hS => ?_)
              replace hP := wq_kp hP hk
              clear hk
              refine lv_bipush (v := 96) hx hb dX7_isNearer_95 (by decide) ?_
              refine lv_icmp_gt (tgt := 120) hx hb dX7_isNearer_97 (by decide) (fun c15 => ?_) (fun c15 => ?_)
              · replace hG := wq_t c15 hG
                refine lv_iconst (v := 0) hx hb dX7_isNearer_120 (by decide) ?_
                refine lv_istore (lv' := [(8, .int 0), (7, .int 0), (6, .int v4), (0, .ref (qa 0)), (1, .int a1), (2, .int a2), (3, .int a3), (4, .int x4), (5, .int x5)]) hx hb dX7_isNearer_121 hl (by decide) rfl (fun ls hl => ?_)
                refine lv_iload hx hb dX7_isNearer_123 (lv_at hl 7 rfl) ?_
                refine lv_if_ne (tgt := 138) hx hb dX7_isNearer_125 (by decide) (fun c16 => ?_) (fun c16 => ?_)
                · replace hG := wq_f c16 hG
                  refine lv_iconst (v := 1) hx hb dX7_isNearer_138 (by decide) ?_
                  refine lv_goto (tgt := 143) hx hb dX7_isNearer_139 (by decide) ?_
                  refine lv_istore (lv' := [(4, .int 1), (8, .int 0), (7, .int 0), (6, .int v4), (0, .ref (qa 0)), (1, .int a1), (2, .int a2), (3, .int a3), (5, .int x5)]) hx hb dX7_isNearer_143 hl (by decide) rfl (fun ls hl => ?_)
                  refine lv_iinc (v := (x5 + 1)) (lv' := [(5, .int (x5 + 1)), (4, .int 1), (8, .int 0), (7, .int 0), (6, .int v4), (0, .ref (qa 0)), (1, .int a1), (2, .int a2), (3, .int a3)]) hx hb dX7_isNearer_145 hl (k := 8) rfl rfl (by decide) rfl (fun ls hl => ?_)
                  refine lv_goto (tgt := 6) hx hb dX7_isNearer_148 (by decide) ?_
                  exact ih6 1 (x5 + 1) _ _ _ hG hP hS (lv_sub hl [5, 6, 7, 8, 1, 0] rfl)
                · replace hG := wq_t c16 hG
                  refine lv_iload hx hb dX7_isNearer_128 (lv_at hl 1 rfl) ?_
                  refine lv_if_ne (tgt := 138) hx hb dX7_isNearer_130 (by decide) (fun c17 => absurd (by decide) c17) (fun c17 => ?_)
                  refine lv_iload hx hb dX7_isNearer_133 (lv_at hl 0 rfl) ?_
                  refine lv_if_eq (tgt := 142) hx hb dX7_isNearer_135 (by decide) (fun c18 => ?_) (fun c18 => absurd (by decide) c18)
                  refine lv_iconst (v := 0) hx hb dX7_isNearer_142 (by decide) ?_
                  refine lv_istore (lv' := [(4, .int 0), (8, .int 0), (7, .int 0), (6, .int v4), (0, .ref (qa 0)), (1, .int a1), (2, .int a2), (3, .int a3), (5, .int x5)]) hx hb dX7_isNearer_143 hl (by decide) rfl (fun ls hl => ?_)
                  refine lv_iinc (v := (x5 + 1)) (lv' := [(5, .int (x5 + 1)), (4, .int 0), (8, .int 0), (7, .int 0), (6, .int v4), (0, .ref (qa 0)), (1, .int a1), (2, .int a2), (3, .int a3)]) hx hb dX7_isNearer_145 hl (k := 8) rfl rfl (by decide) rfl (fun ls hl => ?_)
                  refine lv_goto (tgt := 6) hx hb dX7_isNearer_148 (by decide) ?_
                  exact ih6 0 (x5 + 1) _ _ _ hG hP hS (lv_sub hl [5, 6, 7, 8, 1, 0] rfl)
              · replace hG := wq_f c15 hG
                refine lv_aload_n hx hb dX7_isNearer_100 rfl (lv_at hl 2 rfl) ?_
                refine va_get (D := (dC, dI)) (ci := 7) (v := .ref (qa 9)) (C := RX7) (T := TX7) (N := 19) hx hb hts hinX7 hown hK hP 0 rfl rfl 16 (by decide) k2 (fun _ h9 => h9) rfl dX7_isNearer_101 ?_
                refine lv_iload_n hx hb dX7_isNearer_104 rfl (lv_at hl 3 rfl) ?_
                refine lv_iload_n hx hb dX7_isNearer_105 rfl (lv_at hl 4 rfl) ?_
                obtain ⟨v20, g19, hG⟩ := wq_b1_s hG
                refine wq_ci (v := v20) (B := wq_tr) (va_runS (As := [.int a1, .int a2]) (rest := [.ref (qa 9)]) ⟨hx, hb, hml, hown, hts⟩ (C_X7_wildly l dC dI cI cJ cZ qa H.size  a1 a2 v20 g19) (va_cwS 2 hts gX7_isNearer_X7_wildly rfl rfl rfl hdS_X7_wildly ⟨Nat.le_of_ble_eq_true rfl, Nat.le_of_ble_eq_true rfl⟩) (wq_ppS hK (hP.sub (ws' := []) [] rfl) hE hS hA) rfl rfl hl.1 rfl (lv_room (Nat.le_of_ble_eq_true rfl)) dX7_isNearer_106 ⟨Nat.zero_le _, Nat.zero_le _⟩) hS hA (fun H locs b21 hk hS => ?_)
                replace hP := wq_kp hP hk
                clear hk
                obtain ⟨h22, hG⟩ := wq_chk_s hG
                refine wq_iald (D := (dC, dI)) hx hb hK hP 9 0 rfl rfl h22 (Int32.toNatClampNeg v20) rfl dX7_isNearer_109 ?_
                refine lv_iload_n hx hb dX7_isNearer_110 rfl (lv_at hl 5 rfl) ?_
                refine lv_iconst (v := 1) hx hb dX7_isNearer_111 (by decide) ?_
                refine lv_isub hx hb dX7_isNearer_112 ?_
                refine lv_icmp_ne (tgt := 120) hx hb dX7_isNearer_113 (by decide) (fun c23 => ?_) (fun c23 => ?_)
                · replace hG := wq_f c23 hG
                  refine lv_iconst (v := 0) hx hb dX7_isNearer_120 (by decide) ?_
                  refine lv_istore (lv' := [(8, .int 0), (7, .int 0), (6, .int v4), (0, .ref (qa 0)), (1, .int a1), (2, .int a2), (3, .int a3), (4, .int x4), (5, .int x5)]) hx hb dX7_isNearer_121 hl (by decide) rfl (fun ls hl => ?_)
                  refine lv_iload hx hb dX7_isNearer_123 (lv_at hl 7 rfl) ?_
                  refine lv_if_ne (tgt := 138) hx hb dX7_isNearer_125 (by decide) (fun c24 => ?_) (fun c24 => ?_)
                  · replace hG := wq_f c24 hG
                    refine lv_iconst (v := 1) hx hb dX7_isNearer_138 (by decide) ?_
                    refine lv_goto (tgt := 143) hx hb dX7_isNearer_139 (by decide) ?_
                    refine lv_istore (lv' := [(4, .int 1), (8, .int 0), (7, .int 0), (6, .int v4), (0, .ref (qa 0)), (1, .int a1), (2, .int a2), (3, .int a3), (5, .int x5)]) hx hb dX7_isNearer_143 hl (by decide) rfl (fun ls hl => ?_)
                    refine lv_iinc (v := (x5 + 1)) (lv' := [(5, .int (x5 + 1)), (4, .int 1), (8, .int 0), (7, .int 0), (6, .int v4), (0, .ref (qa 0)), (1, .int a1), (2, .int a2), (3, .int a3)]) hx hb dX7_isNearer_145 hl (k := 8) rfl rfl (by decide) rfl (fun ls hl => ?_)
                    refine lv_goto (tgt := 6) hx hb dX7_isNearer_148 (by decide) ?_
                    exact ih6 1 (x5 + 1) _ _ _ hG hP hS (lv_sub hl [5, 6, 7, 8, 1, 0] rfl)
                  · replace hG := wq_t c24 hG
                    refine lv_iload hx hb dX7_isNearer_128 (lv_at hl 1 rfl) ?_
                    refine lv_if_ne (tgt := 138) hx hb dX7_isNearer_130 (by decide) (fun c25 => absurd (by decide) c25) (fun c25 => ?_)
                    refine lv_iload hx hb dX7_isNearer_133 (lv_at hl 0 rfl) ?_
                    refine lv_if_eq (tgt := 142) hx hb dX7_isNearer_135 (by decide) (fun c26 => ?_) (fun c26 => absurd (by decide) c26)
                    refine lv_iconst (v := 0) hx hb dX7_isNearer_142 (by decide) ?_
                    refine lv_istore (lv' := [(4, .int 0), (8, .int 0), (7, .int 0), (6, .int v4), (0, .ref (qa 0)), (1, .int a1), (2, .int a2), (3, .int a3), (5, .int x5)]) hx hb dX7_isNearer_143 hl (by decide) rfl (fun ls hl => ?_)
                    refine lv_iinc (v := (x5 + 1)) (lv' := [(5, .int (x5 + 1)), (4, .int 0), (8, .int 0), (7, .int 0), (6, .int v4), (0, .ref (qa 0)), (1, .int a1), (2, .int a2), (3, .int a3)]) hx hb dX7_isNearer_145 hl (k := 8) rfl rfl (by decide) rfl (fun ls hl => ?_)
                    refine lv_goto (tgt := 6) hx hb dX7_isNearer_148 (by decide) ?_
                    exact ih6 0 (x5 + 1) _ _ _ hG hP hS (lv_sub hl [5, 6, 7, 8, 1, 0] rfl)
                · replace hG := wq_t c23 hG
                  refine lv_iconst (v := 1) hx hb dX7_isNearer_116 (by decide) ?_
                  refine lv_goto (tgt := 121) hx hb dX7_isNearer_117 (by decide) ?_
                  refine lv_istore (lv' := [(8, .int 1), (7, .int 0), (6, .int v4), (0, .ref (qa 0)), (1, .int a1), (2, .int a2), (3, .int a3), (4, .int x4), (5, .int x5)]) hx hb dX7_isNearer_121 hl (by decide) rfl (fun ls hl => ?_)
                  refine lv_iload hx hb dX7_isNearer_123 (lv_at hl 7 rfl) ?_
                  refine lv_if_ne (tgt := 138) hx hb dX7_isNearer_125 (by decide) (fun c27 => ?_) (fun c27 => ?_)
                  · replace hG := wq_f c27 hG
                    refine lv_iconst (v := 1) hx hb dX7_isNearer_138 (by decide) ?_
                    refine lv_goto (tgt := 143) hx hb dX7_isNearer_139 (by decide) ?_
                    refine lv_istore (lv' := [(4, .int 1), (8, .int 1), (7, .int 0), (6, .int v4), (0, .ref (qa 0)), (1, .int a1), (2, .int a2), (3, .int a3), (5, .int x5)]) hx hb dX7_isNearer_143 hl (by decide) rfl (fun ls hl => ?_)
                    refine lv_iinc (v := (x5 + 1)) (lv' := [(5, .int (x5 + 1)), (4, .int 1), (8, .int 1), (7, .int 0), (6, .int v4), (0, .ref (qa 0)), (1, .int a1), (2, .int a2), (3, .int a3)]) hx hb dX7_isNearer_145 hl (k := 8) rfl rfl (by decide) rfl (fun ls hl => ?_)
                    refine lv_goto (tgt := 6) hx hb dX7_isNearer_148 (by decide) ?_
                    exact ih6 1 (x5 + 1) _ _ _ hG hP hS (lv_sub hl [5, 6, 7, 8, 1, 0] rfl)
                  · replace hG := wq_t c27 hG
                    refine lv_iload hx hb dX7_isNearer_128 (lv_at hl 1 rfl) ?_
                    refine lv_if_ne (tgt := 138) hx hb dX7_isNearer_130 (by decide) (fun c28 => absurd (by decide) c28) (fun c28 => ?_)
                    refine lv_iload hx hb dX7_isNearer_133 (lv_at hl 0 rfl) ?_
                    refine lv_if_eq (tgt := 142) hx hb dX7_isNearer_135 (by decide) (fun c29 => absurd c29 (by decide)) (fun c29 => ?_)
                    refine lv_iconst (v := 1) hx hb dX7_isNearer_138 (by decide) ?_
                    refine lv_goto (tgt := 143) hx hb dX7_isNearer_139 (by decide) ?_
                    refine lv_istore (lv' := [(4, .int 1), (8, .int 1), (7, .int 0), (6, .int v4), (0, .ref (qa 0)), (1, .int a1), (2, .int a2), (3, .int a3), (5, .int x5)]) hx hb dX7_isNearer_143 hl (by decide) rfl (fun ls hl => ?_)
                    refine lv_iinc (v := (x5 + 1)) (lv' := [(5, .int (x5 + 1)), (4, .int 1), (8, .int 1), (7, .int 0), (6, .int v4), (0, .ref (qa 0)), (1, .int a1), (2, .int a2), (3, .int a3)]) hx hb dX7_isNearer_145 hl (k := 8) rfl rfl (by decide) rfl (fun ls hl => ?_)
                    refine lv_goto (tgt := 6) hx hb dX7_isNearer_148 (by decide) ?_
                    exact ih6 1 (x5 + 1) _ _ _ hG hP hS (lv_sub hl [5, 6, 7, 8, 1, 0] rfl)
          · replace hG := wq_f c7 hG
            refine lv_aload_n hx hb dX7_isNearer_56 rfl (lv_at hl 1 rfl) ?_
            refine va_get (D := (dC, dI)) (ci := 7) (v := .ref (qa 9)) (C := RX7) (T := TX7) (N := 19) hx hb hts hinX7 hown hK hP 0 rfl rfl 16 (by decide) k2 (fun _ h9 => h9) rfl dX7_isNearer_57 ?_
            refine lv_aload_n hx hb dX7_isNearer_60 rfl (lv_at hl 1 rfl) ?_
            refine lv_iload hx hb dX7_isNearer_61 (lv_at hl 6 rfl) ?_
            refine lv_iload_n hx hb dX7_isNearer_63 rfl (lv_at hl 2 rfl) ?_
            refine lv_iload_n hx hb dX7_isNearer_64 rfl (lv_at hl 3 rfl) ?_
            obtain ⟨v31, g30, hG⟩ := wq_b1_s hG
            refine wq_ci (v := v31) (B := wq_tr) (va_runV (As := [.int x5, .int a1, .int a2]) (rest := [.ref (qa 9)]) ⟨hx, hb, hml, hown, hts⟩ (C_X7_calmly l dC dI cI cJ cZ qa H.size m_trace m_text m_typed m_told m_draft m_s m_past m_known m_images m_kept m_notes m_noted m_at m_sort m_start m_value m_steps m_rows m_held x5 a1 a2 v31 g30) (cwV 3 hts gX7_isNearer_X7_calmly rfl rfl rfl hdV_X7_calmly ⟨Nat.le_of_ble_eq_true rfl, Nat.le_of_ble_eq_true rfl⟩) (wq_ppV hK hP hE hS hA (ci := 7) (q0 := 0) rfl rfl) rfl rfl hl.1 rfl (lv_room (Nat.le_of_ble_eq_true rfl)) dX7_isNearer_65 ⟨Nat.zero_le _, Nat.zero_le _⟩) hS hA (fun H locs b32 hk hS => ?_)
            replace hP := wq_kp hP hk
            clear hk
            obtain ⟨h33, hG⟩ := wq_chk_s hG
            refine wq_iald (D := (dC, dI)) hx hb hK hP 9 0 rfl rfl h33 (Int32.toNatClampNeg v31) rfl dX7_isNearer_68 ?_
            refine lv_iload_n hx hb dX7_isNearer_69 rfl (lv_at hl 4 rfl) ?_
            refine lv_iconst (v := 1) hx hb dX7_isNearer_70 (by decide) ?_
            refine lv_isub hx hb dX7_isNearer_71 ?_
            refine lv_icmp_ne (tgt := 79) hx hb dX7_isNearer_72 (by decide) (fun c34 => ?_) (fun c34 => ?_)
            · replace hG := wq_f c34 hG
              refine lv_iconst (v := 0) hx hb dX7_isNearer_79 (by decide) ?_
              refine lv_istore (lv' := [(7, .int 0), (6, .int v4), (0, .ref (qa 0)), (1, .int a1), (2, .int a2), (3, .int a3), (4, .int x4), (5, .int x5)]) hx hb dX7_isNearer_80 hl (by decide) rfl (fun ls hl => ?_)
              refine lv_iload_n hx hb dX7_isNearer_82 rfl (lv_at hl 5 rfl) ?_
              refine lv_iconst (v := 1) hx hb dX7_isNearer_83 (by decide) ?_
              refine lv_icmp_le (tgt := 120) hx hb dX7_isNearer_84 (by decide) (fun c35 => ?_) (fun c35 => ?_)
              · replace hG := wq_t c35 hG
                refine lv_iconst (v := 0) hx hb dX7_isNearer_120 (by decide) ?_
                refine lv_istore (lv' := [(8, .int 0), (7, .int 0), (6, .int v4), (0, .ref (qa 0)), (1, .int a1), (2, .int a2), (3, .int a3), (4, .int x4), (5, .int x5)]) hx hb dX7_isNearer_121 hl (by decide) rfl (fun ls hl => ?_)
                refine lv_iload hx hb dX7_isNearer_123 (lv_at hl 7 rfl) ?_
                refine lv_if_ne (tgt := 138) hx hb dX7_isNearer_125 (by decide) (fun c36 => ?_) (fun c36 => ?_)
                · replace hG := wq_f c36 hG
                  refine lv_iconst (v := 1) hx hb dX7_isNearer_138 (by decide) ?_
                  refine lv_goto (tgt := 143) hx hb dX7_isNearer_139 (by decide) ?_
                  refine lv_istore (lv' := [(4, .int 1), (8, .int 0), (7, .int 0), (6, .int v4), (0, .ref (qa 0)), (1, .int a1), (2, .int a2), (3, .int a3), (5, .int x5)]) hx hb dX7_isNearer_143 hl (by decide) rfl (fun ls hl => ?_)
                  refine lv_iinc (v := (x5 + 1)) (lv' := [(5, .int (x5 + 1)), (4, .int 1), (8, .int 0), (7, .int 0), (6, .int v4), (0, .ref (qa 0)), (1, .int a1), (2, .int a2), (3, .int a3)]) hx hb dX7_isNearer_145 hl (k := 8) rfl rfl (by decide) rfl (fun ls hl => ?_)
                  refine lv_goto (tgt := 6) hx hb dX7_isNearer_148 (by decide) ?_
                  exact ih6 1 (x5 + 1) _ _ _ hG hP hS (lv_sub hl [5, 6, 7, 8, 1, 0] rfl)
                · replace hG := wq_t c36 hG
                  refine lv_iload hx hb dX7_isNearer_128 (lv_at hl 1 rfl) ?_
                  refine lv_if_ne (tgt := 138) hx hb dX7_isNearer_130 (by decide) (fun c37 => absurd (by decide) c37) (fun c37 => ?_)
                  refine lv_iload hx hb dX7_isNearer_133 (lv_at hl 0 rfl) ?_
                  refine lv_if_eq (tgt := 142) hx hb dX7_isNearer_135 (by decide) (fun c38 => ?_) (fun c38 => absurd (by decide) c38)
                  refine lv_iconst (v := 0) hx hb dX7_isNearer_142 (by decide) ?_
                  refine lv_istore (lv' := [(4, .int 0), (8, .int 0), (7, .int 0), (6, .int v4), (0, .ref (qa 0)), (1, .int a1), (2, .int a2), (3, .int a3), (5, .int x5)]) hx hb dX7_isNearer_143 hl (by decide) rfl (fun ls hl => ?_)
                  refine lv_iinc (v := (x5 + 1)) (lv' := [(5, .int (x5 + 1)), (4, .int 0), (8, .int 0), (7, .int 0), (6, .int v4), (0, .ref (qa 0)), (1, .int a1), (2, .int a2), (3, .int a3)]) hx hb dX7_isNearer_145 hl (k := 8) rfl rfl (by decide) rfl (fun ls hl => ?_)
                  refine lv_goto (tgt := 6) hx hb dX7_isNearer_148 (by decide) ?_
                  exact ih6 0 (x5 + 1) _ _ _ hG hP hS (lv_sub hl [5, 6, 7, 8, 1, 0] rfl)
              · replace hG := wq_f c35 hG
                refine lv_aload_n hx hb dX7_isNearer_87 rfl (lv_at hl 2 rfl) ?_
                refine lv_iload hx hb dX7_isNearer_88 (lv_at hl 7 rfl) ?_
                refine lv_iload_n hx hb dX7_isNearer_90 rfl (lv_at hl 3 rfl) ?_
                refine lv_iload_n hx hb dX7_isNearer_91 rfl (lv_at hl 4 rfl) ?_
                obtain ⟨v40, g39, hG⟩ := wq_b1_s hG
                refine wq_ci (v := v40) (B := wq_tr) (va_runV (As := [.int x5, .int a1, .int a2]) (rest := []) ⟨hx, hb, hml, hown, hts⟩ (C_X7_wildFrom l dC dI cI cJ cZ qa H.size m_trace m_text m_typed m_told m_draft m_s m_past m_known m_images m_kept m_notes m_noted m_at m_sort m_start m_value m_steps m_rows m_held x5 a1 a2 v40 g39) (cwV 3 hts gX7_isNearer_X7_wildFrom rfl rfl rfl hdV_X7_wildFrom ⟨Nat.le_of_ble_eq_true rfl, Nat.le_of_ble_eq_true rfl⟩) (wq_ppV hK hP hE hS hA (ci := 7) (q0 := 0) rfl rfl) rfl rfl hl.1 rfl (lv_room (Nat.le_of_ble_eq_true rfl)) dX7_isNearer_92 ⟨Nat.zero_le _, Nat.zero_le _⟩) hS hA (fun H locs b41 hk hS => ?_)
                replace hP := wq_kp hP hk
                clear hk
                refine lv_bipush (v := 96) hx hb dX7_isNearer_95 (by decide) ?_
                refine lv_icmp_gt (tgt := 120) hx hb dX7_isNearer_97 (by decide) (fun c42 => ?_) (fun c42 => ?_)
                · replace hG := wq_t c42 hG
                  refine lv_iconst (v := 0) hx hb dX7_isNearer_120 (by decide) ?_
                  refine lv_istore (lv' := [(8, .int 0), (7, .int 0), (6, .int v4), (0, .ref (qa 0)), (1, .int a1), (2, .int a2), (3, .int a3), (4, .int x4), (5, .int x5)]) hx hb dX7_isNearer_121 hl (by decide) rfl (fun ls hl => ?_)
                  refine lv_iload hx hb dX7_isNearer_123 (lv_at hl 7 rfl) ?_
                  refine lv_if_ne (tgt := 138) hx hb dX7_isNearer_125 (by decide) (fun c43 => ?_) (fun c43 => ?_)
                  · replace hG := wq_f c43 hG
                    refine lv_iconst (v := 1) hx hb dX7_isNearer_138 (by decide) ?_
                    refine lv_goto (tgt := 143) hx hb dX7_isNearer_139 (by decide) ?_
                    refine lv_istore (lv' := [(4, .int 1), (8, .int 0), (7, .int 0), (6, .int v4), (0, .ref (qa 0)), (1, .int a1), (2, .int a2), (3, .int a3), (5, .int x5)]) hx hb dX7_isNearer_143 hl (by decide) rfl (fun ls hl => ?_)
                    refine lv_iinc (v := (x5 + 1)) (lv' := [(5, .int (x5 + 1)), (4, .int 1), (8, .int 0), (7, .int 0), (6, .int v4), (0, .ref (qa 0)), (1, .int a1), (2, .int a2), (3, .int a3)]) hx hb dX7_isNearer_145 hl (k := 8) rfl rfl (by decide) rfl (fun ls hl => ?_)
                    refine lv_goto (tgt := 6) hx hb dX7_isNearer_148 (by decide) ?_
                    exact ih6 1 (x5 + 1) _ _ _ hG hP hS (lv_sub hl [5, 6, 7, 8, 1, 0] rfl)
                  · replace hG := wq_t c43 hG
                    refine lv_iload hx hb dX7_isNearer_128 (lv_at hl 1 rfl) ?_
                    refine lv_if_ne (tgt := 138) hx hb dX7_isNearer_130 (by decide) (fun c44 => absurd (by decide) c44) (fun c44 => ?_)
                    refine lv_iload hx hb dX7_isNearer_133 (lv_at hl 0 rfl) ?_
                    refine lv_if_eq (tgt := 142) hx hb dX7_isNearer_135 (by decide) (fun c45 => ?_) (fun c45 => absurd (by decide) c45)
                    refine lv_iconst (v := 0) hx hb dX7_isNearer_142 (by decide) ?_
                    refine lv_istore (lv' := [(4, .int 0), (8, .int 0), (7, .int 0), (6, .int v4), (0, .ref (qa 0)), (1, .int a1), (2, .int a2), (3, .int a3), (5, .int x5)]) hx hb dX7_isNearer_143 hl (by decide) rfl (fun ls hl => ?_)
                    refine lv_iinc (v := (x5 + 1)) (lv' := [(5, .int (x5 + 1)), (4, .int 0), (8, .int 0), (7, .int 0), (6, .int v4), (0, .ref (qa 0)), (1, .int a1), (2, .int a2), (3, .int a3)]) hx hb dX7_isNearer_145 hl (k := 8) rfl rfl (by decide) rfl (fun ls hl => ?_)
                    refine lv_goto (tgt := 6) hx hb dX7_isNearer_148 (by decide) ?_
                    exact ih6 0 (x5 + 1) _ _ _ hG hP hS (lv_sub hl [5, 6, 7, 8, 1, 0] rfl)
                · replace hG := wq_f c42 hG
                  refine lv_aload_n hx hb dX7_isNearer_100 rfl (lv_at hl 2 rfl) ?_
                  refine va_get (D := (dC, dI)) (ci := 7) (v := .ref (qa 9)) (C := RX7) (T := TX7) (N := 19) hx hb hts hinX7 hown hK hP 0 rfl rfl 16 (by decide) k2 (fun _ h9 => h9) rfl dX7_isNearer_101 ?_
                  refine lv_iload_n hx hb dX7_isNearer_104 rfl (lv_at hl 3 rfl) ?_
                  refine lv_iload_n hx hb dX7_isNearer_105 rfl (lv_at hl 4 rfl) ?_
                  obtain ⟨v47, g46, hG⟩ := wq_b1_s hG
                  refine wq_ci (v := v47) (B := wq_tr) (va_runS (As := [.int a1, .int a2]) (rest := [.ref (qa 9)]) ⟨hx, hb, hml, hown, hts⟩ (C_X7_wildly l dC dI cI cJ cZ qa H.size  a1 a2 v47 g46) (va_cwS 2 hts gX7_isNearer_X7_wildly rfl rfl rfl hdS_X7_wildly ⟨Nat.le_of_ble_eq_true rfl, Nat.le_of_ble_eq_true rfl⟩) (wq_ppS hK (hP.sub (ws' := []) [] rfl) hE hS hA) rfl rfl hl.1 rfl (lv_room (Nat.le_of_ble_eq_true rfl)) dX7_isNearer_106 ⟨Nat.zero_le _, Nat.zero_le _⟩) hS hA (fun H locs b48 hk hS => ?_)
                  replace hP := wq_kp hP hk
                  clear hk
                  obtain ⟨h49, hG⟩ := wq_chk_s hG
                  refine wq_iald (D := (dC, dI)) hx hb hK hP 9 0 rfl rfl h49 (Int32.toNatClampNeg v47) rfl dX7_isNearer_109 ?_
                  refine lv_iload_n hx hb dX7_isNearer_110 rfl (lv_at hl 5 rfl) ?_
                  refine lv_iconst (v := 1) hx hb dX7_isNearer_111 (by decide) ?_
                  refine lv_isub hx hb dX7_isNearer_112 ?_
                  refine lv_icmp_ne (tgt := 120) hx hb dX7_isNearer_113 (by decide) (fun c50 => ?_) (fun c50 => ?_)
                  · replace hG := wq_f c50 hG
                    refine lv_iconst (v := 0) hx hb dX7_isNearer_120 (by decide) ?_
                    refine lv_istore (lv' := [(8, .int 0), (7, .int 0), (6, .int v4), (0, .ref (qa 0)), (1, .int a1), (2, .int a2), (3, .int a3), (4, .int x4), (5, .int x5)]) hx hb dX7_isNearer_121 hl (by decide) rfl (fun ls hl => ?_)
                    refine lv_iload hx hb dX7_isNearer_123 (lv_at hl 7 rfl) ?_
                    refine lv_if_ne (tgt := 138) hx hb dX7_isNearer_125 (by decide) (fun c51 => ?_) (fun c51 => ?_)
                    · replace hG := wq_f c51 hG
                      refine lv_iconst (v := 1) hx hb dX7_isNearer_138 (by decide) ?_
                      refine lv_goto (tgt := 143) hx hb dX7_isNearer_139 (by decide) ?_
                      refine lv_istore (lv' := [(4, .int 1), (8, .int 0), (7, .int 0), (6, .int v4), (0, .ref (qa 0)), (1, .int a1), (2, .int a2), (3, .int a3), (5, .int x5)]) hx hb dX7_isNearer_143 hl (by decide) rfl (fun ls hl => ?_)
                      refine lv_iinc (v := (x5 + 1)) (lv' := [(5, .int (x5 + 1)), (4, .int 1), (8, .int 0), (7, .int 0), (6, .int v4), (0, .ref (qa 0)), (1, .int a1), (2, .int a2), (3, .int a3)]) hx hb dX7_isNearer_145 hl (k := 8) rfl rfl (by decide) rfl (fun ls hl => ?_)
                      refine lv_goto (tgt := 6) hx hb dX7_isNearer_148 (by decide) ?_
                      exact ih6 1 (x5 + 1) _ _ _ hG hP hS (lv_sub hl [5, 6, 7, 8, 1, 0] rfl)
                    · replace hG := wq_t c51 hG
                      refine lv_iload hx hb dX7_isNearer_128 (lv_at hl 1 rfl) ?_
                      refine lv_if_ne (tgt := 138) hx hb dX7_isNearer_130 (by decide) (fun c52 => absurd (by decide) c52) (fun c52 => ?_)
                      refine lv_iload hx hb dX7_isNearer_133 (lv_at hl 0 rfl) ?_
                      refine lv_if_eq (tgt := 142) hx hb dX7_isNearer_135 (by decide) (fun c53 => ?_) (fun c53 => absurd (by decide) c53)
                      refine lv_iconst (v := 0) hx hb dX7_isNearer_142 (by decide) ?_
                      refine lv_istore (lv' := [(4, .int 0), (8, .int 0), (7, .int 0), (6, .int v4), (0, .ref (qa 0)), (1, .int a1), (2, .int a2), (3, .int a3), (5, .int x5)]) hx hb dX7_isNearer_143 hl (by decide) rfl (fun ls hl => ?_)
                      refine lv_iinc (v := (x5 + 1)) (lv' := [(5, .int (x5 + 1)), (4, .int 0), (8, .int 0), (7, .int 0), (6, .int v4), (0, .ref (qa 0)), (1, .int a1), (2, .int a2), (3, .int a3)]) hx hb dX7_isNearer_145 hl (k := 8) rfl rfl (by decide) rfl (fun ls hl => ?_)
                      refine lv_goto (tgt := 6) hx hb dX7_isNearer_148 (by decide) ?_
                      exact ih6 0 (x5 + 1) _ _ _ hG hP hS (lv_sub hl [5, 6, 7, 8, 1, 0] rfl)
                  · replace hG := wq_t c50 hG
                    refine lv_iconst (v := 1) hx hb dX7_isNearer_116 (by decide) ?_
                    refine lv_goto (tgt := 121) hx hb dX7_isNearer_117 (by decide) ?_
                    refine lv_istore (lv' := [(8, .int 1), (7, .int 0), (6, .int v4), (0, .ref (qa 0)), (1, .int a1), (2, .int a2), (3, .int a3), (4, .int x4), (5, .int x5)]) hx hb dX7_isNearer_121 hl (by decide) rfl (fun ls hl => ?_)
                    refine lv_iload hx hb dX7_isNearer_123 (lv_at hl 7 rfl) ?_
                    refine lv_if_ne (tgt := 138) hx hb dX7_isNearer_125 (by decide) (fun c54 => ?_) (fun c54 => ?_)
                    · replace hG := wq_f c54 hG
                      refine lv_iconst (v := 1) hx hb dX7_isNearer_138 (by decide) ?_
                      refine lv_goto (tgt := 143) hx hb dX7_isNearer_139 (by decide) ?_
                      refine lv_istore (lv' := [(4, .int 1), (8, .int 1), (7, .int 0), (6, .int v4), (0, .ref (qa 0)), (1, .int a1), (2, .int a2), (3, .int a3), (5, .int x5)]) hx hb dX7_isNearer_143 hl (by decide) rfl (fun ls hl => ?_)
                      refine lv_iinc (v := (x5 + 1)) (lv' := [(5, .int (x5 + 1)), (4, .int 1), (8, .int 1), (7, .int 0), (6, .int v4), (0, .ref (qa 0)), (1, .int a1), (2, .int a2), (3, .int a3)]) hx hb dX7_isNearer_145 hl (k := 8) rfl rfl (by decide) rfl (fun ls hl => ?_)
                      refine lv_goto (tgt := 6) hx hb dX7_isNearer_148 (by decide) ?_
                      exact ih6 1 (x5 + 1) _ _ _ hG hP hS (lv_sub hl [5, 6, 7, 8, 1, 0] rfl)
                    · replace hG := wq_t c54 hG
                      refine lv_iload hx hb dX7_isNearer_128 (lv_at hl 1 rfl) ?_
                      refine lv_if_ne (tgt := 138) hx hb dX7_isNearer_130 (by decide) (fun c55 => absurd (by decide) c55) (fun c55 => ?_)
                      refine lv_iload hx hb dX7_isNearer_133 (lv_at hl 0 rfl) ?_
                      refine lv_if_eq (tgt := 142) hx hb dX7_isNearer_135 (by decide) (fun c56 => absurd c56 (by decide)) (fun c56 => ?_)
                      refine lv_iconst (v := 1) hx hb dX7_isNearer_138 (by decide) ?_
                      refine lv_goto (tgt := 143) hx hb dX7_isNearer_139 (by decide) ?_
                      refine lv_istore (lv' := [(4, .int 1), (8, .int 1), (7, .int 0), (6, .int v4), (0, .ref (qa 0)), (1, .int a1), (2, .int a2), (3, .int a3), (5, .int x5)]) hx hb dX7_isNearer_143 hl (by decide) rfl (fun ls hl => ?_)
                      refine lv_iinc (v := (x5 + 1)) (lv' := [(5, .int (x5 + 1)), (4, .int 1), (8, .int 1), (7, .int 0), (6, .int v4), (0, .ref (qa 0)), (1, .int a1), (2, .int a2), (3, .int a3)]) hx hb dX7_isNearer_145 hl (k := 8) rfl rfl (by decide) rfl (fun ls hl => ?_)
                      refine lv_goto (tgt := 6) hx hb dX7_isNearer_148 (by decide) ?_
                      exact ih6 1 (x5 + 1) _ _ _ hG hP hS (lv_sub hl [5, 6, 7, 8, 1, 0] rfl)
            · replace hG := wq_t c34 hG
              refine lv_iconst (v := 1) hx hb dX7_isNearer_75 (by decide) ?_
              refine lv_goto (tgt := 80) hx hb dX7_isNearer_76 (by decide) ?_
              refine lv_istore (lv' := [(7, .int 1), (6, .int v4), (0, .ref (qa 0)), (1, .int a1), (2, .int a2), (3, .int a3), (4, .int x4), (5, .int x5)]) hx hb dX7_isNearer_80 hl (by decide) rfl (fun ls hl => ?_)
              refine lv_iload_n hx hb dX7_isNearer_82 rfl (lv_at hl 5 rfl) ?_
              refine lv_iconst (v := 1) hx hb dX7_isNearer_83 (by decide) ?_
              refine lv_icmp_le (tgt := 120) hx hb dX7_isNearer_84 (by decide) (fun c57 => ?_) (fun c57 => ?_)
              · replace hG := wq_t c57 hG
                refine lv_iconst (v := 0) hx hb dX7_isNearer_120 (by decide) ?_
                refine lv_istore (lv' := [(8, .int 0), (7, .int 1), (6, .int v4), (0, .ref (qa 0)), (1, .int a1), (2, .int a2), (3, .int a3), (4, .int x4), (5, .int x5)]) hx hb dX7_isNearer_121 hl (by decide) rfl (fun ls hl => ?_)
                refine lv_iload hx hb dX7_isNearer_123 (lv_at hl 7 rfl) ?_
                refine lv_if_ne (tgt := 138) hx hb dX7_isNearer_125 (by decide) (fun c58 => ?_) (fun c58 => ?_)
                · replace hG := wq_f c58 hG
                  refine lv_iconst (v := 1) hx hb dX7_isNearer_138 (by decide) ?_
                  refine lv_goto (tgt := 143) hx hb dX7_isNearer_139 (by decide) ?_
                  refine lv_istore (lv' := [(4, .int 1), (8, .int 0), (7, .int 1), (6, .int v4), (0, .ref (qa 0)), (1, .int a1), (2, .int a2), (3, .int a3), (5, .int x5)]) hx hb dX7_isNearer_143 hl (by decide) rfl (fun ls hl => ?_)
                  refine lv_iinc (v := (x5 + 1)) (lv' := [(5, .int (x5 + 1)), (4, .int 1), (8, .int 0), (7, .int 1), (6, .int v4), (0, .ref (qa 0)), (1, .int a1), (2, .int a2), (3, .int a3)]) hx hb dX7_isNearer_145 hl (k := 8) rfl rfl (by decide) rfl (fun ls hl => ?_)
                  refine lv_goto (tgt := 6) hx hb dX7_isNearer_148 (by decide) ?_
                  exact ih6 1 (x5 + 1) _ _ _ hG hP hS (lv_sub hl [5, 6, 7, 8, 1, 0] rfl)
                · replace hG := wq_t c58 hG
                  refine lv_iload hx hb dX7_isNearer_128 (lv_at hl 1 rfl) ?_
                  refine lv_if_ne (tgt := 138) hx hb dX7_isNearer_130 (by decide) (fun c59 => ?_) (fun c59 => absurd c59 (by decide))
                  refine lv_iconst (v := 1) hx hb dX7_isNearer_138 (by decide) ?_
                  refine lv_goto (tgt := 143) hx hb dX7_isNearer_139 (by decide) ?_
                  refine lv_istore (lv' := [(4, .int 1), (8, .int 0), (7, .int 1), (6, .int v4), (0, .ref (qa 0)), (1, .int a1), (2, .int a2), (3, .int a3), (5, .int x5)]) hx hb dX7_isNearer_143 hl (by decide) rfl (fun ls hl => ?_)
                  refine lv_iinc (v := (x5 + 1)) (lv' := [(5, .int (x5 + 1)), (4, .int 1), (8, .int 0), (7, .int 1), (6, .int v4), (0, .ref (qa 0)), (1, .int a1), (2, .int a2), (3, .int a3)]) hx hb dX7_isNearer_145 hl (k := 8) rfl rfl (by decide) rfl (fun ls hl => ?_)
                  refine lv_goto (tgt := 6) hx hb dX7_isNearer_148 (by decide) ?_
                  exact ih6 1 (x5 + 1) _ _ _ hG hP hS (lv_sub hl [5, 6, 7, 8, 1, 0] rfl)
              · replace hG := wq_f c57 hG
                refine lv_aload_n hx hb dX7_isNearer_87 rfl (lv_at hl 2 rfl) ?_
                refine lv_iload hx hb dX7_isNearer_88 (lv_at hl 7 rfl) ?_
                refine lv_iload_n hx hb dX7_isNearer_90 rfl (lv_at hl 3 rfl) ?_
                refine lv_iload_n hx hb dX7_isNearer_91 rfl (lv_at hl 4 rfl) ?_
                obtain ⟨v61, g60, hG⟩ := wq_b1_s hG
                refine wq_ci (v := v61) (B := wq_tr) (va_runV (As := [.int x5, .int a1, .int a2]) (rest := []) ⟨hx, hb, hml, hown, hts⟩ (C_X7_wildFrom l dC dI cI cJ cZ qa H.size m_trace m_text m_typed m_told m_draft m_s m_past m_known m_images m_kept m_notes m_noted m_at m_sort m_start m_value m_steps m_rows m_held x5 a1 a2 v61 g60) (cwV 3 hts gX7_isNearer_X7_wildFrom rfl rfl rfl hdV_X7_wildFrom ⟨Nat.le_of_ble_eq_true rfl, Nat.le_of_ble_eq_true rfl⟩) (wq_ppV hK hP hE hS hA (ci := 7) (q0 := 0) rfl rfl) rfl rfl hl.1 rfl (lv_room (Nat.le_of_ble_eq_true rfl)) dX7_isNearer_92 ⟨Nat.zero_le _, Nat.zero_le _⟩) hS hA (fun H locs b62 hk hS => ?_)
                replace hP := wq_kp hP hk
                clear hk
                refine lv_bipush (v := 96) hx hb dX7_isNearer_95 (by decide) ?_
                refine lv_icmp_gt (tgt := 120) hx hb dX7_isNearer_97 (by decide) (fun c63 => ?_) (fun c63 => ?_)
                · replace hG := wq_t c63 hG
                  refine lv_iconst (v := 0) hx hb dX7_isNearer_120 (by decide) ?_
                  refine lv_istore (lv' := [(8, .int 0), (7, .int 1), (6, .int v4), (0, .ref (qa 0)), (1, .int a1), (2, .int a2), (3, .int a3), (4, .int x4), (5, .int x5)]) hx hb dX7_isNearer_121 hl (by decide) rfl (fun ls hl => ?_)
                  refine lv_iload hx hb dX7_isNearer_123 (lv_at hl 7 rfl) ?_
                  refine lv_if_ne (tgt := 138) hx hb dX7_isNearer_125 (by decide) (fun c64 => ?_) (fun c64 => ?_)
                  · replace hG := wq_f c64 hG
                    refine lv_iconst (v := 1) hx hb dX7_isNearer_138 (by decide) ?_
                    refine lv_goto (tgt := 143) hx hb dX7_isNearer_139 (by decide) ?_
                    refine lv_istore (lv' := [(4, .int 1), (8, .int 0), (7, .int 1), (6, .int v4), (0, .ref (qa 0)), (1, .int a1), (2, .int a2), (3, .int a3), (5, .int x5)]) hx hb dX7_isNearer_143 hl (by decide) rfl (fun ls hl => ?_)
                    refine lv_iinc (v := (x5 + 1)) (lv' := [(5, .int (x5 + 1)), (4, .int 1), (8, .int 0), (7, .int 1), (6, .int v4), (0, .ref (qa 0)), (1, .int a1), (2, .int a2), (3, .int a3)]) hx hb dX7_isNearer_145 hl (k := 8) rfl rfl (by decide) rfl (fun ls hl => ?_)
                    refine lv_goto (tgt := 6) hx hb dX7_isNearer_148 (by decide) ?_
                    exact ih6 1 (x5 + 1) _ _ _ hG hP hS (lv_sub hl [5, 6, 7, 8, 1, 0] rfl)
                  · replace hG := wq_t c64 hG
                    refine lv_iload hx hb dX7_isNearer_128 (lv_at hl 1 rfl) ?_
                    refine lv_if_ne (tgt := 138) hx hb dX7_isNearer_130 (by decide) (fun c65 => ?_) (fun c65 => absurd c65 (by decide))
                    refine lv_iconst (v := 1) hx hb dX7_isNearer_138 (by decide) ?_
                    refine lv_goto (tgt := 143) hx hb dX7_isNearer_139 (by decide) ?_
                    refine lv_istore (lv' := [(4, .int 1), (8, .int 0), (7, .int 1), (6, .int v4), (0, .ref (qa 0)), (1, .int a1), (2, .int a2), (3, .int a3), (5, .int x5)]) hx hb dX7_isNearer_143 hl (by decide) rfl (fun ls hl => ?_)
                    refine lv_iinc (v := (x5 + 1)) (lv' := [(5, .int (x5 + 1)), (4, .int 1), (8, .int 0), (7, .int 1), (6, .int v4), (0, .ref (qa 0)), (1, .int a1), (2, .int a2), (3, .int a3)]) hx hb dX7_isNearer_145 hl (k := 8) rfl rfl (by decide) rfl (fun ls hl => ?_)
                    refine lv_goto (tgt := 6) hx hb dX7_isNearer_148 (by decide) ?_
                    exact ih6 1 (x5 + 1) _ _ _ hG hP hS (lv_sub hl [5, 6, 7, 8, 1, 0] rfl)
                · replace hG := wq_f c63 hG
                  refine lv_aload_n hx hb dX7_isNearer_100 rfl (lv_at hl 2 rfl) ?_
                  refine va_get (D := (dC, dI)) (ci := 7) (v := .ref (qa 9)) (C := RX7) (T := TX7) (N := 19) hx hb hts hinX7 hown hK hP 0 rfl rfl 16 (by decide) k2 (fun _ h9 => h9) rfl dX7_isNearer_101 ?_
                  refine lv_iload_n hx hb dX7_isNearer_104 rfl (lv_at hl 3 rfl) ?_
                  refine lv_iload_n hx hb dX7_isNearer_105 rfl (lv_at hl 4 rfl) ?_
                  obtain ⟨v67, g66, hG⟩ := wq_b1_s hG
                  refine wq_ci (v := v67) (B := wq_tr) (va_runS (As := [.int a1, .int a2]) (rest := [.ref (qa 9)]) ⟨hx, hb, hml, hown, hts⟩ (C_X7_wildly l dC dI cI cJ cZ qa H.size  a1 a2 v67 g66) (va_cwS 2 hts gX7_isNearer_X7_wildly rfl rfl rfl hdS_X7_wildly ⟨Nat.le_of_ble_eq_true rfl, Nat.le_of_ble_eq_true rfl⟩) (wq_ppS hK (hP.sub (ws' := []) [] rfl) hE hS hA) rfl rfl hl.1 rfl (lv_room (Nat.le_of_ble_eq_true rfl)) dX7_isNearer_106 ⟨Nat.zero_le _, Nat.zero_le _⟩) hS hA (fun H locs b68 hk hS => ?_)
                  replace hP := wq_kp hP hk
                  clear hk
                  obtain ⟨h69, hG⟩ := wq_chk_s hG
                  refine wq_iald (D := (dC, dI)) hx hb hK hP 9 0 rfl rfl h69 (Int32.toNatClampNeg v67) rfl dX7_isNearer_109 ?_
                  refine lv_iload_n hx hb dX7_isNearer_110 rfl (lv_at hl 5 rfl) ?_
                  refine lv_iconst (v := 1) hx hb dX7_isNearer_111 (by decide) ?_
                  refine lv_isub hx hb dX7_isNearer_112 ?_
                  refine lv_icmp_ne (tgt := 120) hx hb dX7_isNearer_113 (by decide) (fun c70 => ?_) (fun c70 => ?_)
                  · replace hG := wq_f c70 hG
                    refine lv_iconst (v := 0) hx hb dX7_isNearer_120 (by decide) ?_
                    refine lv_istore (lv' := [(8, .int 0), (7, .int 1), (6, .int v4), (0, .ref (qa 0)), (1, .int a1), (2, .int a2), (3, .int a3), (4, .int x4), (5, .int x5)]) hx hb dX7_isNearer_121 hl (by decide) rfl (fun ls hl => ?_)
                    refine lv_iload hx hb dX7_isNearer_123 (lv_at hl 7 rfl) ?_
                    refine lv_if_ne (tgt := 138) hx hb dX7_isNearer_125 (by decide) (fun c71 => ?_) (fun c71 => ?_)
                    · replace hG := wq_f c71 hG
                      refine lv_iconst (v := 1) hx hb dX7_isNearer_138 (by decide) ?_
                      refine lv_goto (tgt := 143) hx hb dX7_isNearer_139 (by decide) ?_
                      refine lv_istore (lv' := [(4, .int 1), (8, .int 0), (7, .int 1), (6, .int v4), (0, .ref (qa 0)), (1, .int a1), (2, .int a2), (3, .int a3), (5, .int x5)]) hx hb dX7_isNearer_143 hl (by decide) rfl (fun ls hl => ?_)
                      refine lv_iinc (v := (x5 + 1)) (lv' := [(5, .int (x5 + 1)), (4, .int 1), (8, .int 0), (7, .int 1), (6, .int v4), (0, .ref (qa 0)), (1, .int a1), (2, .int a2), (3, .int a3)]) hx hb dX7_isNearer_145 hl (k := 8) rfl rfl (by decide) rfl (fun ls hl => ?_)
                      refine lv_goto (tgt := 6) hx hb dX7_isNearer_148 (by decide) ?_
                      exact ih6 1 (x5 + 1) _ _ _ hG hP hS (lv_sub hl [5, 6, 7, 8, 1, 0] rfl)
                    · replace hG := wq_t c71 hG
                      refine lv_iload hx hb dX7_isNearer_128 (lv_at hl 1 rfl) ?_
                      refine lv_if_ne (tgt := 138) hx hb dX7_isNearer_130 (by decide) (fun c72 => ?_) (fun c72 => absurd c72 (by decide))
                      refine lv_iconst (v := 1) hx hb dX7_isNearer_138 (by decide) ?_
                      refine lv_goto (tgt := 143) hx hb dX7_isNearer_139 (by decide) ?_
                      refine lv_istore (lv' := [(4, .int 1), (8, .int 0), (7, .int 1), (6, .int v4), (0, .ref (qa 0)), (1, .int a1), (2, .int a2), (3, .int a3), (5, .int x5)]) hx hb dX7_isNearer_143 hl (by decide) rfl (fun ls hl => ?_)
                      refine lv_iinc (v := (x5 + 1)) (lv' := [(5, .int (x5 + 1)), (4, .int 1), (8, .int 0), (7, .int 1), (6, .int v4), (0, .ref (qa 0)), (1, .int a1), (2, .int a2), (3, .int a3)]) hx hb dX7_isNearer_145 hl (k := 8) rfl rfl (by decide) rfl (fun ls hl => ?_)
                      refine lv_goto (tgt := 6) hx hb dX7_isNearer_148 (by decide) ?_
                      exact ih6 1 (x5 + 1) _ _ _ hG hP hS (lv_sub hl [5, 6, 7, 8, 1, 0] rfl)
                  · replace hG := wq_t c70 hG
                    refine lv_iconst (v := 1) hx hb dX7_isNearer_116 (by decide) ?_
                    refine lv_goto (tgt := 121) hx hb dX7_isNearer_117 (by decide) ?_
                    refine lv_istore (lv' := [(8, .int 1), (7, .int 1), (6, .int v4), (0, .ref (qa 0)), (1, .int a1), (2, .int a2), (3, .int a3), (4, .int x4), (5, .int x5)]) hx hb dX7_isNearer_121 hl (by decide) rfl (fun ls hl => ?_)
                    refine lv_iload hx hb dX7_isNearer_123 (lv_at hl 7 rfl) ?_
                    refine lv_if_ne (tgt := 138) hx hb dX7_isNearer_125 (by decide) (fun c73 => ?_) (fun c73 => ?_)
                    · replace hG := wq_f c73 hG
                      refine lv_iconst (v := 1) hx hb dX7_isNearer_138 (by decide) ?_
                      refine lv_goto (tgt := 143) hx hb dX7_isNearer_139 (by decide) ?_
                      refine lv_istore (lv' := [(4, .int 1), (8, .int 1), (7, .int 1), (6, .int v4), (0, .ref (qa 0)), (1, .int a1), (2, .int a2), (3, .int a3), (5, .int x5)]) hx hb dX7_isNearer_143 hl (by decide) rfl (fun ls hl => ?_)
                      refine lv_iinc (v := (x5 + 1)) (lv' := [(5, .int (x5 + 1)), (4, .int 1), (8, .int 1), (7, .int 1), (6, .int v4), (0, .ref (qa 0)), (1, .int a1), (2, .int a2), (3, .int a3)]) hx hb dX7_isNearer_145 hl (k := 8) rfl rfl (by decide) rfl (fun ls hl => ?_)
                      refine lv_goto (tgt := 6) hx hb dX7_isNearer_148 (by decide) ?_
                      exact ih6 1 (x5 + 1) _ _ _ hG hP hS (lv_sub hl [5, 6, 7, 8, 1, 0] rfl)
                    · replace hG := wq_t c73 hG
                      refine lv_iload hx hb dX7_isNearer_128 (lv_at hl 1 rfl) ?_
                      refine lv_if_ne (tgt := 138) hx hb dX7_isNearer_130 (by decide) (fun c74 => ?_) (fun c74 => absurd c74 (by decide))
                      refine lv_iconst (v := 1) hx hb dX7_isNearer_138 (by decide) ?_
                      refine lv_goto (tgt := 143) hx hb dX7_isNearer_139 (by decide) ?_
                      refine lv_istore (lv' := [(4, .int 1), (8, .int 1), (7, .int 1), (6, .int v4), (0, .ref (qa 0)), (1, .int a1), (2, .int a2), (3, .int a3), (5, .int x5)]) hx hb dX7_isNearer_143 hl (by decide) rfl (fun ls hl => ?_)
                      refine lv_iinc (v := (x5 + 1)) (lv' := [(5, .int (x5 + 1)), (4, .int 1), (8, .int 1), (7, .int 1), (6, .int v4), (0, .ref (qa 0)), (1, .int a1), (2, .int a2), (3, .int a3)]) hx hb dX7_isNearer_145 hl (k := 8) rfl rfl (by decide) rfl (fun ls hl => ?_)
                      refine lv_goto (tgt := 6) hx hb dX7_isNearer_148 (by decide) ?_
                      exact ih6 1 (x5 + 1) _ _ _ hG hP hS (lv_sub hl [5, 6, 7, 8, 1, 0] rfl)
        · replace hG := wq_t c6 hG
          refine lv_iload hx hb dX7_isNearer_32 (lv_at hl 0 rfl) ?_
          refine lv_aload_n hx hb dX7_isNearer_34 rfl (lv_at hl 1 rfl) ?_
          refine va_get (D := (dC, dI)) (ci := 7) (v := .ref (qa 2)) (C := RX7) (T := TX7) (N := 19) hx hb hts hinX7 hown hK hP 0 rfl rfl 3 (by decide) k1 (fun _ h9 => h9) rfl dX7_isNearer_35 ?_
          refine lv_iconst (v := 5) hx hb dX7_isNearer_38 (by decide) ?_
          refine wq_iald (D := (dC, dI)) hx hb hK hP 2 0 rfl rfl (wq_lit (by decide)) 5 rfl dX7_isNearer_39 ?_
          refine lv_icmp_lt (tgt := 47) hx hb dX7_isNearer_40 (by decide) (fun c75 => ?_) (fun c75 => ?_)
          · replace hG := wq_t c75 hG
            refine lv_iconst (v := 0) hx hb dX7_isNearer_47 (by decide) ?_
            refine lv_goto (tgt := 80) hx hb dX7_isNearer_48 (by decide) ?_
            refine lv_istore (lv' := [(7, .int 0), (6, .int v4), (0, .ref (qa 0)), (1, .int a1), (2, .int a2), (3, .int a3), (4, .int x4), (5, .int x5)]) hx hb dX7_isNearer_80 hl (by decide) rfl (fun ls hl => ?_)
            refine lv_iload_n hx hb dX7_isNearer_82 rfl (lv_at hl 5 rfl) ?_
            refine lv_iconst (v := 1) hx hb dX7_isNearer_83 (by decide) ?_
            refine lv_icmp_le (tgt := 120) hx hb dX7_isNearer_84 (by decide) (fun c76 => ?_) (fun c76 => ?_)
            · replace hG := wq_t c76 hG
              refine lv_iconst (v := 0) hx hb dX7_isNearer_120 (by decide) ?_
              refine lv_istore (lv' := [(8, .int 0), (7, .int 0), (6, .int v4), (0, .ref (qa 0)), (1, .int a1), (2, .int a2), (3, .int a3), (4, .int x4), (5, .int x5)]) hx hb dX7_isNearer_121 hl (by decide) rfl (fun ls hl => ?_)
              refine lv_iload hx hb dX7_isNearer_123 (lv_at hl 7 rfl) ?_
              refine lv_if_ne (tgt := 138) hx hb dX7_isNearer_125 (by decide) (fun c77 => ?_) (fun c77 => ?_)
              · replace hG := wq_f c77 hG
                refine lv_iconst (v := 1) hx hb dX7_isNearer_138 (by decide) ?_
                refine lv_goto (tgt := 143) hx hb dX7_isNearer_139 (by decide) ?_
                refine lv_istore (lv' := [(4, .int 1), (8, .int 0), (7, .int 0), (6, .int v4), (0, .ref (qa 0)), (1, .int a1), (2, .int a2), (3, .int a3), (5, .int x5)]) hx hb dX7_isNearer_143 hl (by decide) rfl (fun ls hl => ?_)
                refine lv_iinc (v := (x5 + 1)) (lv' := [(5, .int (x5 + 1)), (4, .int 1), (8, .int 0), (7, .int 0), (6, .int v4), (0, .ref (qa 0)), (1, .int a1), (2, .int a2), (3, .int a3)]) hx hb dX7_isNearer_145 hl (k := 8) rfl rfl (by decide) rfl (fun ls hl => ?_)
                refine lv_goto (tgt := 6) hx hb dX7_isNearer_148 (by decide) ?_
                exact ih6 1 (x5 + 1) _ _ _ hG hP hS (lv_sub hl [5, 6, 7, 8, 1, 0] rfl)
              · replace hG := wq_t c77 hG
                refine lv_iload hx hb dX7_isNearer_128 (lv_at hl 1 rfl) ?_
                refine lv_if_ne (tgt := 138) hx hb dX7_isNearer_130 (by decide) (fun c78 => absurd (by decide) c78) (fun c78 => ?_)
                refine lv_iload hx hb dX7_isNearer_133 (lv_at hl 0 rfl) ?_
                refine lv_if_eq (tgt := 142) hx hb dX7_isNearer_135 (by decide) (fun c79 => ?_) (fun c79 => absurd (by decide) c79)
                refine lv_iconst (v := 0) hx hb dX7_isNearer_142 (by decide) ?_
                refine lv_istore (lv' := [(4, .int 0), (8, .int 0), (7, .int 0), (6, .int v4), (0, .ref (qa 0)), (1, .int a1), (2, .int a2), (3, .int a3), (5, .int x5)]) hx hb dX7_isNearer_143 hl (by decide) rfl (fun ls hl => ?_)
                refine lv_iinc (v := (x5 + 1)) (lv' := [(5, .int (x5 + 1)), (4, .int 0), (8, .int 0), (7, .int 0), (6, .int v4), (0, .ref (qa 0)), (1, .int a1), (2, .int a2), (3, .int a3)]) hx hb dX7_isNearer_145 hl (k := 8) rfl rfl (by decide) rfl (fun ls hl => ?_)
                refine lv_goto (tgt := 6) hx hb dX7_isNearer_148 (by decide) ?_
                exact ih6 0 (x5 + 1) _ _ _ hG hP hS (lv_sub hl [5, 6, 7, 8, 1, 0] rfl)
            · replace hG := wq_f c76 hG
              refine lv_aload_n hx hb dX7_isNearer_87 rfl (lv_at hl 2 rfl) ?_
              refine lv_iload hx hb dX7_isNearer_88 (lv_at hl 7 rfl) ?_
              refine lv_iload_n hx hb dX7_isNearer_90 rfl (lv_at hl 3 rfl) ?_
              refine lv_iload_n hx hb dX7_isNearer_91 rfl (lv_at hl 4 rfl) ?_
              obtain ⟨v81, g80, hG⟩ := wq_b1_s hG
              refine wq_ci (v := v81) (B := wq_tr) (va_runV (As := [.int x5, .int a1, .int a2]) (rest := []) ⟨hx, hb, hml, hown, hts⟩ (C_X7_wildFrom l dC dI cI cJ cZ qa H.size m_trace m_text m_typed m_told m_draft m_s m_past m_known m_images m_kept m_notes m_noted m_at m_sort m_start m_value m_steps m_rows m_held x5 a1 a2 v81 g80) (cwV 3 hts gX7_isNearer_X7_wildFrom rfl rfl rfl hdV_X7_wildFrom ⟨Nat.le_of_ble_eq_true rfl, Nat.le_of_ble_eq_true rfl⟩) (wq_ppV hK hP hE hS hA (ci := 7) (q0 := 0) rfl rfl) rfl rfl hl.1 rfl (lv_room (Nat.le_of_ble_eq_true rfl)) dX7_isNearer_92 ⟨Nat.zero_le _, Nat.zero_le _⟩) hS hA (fun H locs b82 hk hS => ?_)
              replace hP := wq_kp hP hk
              clear hk
              refine lv_bipush (v := 96) hx hb dX7_isNearer_95 (by decide) ?_
              refine lv_icmp_gt (tgt := 120) hx hb dX7_isNearer_97 (by decide) (fun c83 => ?_) (fun c83 => ?_)
              · replace hG := wq_t c83 hG
                refine lv_iconst (v := 0) hx hb dX7_isNearer_120 (by decide) ?_
                refine lv_istore (lv' := [(8, .int 0), (7, .int 0), (6, .int v4), (0, .ref (qa 0)), (1, .int a1), (2, .int a2), (3, .int a3), (4, .int x4), (5, .int x5)]) hx hb dX7_isNearer_121 hl (by decide) rfl (fun ls hl => ?_)
                refine lv_iload hx hb dX7_isNearer_123 (lv_at hl 7 rfl) ?_
                refine lv_if_ne (tgt := 138) hx hb dX7_isNearer_125 (by decide) (fun c84 => ?_) (fun c84 => ?_)
                · replace hG := wq_f c84 hG
                  refine lv_iconst (v := 1) hx hb dX7_isNearer_138 (by decide) ?_
                  refine lv_goto (tgt := 143) hx hb dX7_isNearer_139 (by decide) ?_
                  refine lv_istore (lv' := [(4, .int 1), (8, .int 0), (7, .int 0), (6, .int v4), (0, .ref (qa 0)), (1, .int a1), (2, .int a2), (3, .int a3), (5, .int x5)]) hx hb dX7_isNearer_143 hl (by decide) rfl (fun ls hl => ?_)
                  refine lv_iinc (v := (x5 + 1)) (lv' := [(5, .int (x5 + 1)), (4, .int 1), (8, .int 0), (7, .int 0), (6, .int v4), (0, .ref (qa 0)), (1, .int a1), (2, .int a2), (3, .int a3)]) hx hb dX7_isNearer_145 hl (k := 8) rfl rfl (by decide) rfl (fun ls hl => ?_)
                  refine lv_goto (tgt := 6) hx hb dX7_isNearer_148 (by decide) ?_
                  exact ih6 1 (x5 + 1) _ _ _ hG hP hS (lv_sub hl [5, 6, 7, 8, 1, 0] rfl)
                · replace hG := wq_t c84 hG
                  refine lv_iload hx hb dX7_isNearer_128 (lv_at hl 1 rfl) ?_
                  refine lv_if_ne (tgt := 138) hx hb dX7_isNearer_130 (by decide) (fun c85 => absurd (by decide) c85) (fun c85 => ?_)
                  refine lv_iload hx hb dX7_isNearer_133 (lv_at hl 0 rfl) ?_
                  refine lv_if_eq (tgt := 142) hx hb dX7_isNearer_135 (by decide) (fun c86 => ?_) (fun c86 => absurd (by decide) c86)
                  refine lv_iconst (v := 0) hx hb dX7_isNearer_142 (by decide) ?_
                  refine lv_istore (lv' := [(4, .int 0), (8, .int 0), (7, .int 0), (6, .int v4), (0, .ref (qa 0)), (1, .int a1), (2, .int a2), (3, .int a3), (5, .int x5)]) hx hb dX7_isNearer_143 hl (by decide) rfl (fun ls hl => ?_)
                  refine lv_iinc (v := (x5 + 1)) (lv' := [(5, .int (x5 + 1)), (4, .int 0), (8, .int 0), (7, .int 0), (6, .int v4), (0, .ref (qa 0)), (1, .int a1), (2, .int a2), (3, .int a3)]) hx hb dX7_isNearer_145 hl (k := 8) rfl rfl (by decide) rfl (fun ls hl => ?_)
                  refine lv_goto (tgt := 6) hx hb dX7_isNearer_148 (by decide) ?_
                  exact ih6 0 (x5 + 1) _ _ _ hG hP hS (lv_sub hl [5, 6, 7, 8, 1, 0] rfl)
              · replace hG := wq_f c83 hG
                refine lv_aload_n hx hb dX7_isNearer_100 rfl (lv_at hl 2 rfl) ?_
                refine va_get (D := (dC, dI)) (ci := 7) (v := .ref (qa 9)) (C := RX7) (T := TX7) (N := 19) hx hb hts hinX7 hown hK hP 0 rfl rfl 16 (by decide) k2 (fun _ h9 => h9) rfl dX7_isNearer_101 ?_
                refine lv_iload_n hx hb dX7_isNearer_104 rfl (lv_at hl 3 rfl) ?_
                refine lv_iload_n hx hb dX7_isNearer_105 rfl (lv_at hl 4 rfl) ?_
                obtain ⟨v88, g87, hG⟩ := wq_b1_s hG
                refine wq_ci (v := v88) (B := wq_tr) (va_runS (As := [.int a1, .int a2]) (rest := [.ref (qa 9)]) ⟨hx, hb, hml, hown, hts⟩ (C_X7_wildly l dC dI cI cJ cZ qa H.size  a1 a2 v88 g87) (va_cwS 2 hts gX7_isNearer_X7_wildly rfl rfl rfl hdS_X7_wildly ⟨Nat.le_of_ble_eq_true rfl, Nat.le_of_ble_eq_true rfl⟩) (wq_ppS hK (hP.sub (ws' := []) [] rfl) hE hS hA) rfl rfl hl.1 rfl (lv_room (Nat.le_of_ble_eq_true rfl)) dX7_isNearer_106 ⟨Nat.zero_le _, Nat.zero_le _⟩) hS hA (fun H locs b89 hk hS => ?_)
                replace hP := wq_kp hP hk
                clear hk
                obtain ⟨h90, hG⟩ := wq_chk_s hG
                refine wq_iald (D := (dC, dI)) hx hb hK hP 9 0 rfl rfl h90 (Int32.toNatClampNeg v88) rfl dX7_isNearer_109 ?_
                refine lv_iload_n hx hb dX7_isNearer_110 rfl (lv_at hl 5 rfl) ?_
                refine lv_iconst (v := 1) hx hb dX7_isNearer_111 (by decide) ?_
                refine lv_isub hx hb dX7_isNearer_112 ?_
                refine lv_icmp_ne (tgt := 120) hx hb dX7_isNearer_113 (by decide) (fun c91 => ?_) (fun c91 => ?_)
                · replace hG := wq_f c91 hG
                  refine lv_iconst (v := 0) hx hb dX7_isNearer_120 (by decide) ?_
                  refine lv_istore (lv' := [(8, .int 0), (7, .int 0), (6, .int v4), (0, .ref (qa 0)), (1, .int a1), (2, .int a2), (3, .int a3), (4, .int x4), (5, .int x5)]) hx hb dX7_isNearer_121 hl (by decide) rfl (fun ls hl => ?_)
                  refine lv_iload hx hb dX7_isNearer_123 (lv_at hl 7 rfl) ?_
                  refine lv_if_ne (tgt := 138) hx hb dX7_isNearer_125 (by decide) (fun c92 => ?_) (fun c92 => ?_)
                  · replace hG := wq_f c92 hG
                    refine lv_iconst (v := 1) hx hb dX7_isNearer_138 (by decide) ?_
                    refine lv_goto (tgt := 143) hx hb dX7_isNearer_139 (by decide) ?_
                    refine lv_istore (lv' := [(4, .int 1), (8, .int 0), (7, .int 0), (6, .int v4), (0, .ref (qa 0)), (1, .int a1), (2, .int a2), (3, .int a3), (5, .int x5)]) hx hb dX7_isNearer_143 hl (by decide) rfl (fun ls hl => ?_)
                    refine lv_iinc (v := (x5 + 1)) (lv' := [(5, .int (x5 + 1)), (4, .int 1), (8, .int 0), (7, .int 0), (6, .int v4), (0, .ref (qa 0)), (1, .int a1), (2, .int a2), (3, .int a3)]) hx hb dX7_isNearer_145 hl (k := 8) rfl rfl (by decide) rfl (fun ls hl => ?_)
                    refine lv_goto (tgt := 6) hx hb dX7_isNearer_148 (by decide) ?_
                    exact ih6 1 (x5 + 1) _ _ _ hG hP hS (lv_sub hl [5, 6, 7, 8, 1, 0] rfl)
                  · replace hG := wq_t c92 hG
                    refine lv_iload hx hb dX7_isNearer_128 (lv_at hl 1 rfl) ?_
                    refine lv_if_ne (tgt := 138) hx hb dX7_isNearer_130 (by decide) (fun c93 => absurd (by decide) c93) (fun c93 => ?_)
                    refine lv_iload hx hb dX7_isNearer_133 (lv_at hl 0 rfl) ?_
                    refine lv_if_eq (tgt := 142) hx hb dX7_isNearer_135 (by decide) (fun c94 => ?_) (fun c94 => absurd (by decide) c94)
                    refine lv_iconst (v := 0) hx hb dX7_isNearer_142 (by decide) ?_
                    refine lv_istore (lv' := [(4, .int 0), (8, .int 0), (7, .int 0), (6, .int v4), (0, .ref (qa 0)), (1, .int a1), (2, .int a2), (3, .int a3), (5, .int x5)]) hx hb dX7_isNearer_143 hl (by decide) rfl (fun ls hl => ?_)
                    refine lv_iinc (v := (x5 + 1)) (lv' := [(5, .int (x5 + 1)), (4, .int 0), (8, .int 0), (7, .int 0), (6, .int v4), (0, .ref (qa 0)), (1, .int a1), (2, .int a2), (3, .int a3)]) hx hb dX7_isNearer_145 hl (k := 8) rfl rfl (by decide) rfl (fun ls hl => ?_)
                    refine lv_goto (tgt := 6) hx hb dX7_isNearer_148 (by decide) ?_
                    exact ih6 0 (x5 + 1) _ _ _ hG hP hS (lv_sub hl [5, 6, 7, 8, 1, 0] rfl)
                · replace hG := wq_t c91 hG
                  refine lv_iconst (v := 1) hx hb dX7_isNearer_116 (by decide) ?_
                  refine lv_goto (tgt := 121) hx hb dX7_isNearer_117 (by decide) ?_
                  refine lv_istore (lv' := [(8, .int 1), (7, .int 0), (6, .int v4), (0, .ref (qa 0)), (1, .int a1), (2, .int a2), (3, .int a3), (4, .int x4), (5, .int x5)]) hx hb dX7_isNearer_121 hl (by decide) rfl (fun ls hl => ?_)
                  refine lv_iload hx hb dX7_isNearer_123 (lv_at hl 7 rfl) ?_
                  refine lv_if_ne (tgt := 138) hx hb dX7_isNearer_125 (by decide) (fun c95 => ?_) (fun c95 => ?_)
                  · replace hG := wq_f c95 hG
                    refine lv_iconst (v := 1) hx hb dX7_isNearer_138 (by decide) ?_
                    refine lv_goto (tgt := 143) hx hb dX7_isNearer_139 (by decide) ?_
                    refine lv_istore (lv' := [(4, .int 1), (8, .int 1), (7, .int 0), (6, .int v4), (0, .ref (qa 0)), (1, .int a1), (2, .int a2), (3, .int a3), (5, .int x5)]) hx hb dX7_isNearer_143 hl (by decide) rfl (fun ls hl => ?_)
                    refine lv_iinc (v := (x5 + 1)) (lv' := [(5, .int (x5 + 1)), (4, .int 1), (8, .int 1), (7, .int 0), (6, .int v4), (0, .ref (qa 0)), (1, .int a1), (2, .int a2), (3, .int a3)]) hx hb dX7_isNearer_145 hl (k := 8) rfl rfl (by decide) rfl (fun ls hl => ?_)
                    refine lv_goto (tgt := 6) hx hb dX7_isNearer_148 (by decide) ?_
                    exact ih6 1 (x5 + 1) _ _ _ hG hP hS (lv_sub hl [5, 6, 7, 8, 1, 0] rfl)
                  · replace hG := wq_t c95 hG
                    refine lv_iload hx hb dX7_isNearer_128 (lv_at hl 1 rfl) ?_
                    refine lv_if_ne (tgt := 138) hx hb dX7_isNearer_130 (by decide) (fun c96 => absurd (by decide) c96) (fun c96 => ?_)
                    refine lv_iload hx hb dX7_isNearer_133 (lv_at hl 0 rfl) ?_
                    refine lv_if_eq (tgt := 142) hx hb dX7_isNearer_135 (by decide) (fun c97 => absurd c97 (by decide)) (fun c97 => ?_)
                    refine lv_iconst (v := 1) hx hb dX7_isNearer_138 (by decide) ?_
                    refine lv_goto (tgt := 143) hx hb dX7_isNearer_139 (by decide) ?_
                    refine lv_istore (lv' := [(4, .int 1), (8, .int 1), (7, .int 0), (6, .int v4), (0, .ref (qa 0)), (1, .int a1), (2, .int a2), (3, .int a3), (5, .int x5)]) hx hb dX7_isNearer_143 hl (by decide) rfl (fun ls hl => ?_)
                    refine lv_iinc (v := (x5 + 1)) (lv' := [(5, .int (x5 + 1)), (4, .int 1), (8, .int 1), (7, .int 0), (6, .int v4), (0, .ref (qa 0)), (1, .int a1), (2, .int a2), (3, .int a3)]) hx hb dX7_isNearer_145 hl (k := 8) rfl rfl (by decide) rfl (fun ls hl => ?_)
                    refine lv_goto (tgt := 6) hx hb dX7_isNearer_148 (by decide) ?_
                    exact ih6 1 (x5 + 1) _ _ _ hG hP hS (lv_sub hl [5, 6, 7, 8, 1, 0] rfl)
          · replace hG := wq_f c75 hG
            refine lv_iconst (v := 1) hx hb dX7_isNearer_43 (by decide) ?_
            refine lv_goto (tgt := 80) hx hb dX7_isNearer_44 (by decide) ?_
            refine lv_istore (lv' := [(7, .int 1), (6, .int v4), (0, .ref (qa 0)), (1, .int a1), (2, .int a2), (3, .int a3), (4, .int x4), (5, .int x5)]) hx hb dX7_isNearer_80 hl (by decide) rfl (fun ls hl => ?_)
            refine lv_iload_n hx hb dX7_isNearer_82 rfl (lv_at hl 5 rfl) ?_
            refine lv_iconst (v := 1) hx hb dX7_isNearer_83 (by decide) ?_
            refine lv_icmp_le (tgt := 120) hx hb dX7_isNearer_84 (by decide) (fun c98 => ?_) (fun c98 => ?_)
            · replace hG := wq_t c98 hG
              refine lv_iconst (v := 0) hx hb dX7_isNearer_120 (by decide) ?_
              refine lv_istore (lv' := [(8, .int 0), (7, .int 1), (6, .int v4), (0, .ref (qa 0)), (1, .int a1), (2, .int a2), (3, .int a3), (4, .int x4), (5, .int x5)]) hx hb dX7_isNearer_121 hl (by decide) rfl (fun ls hl => ?_)
              refine lv_iload hx hb dX7_isNearer_123 (lv_at hl 7 rfl) ?_
              refine lv_if_ne (tgt := 138) hx hb dX7_isNearer_125 (by decide) (fun c99 => ?_) (fun c99 => ?_)
              · replace hG := wq_f c99 hG
                refine lv_iconst (v := 1) hx hb dX7_isNearer_138 (by decide) ?_
                refine lv_goto (tgt := 143) hx hb dX7_isNearer_139 (by decide) ?_
                refine lv_istore (lv' := [(4, .int 1), (8, .int 0), (7, .int 1), (6, .int v4), (0, .ref (qa 0)), (1, .int a1), (2, .int a2), (3, .int a3), (5, .int x5)]) hx hb dX7_isNearer_143 hl (by decide) rfl (fun ls hl => ?_)
                refine lv_iinc (v := (x5 + 1)) (lv' := [(5, .int (x5 + 1)), (4, .int 1), (8, .int 0), (7, .int 1), (6, .int v4), (0, .ref (qa 0)), (1, .int a1), (2, .int a2), (3, .int a3)]) hx hb dX7_isNearer_145 hl (k := 8) rfl rfl (by decide) rfl (fun ls hl => ?_)
                refine lv_goto (tgt := 6) hx hb dX7_isNearer_148 (by decide) ?_
                exact ih6 1 (x5 + 1) _ _ _ hG hP hS (lv_sub hl [5, 6, 7, 8, 1, 0] rfl)
              · replace hG := wq_t c99 hG
                refine lv_iload hx hb dX7_isNearer_128 (lv_at hl 1 rfl) ?_
                refine lv_if_ne (tgt := 138) hx hb dX7_isNearer_130 (by decide) (fun c100 => ?_) (fun c100 => absurd c100 (by decide))
                refine lv_iconst (v := 1) hx hb dX7_isNearer_138 (by decide) ?_
                refine lv_goto (tgt := 143) hx hb dX7_isNearer_139 (by decide) ?_
                refine lv_istore (lv' := [(4, .int 1), (8, .int 0), (7, .int 1), (6, .int v4), (0, .ref (qa 0)), (1, .int a1), (2, .int a2), (3, .int a3), (5, .int x5)]) hx hb dX7_isNearer_143 hl (by decide) rfl (fun ls hl => ?_)
                refine lv_iinc (v := (x5 + 1)) (lv' := [(5, .int (x5 + 1)), (4, .int 1), (8, .int 0), (7, .int 1), (6, .int v4), (0, .ref (qa 0)), (1, .int a1), (2, .int a2), (3, .int a3)]) hx hb dX7_isNearer_145 hl (k := 8) rfl rfl (by decide) rfl (fun ls hl => ?_)
                refine lv_goto (tgt := 6) hx hb dX7_isNearer_148 (by decide) ?_
                exact ih6 1 (x5 + 1) _ _ _ hG hP hS (lv_sub hl [5, 6, 7, 8, 1, 0] rfl)
            · replace hG := wq_f c98 hG
              refine lv_aload_n hx hb dX7_isNearer_87 rfl (lv_at hl 2 rfl) ?_
              refine lv_iload hx hb dX7_isNearer_88 (lv_at hl 7 rfl) ?_
              refine lv_iload_n hx hb dX7_isNearer_90 rfl (lv_at hl 3 rfl) ?_
              refine lv_iload_n hx hb dX7_isNearer_91 rfl (lv_at hl 4 rfl) ?_
              obtain ⟨v102, g101, hG⟩ := wq_b1_s hG
              refine wq_ci (v := v102) (B := wq_tr) (va_runV (As := [.int x5, .int a1, .int a2]) (rest := []) ⟨hx, hb, hml, hown, hts⟩ (C_X7_wildFrom l dC dI cI cJ cZ qa H.size m_trace m_text m_typed m_told m_draft m_s m_past m_known m_images m_kept m_notes m_noted m_at m_sort m_start m_value m_steps m_rows m_held x5 a1 a2 v102 g101) (cwV 3 hts gX7_isNearer_X7_wildFrom rfl rfl rfl hdV_X7_wildFrom ⟨Nat.le_of_ble_eq_true rfl, Nat.le_of_ble_eq_true rfl⟩) (wq_ppV hK hP hE hS hA (ci := 7) (q0 := 0) rfl rfl) rfl rfl hl.1 rfl (lv_room (Nat.le_of_ble_eq_true rfl)) dX7_isNearer_92 ⟨Nat.zero_le _, Nat.zero_le _⟩) hS hA (fun H locs b103 hk hS => ?_)
              replace hP := wq_kp hP hk
              clear hk
              refine lv_bipush (v := 96) hx hb dX7_isNearer_95 (by decide) ?_
              refine lv_icmp_gt (tgt := 120) hx hb dX7_isNearer_97 (by decide) (fun c104 => ?_) (fun c104 => ?_)
              · replace hG := wq_t c104 hG
                refine lv_iconst (v := 0) hx hb dX7_isNearer_120 (by decide) ?_
                refine lv_istore (lv' := [(8, .int 0), (7, .int 1), (6, .int v4), (0, .ref (qa 0)), (1, .int a1), (2, .int a2), (3, .int a3), (4, .int x4), (5, .int x5)]) hx hb dX7_isNearer_121 hl (by decide) rfl (fun ls hl => ?_)
                refine lv_iload hx hb dX7_isNearer_123 (lv_at hl 7 rfl) ?_
                refine lv_if_ne (tgt := 138) hx hb dX7_isNearer_125 (by decide) (fun c105 => ?_) (fun c105 => ?_)
                · replace hG := wq_f c105 hG
                  refine lv_iconst (v := 1) hx hb dX7_isNearer_138 (by decide) ?_
                  refine lv_goto (tgt := 143) hx hb dX7_isNearer_139 (by decide) ?_
                  refine lv_istore (lv' := [(4, .int 1), (8, .int 0), (7, .int 1), (6, .int v4), (0, .ref (qa 0)), (1, .int a1), (2, .int a2), (3, .int a3), (5, .int x5)]) hx hb dX7_isNearer_143 hl (by decide) rfl (fun ls hl => ?_)
                  refine lv_iinc (v := (x5 + 1)) (lv' := [(5, .int (x5 + 1)), (4, .int 1), (8, .int 0), (7, .int 1), (6, .int v4), (0, .ref (qa 0)), (1, .int a1), (2, .int a2), (3, .int a3)]) hx hb dX7_isNearer_145 hl (k := 8) rfl rfl (by decide) rfl (fun ls hl => ?_)
                  refine lv_goto (tgt := 6) hx hb dX7_isNearer_148 (by decide) ?_
                  exact ih6 1 (x5 + 1) _ _ _ hG hP hS (lv_sub hl [5, 6, 7, 8, 1, 0] rfl)
                · replace hG := wq_t c105 hG
                  refine lv_iload hx hb dX7_isNearer_128 (lv_at hl 1 rfl) ?_
                  refine lv_if_ne (tgt := 138) hx hb dX7_isNearer_130 (by decide) (fun c106 => ?_) (fun c106 => absurd c106 (by decide))
                  refine lv_iconst (v := 1) hx hb dX7_isNearer_138 (by decide) ?_
                  refine lv_goto (tgt := 143) hx hb dX7_isNearer_139 (by decide) ?_
                  refine lv_istore (lv' := [(4, .int 1), (8, .int 0), (7, .int 1), (6, .int v4), (0, .ref (qa 0)), (1, .int a1), (2, .int a2), (3, .int a3), (5, .int x5)]) hx hb dX7_isNearer_143 hl (by decide) rfl (fun ls hl => ?_)
                  refine lv_iinc (v := (x5 + 1)) (lv' := [(5, .int (x5 + 1)), (4, .int 1), (8, .int 0), (7, .int 1), (6, .int v4), (0, .ref (qa 0)), (1, .int a1), (2, .int a2), (3, .int a3)]) hx hb dX7_isNearer_145 hl (k := 8) rfl rfl (by decide) rfl (fun ls hl => ?_)
                  refine lv_goto (tgt := 6) hx hb dX7_isNearer_148 (by decide) ?_
                  exact ih6 1 (x5 + 1) _ _ _ hG hP hS (lv_sub hl [5, 6, 7, 8, 1, 0] rfl)
              · replace hG := wq_f c104 hG
                refine lv_aload_n hx hb dX7_isNearer_100 rfl (lv_at hl 2 rfl) ?_
                refine va_get (D := (dC, dI)) (ci := 7) (v := .ref (qa 9)) (C := RX7) (T := TX7) (N := 19) hx hb hts hinX7 hown hK hP 0 rfl rfl 16 (by decide) k2 (fun _ h9 => h9) rfl dX7_isNearer_101 ?_
                refine lv_iload_n hx hb dX7_isNearer_104 rfl (lv_at hl 3 rfl) ?_
                refine lv_iload_n hx hb dX7_isNearer_105 rfl (lv_at hl 4 rfl) ?_
                obtain ⟨v108, g107, hG⟩ := wq_b1_s hG
                refine wq_ci (v := v108) (B := wq_tr) (va_runS (As := [.int a1, .int a2]) (rest := [.ref (qa 9)]) ⟨hx, hb, hml, hown, hts⟩ (C_X7_wildly l dC dI cI cJ cZ qa H.size  a1 a2 v108 g107) (va_cwS 2 hts gX7_isNearer_X7_wildly rfl rfl rfl hdS_X7_wildly ⟨Nat.le_of_ble_eq_true rfl, Nat.le_of_ble_eq_true rfl⟩) (wq_ppS hK (hP.sub (ws' := []) [] rfl) hE hS hA) rfl rfl hl.1 rfl (lv_room (Nat.le_of_ble_eq_true rfl)) dX7_isNearer_106 ⟨Nat.zero_le _, Nat.zero_le _⟩) hS hA (fun H locs b109 hk hS => ?_)
                replace hP := wq_kp hP hk
                clear hk
                obtain ⟨h110, hG⟩ := wq_chk_s hG
                refine wq_iald (D := (dC, dI)) hx hb hK hP 9 0 rfl rfl h110 (Int32.toNatClampNeg v108) rfl dX7_isNearer_109 ?_
                refine lv_iload_n hx hb dX7_isNearer_110 rfl (lv_at hl 5 rfl) ?_
                refine lv_iconst (v := 1) hx hb dX7_isNearer_111 (by decide) ?_
                refine lv_isub hx hb dX7_isNearer_112 ?_
                refine lv_icmp_ne (tgt := 120) hx hb dX7_isNearer_113 (by decide) (fun c111 => ?_) (fun c111 => ?_)
                · replace hG := wq_f c111 hG
                  refine lv_iconst (v := 0) hx hb dX7_isNearer_120 (by decide) ?_
                  refine lv_istore (lv' := [(8, .int 0), (7, .int 1), (6, .int v4), (0, .ref (qa 0)), (1, .int a1), (2, .int a2), (3, .int a3), (4, .int x4), (5, .int x5)]) hx hb dX7_isNearer_121 hl (by decide) rfl (fun ls hl => ?_)
                  refine lv_iload hx hb dX7_isNearer_123 (lv_at hl 7 rfl) ?_
                  refine lv_if_ne (tgt := 138) hx hb dX7_isNearer_125 (by decide) (fun c112 => ?_) (fun c112 => ?_)
                  · replace hG := wq_f c112 hG
                    refine lv_iconst (v := 1) hx hb dX7_isNearer_138 (by decide) ?_
                    refine lv_goto (tgt := 143) hx hb dX7_isNearer_139 (by decide) ?_
                    refine lv_istore (lv' := [(4, .int 1), (8, .int 0), (7, .int 1), (6, .int v4), (0, .ref (qa 0)), (1, .int a1), (2, .int a2), (3, .int a3), (5, .int x5)]) hx hb dX7_isNearer_143 hl (by decide) rfl (fun ls hl => ?_)
                    refine lv_iinc (v := (x5 + 1)) (lv' := [(5, .int (x5 + 1)), (4, .int 1), (8, .int 0), (7, .int 1), (6, .int v4), (0, .ref (qa 0)), (1, .int a1), (2, .int a2), (3, .int a3)]) hx hb dX7_isNearer_145 hl (k := 8) rfl rfl (by decide) rfl (fun ls hl => ?_)
                    refine lv_goto (tgt := 6) hx hb dX7_isNearer_148 (by decide) ?_
                    exact ih6 1 (x5 + 1) _ _ _ hG hP hS (lv_sub hl [5, 6, 7, 8, 1, 0] rfl)
                  · replace hG := wq_t c112 hG
                    refine lv_iload hx hb dX7_isNearer_128 (lv_at hl 1 rfl) ?_
                    refine lv_if_ne (tgt := 138) hx hb dX7_isNearer_130 (by decide) (fun c113 => ?_) (fun c113 => absurd c113 (by decide))
                    refine lv_iconst (v := 1) hx hb dX7_isNearer_138 (by decide) ?_
                    refine lv_goto (tgt := 143) hx hb dX7_isNearer_139 (by decide) ?_
                    refine lv_istore (lv' := [(4, .int 1), (8, .int 0), (7, .int 1), (6, .int v4), (0, .ref (qa 0)), (1, .int a1), (2, .int a2), (3, .int a3), (5, .int x5)]) hx hb dX7_isNearer_143 hl (by decide) rfl (fun ls hl => ?_)
                    refine lv_iinc (v := (x5 + 1)) (lv' := [(5, .int (x5 + 1)), (4, .int 1), (8, .int 0), (7, .int 1), (6, .int v4), (0, .ref (qa 0)), (1, .int a1), (2, .int a2), (3, .int a3)]) hx hb dX7_isNearer_145 hl (k := 8) rfl rfl (by decide) rfl (fun ls hl => ?_)
                    refine lv_goto (tgt := 6) hx hb dX7_isNearer_148 (by decide) ?_
                    exact ih6 1 (x5 + 1) _ _ _ hG hP hS (lv_sub hl [5, 6, 7, 8, 1, 0] rfl)
                · replace hG := wq_t c111 hG
                  refine lv_iconst (v := 1) hx hb dX7_isNearer_116 (by decide) ?_
                  refine lv_goto (tgt := 121) hx hb dX7_isNearer_117 (by decide) ?_
                  refine lv_istore (lv' := [(8, .int 1), (7, .int 1), (6, .int v4), (0, .ref (qa 0)), (1, .int a1), (2, .int a2), (3, .int a3), (4, .int x4), (5, .int x5)]) hx hb dX7_isNearer_121 hl (by decide) rfl (fun ls hl => ?_)
                  refine lv_iload hx hb dX7_isNearer_123 (lv_at hl 7 rfl) ?_
                  refine lv_if_ne (tgt := 138) hx hb dX7_isNearer_125 (by decide) (fun c114 => ?_) (fun c114 => ?_)
                  · replace hG := wq_f c114 hG
                    refine lv_iconst (v := 1) hx hb dX7_isNearer_138 (by decide) ?_
                    refine lv_goto (tgt := 143) hx hb dX7_isNearer_139 (by decide) ?_
                    refine lv_istore (lv' := [(4, .int 1), (8, .int 1), (7, .int 1), (6, .int v4), (0, .ref (qa 0)), (1, .int a1), (2, .int a2), (3, .int a3), (5, .int x5)]) hx hb dX7_isNearer_143 hl (by decide) rfl (fun ls hl => ?_)
                    refine lv_iinc (v := (x5 + 1)) (lv' := [(5, .int (x5 + 1)), (4, .int 1), (8, .int 1), (7, .int 1), (6, .int v4), (0, .ref (qa 0)), (1, .int a1), (2, .int a2), (3, .int a3)]) hx hb dX7_isNearer_145 hl (k := 8) rfl rfl (by decide) rfl (fun ls hl => ?_)
                    refine lv_goto (tgt := 6) hx hb dX7_isNearer_148 (by decide) ?_
                    exact ih6 1 (x5 + 1) _ _ _ hG hP hS (lv_sub hl [5, 6, 7, 8, 1, 0] rfl)
                  · replace hG := wq_t c114 hG
                    refine lv_iload hx hb dX7_isNearer_128 (lv_at hl 1 rfl) ?_
                    refine lv_if_ne (tgt := 138) hx hb dX7_isNearer_130 (by decide) (fun c115 => ?_) (fun c115 => absurd c115 (by decide))
                    refine lv_iconst (v := 1) hx hb dX7_isNearer_138 (by decide) ?_
                    refine lv_goto (tgt := 143) hx hb dX7_isNearer_139 (by decide) ?_
                    refine lv_istore (lv' := [(4, .int 1), (8, .int 1), (7, .int 1), (6, .int v4), (0, .ref (qa 0)), (1, .int a1), (2, .int a2), (3, .int a3), (5, .int x5)]) hx hb dX7_isNearer_143 hl (by decide) rfl (fun ls hl => ?_)
                    refine lv_iinc (v := (x5 + 1)) (lv' := [(5, .int (x5 + 1)), (4, .int 1), (8, .int 1), (7, .int 1), (6, .int v4), (0, .ref (qa 0)), (1, .int a1), (2, .int a2), (3, .int a3)]) hx hb dX7_isNearer_145 hl (k := 8) rfl rfl (by decide) rfl (fun ls hl => ?_)
                    refine lv_goto (tgt := 6) hx hb dX7_isNearer_148 (by decide) ?_
                    exact ih6 1 (x5 + 1) _ _ _ hG hP hS (lv_sub hl [5, 6, 7, 8, 1, 0] rfl)
  unfold gX7_isNearer at hG
  refine lv_iconst (v := 0) hx hb dX7_isNearer_0 (by decide) ?_
  refine lv_istore (lv' := [(4, .int 0), (0, .ref (qa 0)), (1, .int a1), (2, .int a2), (3, .int a3)]) hx hb dX7_isNearer_1 hl (by decide) rfl (fun ls hl => ?_)
  refine lv_iconst (v := 0) hx hb dX7_isNearer_3 (by decide) ?_
  refine lv_istore (lv' := [(5, .int 0), (4, .int 0), (0, .ref (qa 0)), (1, .int a1), (2, .int a2), (3, .int a3)]) hx hb dX7_isNearer_4 hl (by decide) rfl (fun ls hl => ?_)
  exact hL6  1000 0 0 _ _ _ hG hP hS (lv_sub hl [2, 3, 4, 5, 1, 0] rfl)

