theorem hdV_X7_reckons : yX7_reckons.cls = RX7 ∧ yX7_reckons.cls ≠ "java/lang/invoke/MethodHandle" ∧ yX7_reckons.cls ≠ "java/lang/invoke/VarHandle" ∧ (parseMethodDescriptor yX7_reckons.desc).map (fun d => d.parameters.length) = some 2 := by decide +kernel
set_option maxHeartbeats 4000000 in
set_option maxRecDepth 100000 in
theorem C_X7_reckons (l : Launch) (dC : Nat → ClassId) (dI : Nat → Nat → Nat) (cI cJ cZ : ClassId) (qa : Nat → Nat) (sz : Nat) (m_trace : Int64) (m_text : Nat → Int32) (m_typed : Int32) (m_told : Nat → Int32) (m_draft : Nat → Int32) (m_s : Nat → Int32) (m_past : Nat → Int32) (m_known : Int32) (m_images : Nat → Int32) (m_kept : Nat → Int32) (m_notes : Nat → Int32) (m_noted : Int32) (m_at : Int32) (m_sort : Int32) (m_start : Int32) (m_value : Int32) (m_steps : Nat → Int32) (m_rows : Nat → Int32) (m_held : Nat → Int32) (a1 : Int32) (a2 : Int32) (r0 : Int32) (r_m_steps : Nat → Int32) (r_m_rows : Nat → Int32) (hG : gX7_reckons m_told m_steps m_rows a1 a2 = some (r0, r_m_steps, r_m_rows)) : Met l yX7_reckons wsX7_reckons ({ frames := 4, cells := 0, slots := 0, locals := 94 } : Room) (va_Pc [.ref (qa 0), .int a1, .int a2] (wq_pw (dC, dI) [(cI, .int), (cJ, .long), (cZ, .boolean)] (wcM qa cI cJ cZ m_trace m_text m_typed m_told m_draft m_s m_past m_known m_images m_kept m_notes m_noted m_at m_sort m_start m_value m_steps m_rows m_held) sz)) (wq_Wi (dC, dI) r0 wq_tr (wcM qa cI cJ cZ m_trace m_text m_typed m_told m_draft m_s m_past m_known m_images m_kept m_notes m_noted m_at m_sort m_start m_value r_m_steps r_m_rows m_held) (va_A (wcM qa cI cJ cZ m_trace m_text m_typed m_told m_draft m_s m_past m_known m_images m_kept m_notes m_noted m_at m_sort m_start m_value m_steps m_rows m_held) sz)) 0 0 (va_A (wcM qa cI cJ cZ m_trace m_text m_typed m_told m_draft m_s m_past m_known m_images m_kept m_notes m_noted m_at m_sort m_start m_value m_steps m_rows m_held) sz) := by
  refine Met.ofW (cc := cX7_reckons) (maxL := 6) (ret := (some .int)) (by decide) rfl ?_
  intro p e s m args below meth c s₁ B hml hv
  obtain ⟨rfl, hsz, hP, hK, hD0, hE⟩ := hv
  have hx := B.exec
  have hb := B.bytes
  have hr := B.returns
  have hts := atoms_spec (ws := wsX7_reckons) B.pre
  have hown : s.vm.findClass RX7 = some m.cls := findClass_of_methodNamed B.named
  have hlocks := B.notSynchronized
  subst hsz
  have hD := hD0.self (sz := s.heap.size)
  generalize hAe : va_A (wcM qa cI cJ cZ m_trace m_text m_typed m_told m_draft m_s m_past m_known m_images m_kept m_notes m_noted m_at m_sort m_start m_value m_steps m_rows m_held) s.heap.size = A at hD hE ⊢
  have hA : ∀ q : Nat, s.heap.size ≤ q → A q := fun q h => by rw [← hAe]; exact Or.inr h
  have hS : va_S A s.heap s.heap [] := va_S.rf
  have hinX7 : ∀ w ∈ u_ws RX7 TX7 19, w ∈ wsX7_reckons := by decide +kernel
  have k1 := hts (.fieldLink RX7 35 "DoorMorningsModel" "steps" "[I") (by decide +kernel)
  have k2 := hts (.fieldLink RX7 38 "DoorMorningsModel" "rows" "[I") (by decide +kernel)
  have hl := lv_entry ([.ref (qa 0), .int a1, .int a2]) (n := 6) (Nat.le_of_ble_eq_true rfl)
  rw [lg_entry_eq]
  generalize (lg_sl ([.ref (qa 0), .int a1, .int a2]) ++ List.replicate (6 - (lg_sl ([.ref (qa 0), .int a1, .int a2])).length) Slot.unset).toArray = ls at hl ⊢
  have hl : lv_has ls 6 [(0, .ref (qa 0)), (1, .int a1), (2, .int a2)] := hl
  have hL63 : ∀ (x3 : Int32) (x4 : Int32) (kk53 : Int32 → (Nat → Int32) → (Nat → Int32) → Option (Int32 × (Nat → Int32) × (Nat → Int32))) (hk53 : ∀ (y4 : Int32) (u_m_steps : Nat → Int32) (u_m_rows : Nat → Int32) (H : Heap) (locs : List Loc) (ls : Array Slot), kk53 y4 u_m_steps u_m_rows = some (r0, r_m_steps, r_m_rows) → va_P (dC, dI) vwCl (wcM qa cI cJ cZ m_trace m_text m_typed m_told m_draft m_s m_past m_known m_images m_kept m_notes m_noted m_at m_sort m_start m_value u_m_steps u_m_rows m_held) H → va_D A (wcM qa cI cJ cZ m_trace m_text m_typed m_told m_draft m_s m_past m_known m_images m_kept m_notes m_noted m_at m_sort m_start m_value u_m_steps u_m_rows m_held) → va_S A s.heap H locs → lv_has ls 6 [(0, .ref (qa 0)), (1, .int a1), (2, .int a2), (3, .int x3), (4, .int y4)] → W p l e (headSpec wsX7_reckons ({ frames := 4, cells := 0, slots := 0, locals := 94 } : Room)).room s m ([.ref (qa 0), .int a1, .int a2] : List Value).toArray below meth c H locs 0 0 (MQ below (wq_Wi (dC, dI) r0 wq_tr (wcM qa cI cJ cZ m_trace m_text m_typed m_told m_draft m_s m_past m_known m_images m_kept m_notes m_noted m_at m_sort m_start m_value r_m_steps r_m_rows m_held) A) ([.ref (qa 0), .int a1, .int a2] : List Value).toArray s 0 0 A) (F0 m 53 ls [])) (kk31 : Int32 → (Nat → Int32) → (Nat → Int32) → Option (Int32 × (Nat → Int32) × (Nat → Int32))) (hk31 : ∀ (y3 : Int32) (u_m_steps : Nat → Int32) (u_m_rows : Nat → Int32) (H : Heap) (locs : List Loc) (ls : Array Slot), kk31 y3 u_m_steps u_m_rows = some (r0, r_m_steps, r_m_rows) → va_P (dC, dI) vwCl (wcM qa cI cJ cZ m_trace m_text m_typed m_told m_draft m_s m_past m_known m_images m_kept m_notes m_noted m_at m_sort m_start m_value u_m_steps u_m_rows m_held) H → va_D A (wcM qa cI cJ cZ m_trace m_text m_typed m_told m_draft m_s m_past m_known m_images m_kept m_notes m_noted m_at m_sort m_start m_value u_m_steps u_m_rows m_held) → va_S A s.heap H locs → lv_has ls 6 [(0, .ref (qa 0)), (1, .int a1), (2, .int a2), (3, .int y3)] → W p l e (headSpec wsX7_reckons ({ frames := 4, cells := 0, slots := 0, locals := 94 } : Room)).room s m ([.ref (qa 0), .int a1, .int a2] : List Value).toArray below meth c H locs 0 0 (MQ below (wq_Wi (dC, dI) r0 wq_tr (wcM qa cI cJ cZ m_trace m_text m_typed m_told m_draft m_s m_past m_known m_images m_kept m_notes m_noted m_at m_sort m_start m_value r_m_steps r_m_rows m_held) A) ([.ref (qa 0), .int a1, .int a2] : List Value).toArray s 0 0 A) (F0 m 31 ls [])) (n : Nat) (x5 : Int32) (z_m_steps : Nat → Int32) (z_m_rows : Nat → Int32) (H : Heap) (locs : List Loc) (ls : Array Slot), gX7_reckons_L63 kk53 kk31 m_told a1 a2 x3 x4 n x5 z_m_steps z_m_rows = some (r0, r_m_steps, r_m_rows) → va_P (dC, dI) vwCl (wcM qa cI cJ cZ m_trace m_text m_typed m_told m_draft m_s m_past m_known m_images m_kept m_notes m_noted m_at m_sort m_start m_value z_m_steps z_m_rows m_held) H → va_D A (wcM qa cI cJ cZ m_trace m_text m_typed m_told m_draft m_s m_past m_known m_images m_kept m_notes m_noted m_at m_sort m_start m_value z_m_steps z_m_rows m_held) → va_S A s.heap H locs → lv_has ls 6 [(0, .ref (qa 0)), (1, .int a1), (2, .int a2), (3, .int x3), (4, .int x4), (5, .int x5)] → W p l e (headSpec wsX7_reckons ({ frames := 4, cells := 0, slots := 0, locals := 94 } : Room)).room s m ([.ref (qa 0), .int a1, .int a2] : List Value).toArray below meth c H locs 0 0 (MQ below (wq_Wi (dC, dI) r0 wq_tr (wcM qa cI cJ cZ m_trace m_text m_typed m_told m_draft m_s m_past m_known m_images m_kept m_notes m_noted m_at m_sort m_start m_value r_m_steps r_m_rows m_held) A) ([.ref (qa 0), .int a1, .int a2] : List Value).toArray s 0 0 A) (F0 m 63 ls []) := by
    intro x3 x4 kk53 hk53 kk31 hk31 n
    induction n with
    | zero =>
      intro x5 z_m_steps z_m_rows H locs ls hG
      exact absurd (show (none : Option (Int32 × (Nat → Int32) × (Nat → Int32))) = some (r0, r_m_steps, r_m_rows) from hG) (by intro h9; cases h9)
    | succ n ih63 =>
      intro x5 z_m_steps z_m_rows H locs ls hG hP hD hS hl
      rw [gX7_reckons_L63] at hG
      refine lv_iload hx hb dX7_reckons_63 (lv_at hl 5 rfl) ?_
      refine lv_bipush (v := 9) hx hb dX7_reckons_65 (by decide) ?_
      refine lv_icmp_gt (tgt := 137) hx hb dX7_reckons_67 (by decide) (fun c1 => ?_) (fun c1 => ?_)
      · replace hG := wq_t c1 hG
        refine lv_iinc (v := (x4 + 1)) (lv' := [(4, .int (x4 + 1)), (0, .ref (qa 0)), (1, .int a1), (2, .int a2), (3, .int x3), (5, .int x5)]) hx hb dX7_reckons_137 hl (k := 4) rfl rfl (by decide) rfl (fun ls hl => ?_)
        refine lv_goto (tgt := 53) hx hb dX7_reckons_140 (by decide) ?_
        exact hk53 (x4 + 1) z_m_steps z_m_rows _ _ _ hG hP hD hS (lv_sub hl [1, 2, 3, 4, 0] rfl)
      · replace hG := wq_f c1 hG
        refine lv_aload_n hx hb dX7_reckons_70 rfl (lv_at hl 0 rfl) ?_
        refine va_get (D := (dC, dI)) (ci := 7) (v := .ref (qa 9)) (C := RX7) (T := TX7) (N := 19) hx hb hts hinX7 hown hK hP 0 rfl rfl 16 (by decide) k1 (fun _ h9 => h9) rfl dX7_reckons_71 ?_
        refine lv_iload hx hb dX7_reckons_74 (lv_at hl 4 rfl) ?_
        refine lv_iload hx hb dX7_reckons_76 (lv_at hl 5 rfl) ?_
        obtain ⟨v3, g2, hG⟩ := wq_b1_s hG
        refine wq_ci (v := v3) (B := wq_tr) (va_runS (As := [.int x4, .int x5]) (rest := [.ref (qa 9)]) ⟨hx, hb, hml, hown, hts⟩ (C_X7_place l dC dI cI cJ cZ qa H.size  x4 x5 v3 g2) (va_cwS 2 hts gX7_reckons_X7_place rfl rfl rfl hdS_X7_place ⟨Nat.le_of_ble_eq_true rfl, Nat.le_of_ble_eq_true rfl⟩) (wq_ppS hK (hP.sub (ws' := []) [] rfl) hE hS hA) rfl rfl hl.1 rfl (lv_room (Nat.le_of_ble_eq_true rfl)) dX7_reckons_78 ⟨Nat.zero_le _, Nat.zero_le _⟩) hS hA (fun H locs b4 hk hS => ?_)
        replace hP := wq_kp hP hk
        clear hk
        obtain ⟨h5, hG⟩ := wq_chk_s hG
        refine wq_iald (D := (dC, dI)) hx hb hK hP 9 0 rfl rfl h5 (Int32.toNatClampNeg v3) rfl dX7_reckons_81 ?_
        refine lv_if_ne (tgt := 131) hx hb dX7_reckons_82 (by decide) (fun c6 => ?_) (fun c6 => ?_)
        · replace hG := wq_f c6 hG
          refine lv_iinc (v := (x5 + 1)) (lv' := [(5, .int (x5 + 1)), (0, .ref (qa 0)), (1, .int a1), (2, .int a2), (3, .int x3), (4, .int x4)]) hx hb dX7_reckons_131 hl (k := 5) rfl rfl (by decide) rfl (fun ls hl => ?_)
          refine lv_goto (tgt := 63) hx hb dX7_reckons_134 (by decide) ?_
          exact ih63 (x5 + 1) z_m_steps z_m_rows _ _ _ hG hP hD hS (lv_sub hl [1, 2, 3, 4, 5, 0] rfl)
        · replace hG := wq_t c6 hG
          refine lv_aload_n hx hb dX7_reckons_85 rfl (lv_at hl 0 rfl) ?_
          refine lv_iload hx hb dX7_reckons_86 (lv_at hl 4 rfl) ?_
          refine lv_iload hx hb dX7_reckons_88 (lv_at hl 5 rfl) ?_
          refine lv_iload_n hx hb dX7_reckons_90 rfl (lv_at hl 3 rfl) ?_
          obtain ⟨v8, g7, hG⟩ := wq_b1_s hG
          refine wq_ci (v := v8) (B := wq_Z1) (va_runV (As := [.int x4, .int x5, .int x3]) (rest := []) ⟨hx, hb, hml, hown, hts⟩ (C_X7_isNearer l dC dI cI cJ cZ qa H.size m_trace m_text m_typed m_told m_draft m_s m_past m_known m_images m_kept m_notes m_noted m_at m_sort m_start m_value z_m_steps z_m_rows m_held x4 x5 x3 v8 g7) (cwV 3 hts gX7_reckons_X7_isNearer rfl rfl rfl hdV_X7_isNearer ⟨Nat.le_of_ble_eq_true rfl, Nat.le_of_ble_eq_true rfl⟩) (wq_ppV hK hP hE hS hA (ci := 7) (q0 := 0) rfl rfl) rfl rfl hl.1 rfl (lv_room (Nat.le_of_ble_eq_true rfl)) dX7_reckons_91 ⟨Nat.zero_le _, Nat.zero_le _⟩) hS hA (fun H locs b9 hk hS => ?_)
          replace hP := wq_kp hP hk
          clear hk
          refine lv_if_eq (tgt := 131) hx hb dX7_reckons_94 (by decide) (fun c10 => ?_) (fun c10 => ?_)
          · replace hG := wq_t c10 hG
            refine lv_iinc (v := (x5 + 1)) (lv' := [(5, .int (x5 + 1)), (0, .ref (qa 0)), (1, .int a1), (2, .int a2), (3, .int x3), (4, .int x4)]) hx hb dX7_reckons_131 hl (k := 5) rfl rfl (by decide) rfl (fun ls hl => ?_)
            refine lv_goto (tgt := 63) hx hb dX7_reckons_134 (by decide) ?_
            exact ih63 (x5 + 1) z_m_steps z_m_rows _ _ _ hG hP hD hS (lv_sub hl [1, 2, 3, 4, 5, 0] rfl)
          · replace hG := wq_f c10 hG
            refine lv_aload_n hx hb dX7_reckons_97 rfl (lv_at hl 0 rfl) ?_
            refine va_get (D := (dC, dI)) (ci := 7) (v := .ref (qa 10)) (C := RX7) (T := TX7) (N := 19) hx hb hts hinX7 hown hK hP 0 rfl rfl 17 (by decide) k2 (fun _ h9 => h9) rfl dX7_reckons_98 ?_
            refine lv_iload hx hb dX7_reckons_101 (lv_at hl 4 rfl) ?_
            refine lv_iload hx hb dX7_reckons_103 (lv_at hl 5 rfl) ?_
            obtain ⟨v12, g11, hG⟩ := wq_b1_s hG
            refine wq_ci (v := v12) (B := wq_tr) (va_runS (As := [.int x4, .int x5]) (rest := [.ref (qa 10)]) ⟨hx, hb, hml, hown, hts⟩ (C_X7_place l dC dI cI cJ cZ qa H.size  x4 x5 v12 g11) (va_cwS 2 hts gX7_reckons_X7_place rfl rfl rfl hdS_X7_place ⟨Nat.le_of_ble_eq_true rfl, Nat.le_of_ble_eq_true rfl⟩) (wq_ppS hK (hP.sub (ws' := []) [] rfl) hE hS hA) rfl rfl hl.1 rfl (lv_room (Nat.le_of_ble_eq_true rfl)) dX7_reckons_105 ⟨Nat.zero_le _, Nat.zero_le _⟩) hS hA (fun H locs b13 hk hS => ?_)
            replace hP := wq_kp hP hk
            clear hk
            refine lv_aload_n hx hb dX7_reckons_108 rfl (lv_at hl 0 rfl) ?_
            refine lv_iload hx hb dX7_reckons_109 (lv_at hl 4 rfl) ?_
            refine lv_iload hx hb dX7_reckons_111 (lv_at hl 5 rfl) ?_
            refine lv_iload_n hx hb dX7_reckons_113 rfl (lv_at hl 3 rfl) ?_
            obtain ⟨v15, g14, hG⟩ := wq_b1_s hG
            refine wq_ci (v := v15) (B := wq_tr) (va_runV (As := [.int x4, .int x5, .int x3]) (rest := [.int v12, .ref (qa 10)]) ⟨hx, hb, hml, hown, hts⟩ (C_X7_waysFrom l dC dI cI cJ cZ qa H.size m_trace m_text m_typed m_told m_draft m_s m_past m_known m_images m_kept m_notes m_noted m_at m_sort m_start m_value z_m_steps z_m_rows m_held x4 x5 x3 v15 g14) (cwV 3 hts gX7_reckons_X7_waysFrom rfl rfl rfl hdV_X7_waysFrom ⟨Nat.le_of_ble_eq_true rfl, Nat.le_of_ble_eq_true rfl⟩) (wq_ppV hK hP hE hS hA (ci := 7) (q0 := 0) rfl rfl) rfl rfl hl.1 rfl (lv_room (Nat.le_of_ble_eq_true rfl)) dX7_reckons_114 ⟨Nat.zero_le _, Nat.zero_le _⟩) hS hA (fun H locs b16 hk hS => ?_)
            replace hP := wq_kp hP hk
            clear hk
            obtain ⟨h17, hG⟩ := wq_chk_s hG
            refine wq_iast (D := (dC, dI)) hx hb hK hP hD hS 10 0 rfl rfl h17 (Int32.toNatClampNeg v12) rfl (wcM qa cI cJ cZ m_trace m_text m_typed m_told m_draft m_s m_past m_known m_images m_kept m_notes m_noted m_at m_sort m_start m_value z_m_steps (upd z_m_rows (Int32.toNatClampNeg v12) v15) m_held) rfl dX7_reckons_117 (fun H locs hP hD hS => ?_)
            refine lv_aload_n hx hb dX7_reckons_118 rfl (lv_at hl 0 rfl) ?_
            refine va_get (D := (dC, dI)) (ci := 7) (v := .ref (qa 9)) (C := RX7) (T := TX7) (N := 19) hx hb hts hinX7 hown hK hP 0 rfl rfl 16 (by decide) k1 (fun _ h9 => h9) rfl dX7_reckons_119 ?_
            refine lv_iload hx hb dX7_reckons_122 (lv_at hl 4 rfl) ?_
            refine lv_iload hx hb dX7_reckons_124 (lv_at hl 5 rfl) ?_
            obtain ⟨v19, g18, hG⟩ := wq_b1_s hG
            refine wq_ci (v := v19) (B := wq_tr) (va_runS (As := [.int x4, .int x5]) (rest := [.ref (qa 9)]) ⟨hx, hb, hml, hown, hts⟩ (C_X7_place l dC dI cI cJ cZ qa H.size  x4 x5 v19 g18) (va_cwS 2 hts gX7_reckons_X7_place rfl rfl rfl hdS_X7_place ⟨Nat.le_of_ble_eq_true rfl, Nat.le_of_ble_eq_true rfl⟩) (wq_ppS hK (hP.sub (ws' := []) [] rfl) hE hS hA) rfl rfl hl.1 rfl (lv_room (Nat.le_of_ble_eq_true rfl)) dX7_reckons_126 ⟨Nat.zero_le _, Nat.zero_le _⟩) hS hA (fun H locs b20 hk hS => ?_)
            replace hP := wq_kp hP hk
            clear hk
            refine lv_iload_n hx hb dX7_reckons_129 rfl (lv_at hl 3 rfl) ?_
            obtain ⟨h21, hG⟩ := wq_chk_s hG
            refine wq_iast (D := (dC, dI)) hx hb hK hP hD hS 9 0 rfl rfl h21 (Int32.toNatClampNeg v19) rfl (wcM qa cI cJ cZ m_trace m_text m_typed m_told m_draft m_s m_past m_known m_images m_kept m_notes m_noted m_at m_sort m_start m_value (upd z_m_steps (Int32.toNatClampNeg v19) x3) (upd z_m_rows (Int32.toNatClampNeg v12) v15) m_held) rfl dX7_reckons_130 (fun H locs hP hD hS => ?_)
            refine lv_iinc (v := (x5 + 1)) (lv' := [(5, .int (x5 + 1)), (0, .ref (qa 0)), (1, .int a1), (2, .int a2), (3, .int x3), (4, .int x4)]) hx hb dX7_reckons_131 hl (k := 5) rfl rfl (by decide) rfl (fun ls hl => ?_)
            refine lv_goto (tgt := 63) hx hb dX7_reckons_134 (by decide) ?_
            exact ih63 (x5 + 1) (upd z_m_steps (Int32.toNatClampNeg v19) x3) (upd z_m_rows (Int32.toNatClampNeg v12) v15) _ _ _ hG hP hD hS (lv_sub hl [1, 2, 3, 4, 5, 0] rfl)
  have hL53 : ∀ (x3 : Int32) (kk31 : Int32 → (Nat → Int32) → (Nat → Int32) → Option (Int32 × (Nat → Int32) × (Nat → Int32))) (hk31 : ∀ (y3 : Int32) (u_m_steps : Nat → Int32) (u_m_rows : Nat → Int32) (H : Heap) (locs : List Loc) (ls : Array Slot), kk31 y3 u_m_steps u_m_rows = some (r0, r_m_steps, r_m_rows) → va_P (dC, dI) vwCl (wcM qa cI cJ cZ m_trace m_text m_typed m_told m_draft m_s m_past m_known m_images m_kept m_notes m_noted m_at m_sort m_start m_value u_m_steps u_m_rows m_held) H → va_D A (wcM qa cI cJ cZ m_trace m_text m_typed m_told m_draft m_s m_past m_known m_images m_kept m_notes m_noted m_at m_sort m_start m_value u_m_steps u_m_rows m_held) → va_S A s.heap H locs → lv_has ls 6 [(0, .ref (qa 0)), (1, .int a1), (2, .int a2), (3, .int y3)] → W p l e (headSpec wsX7_reckons ({ frames := 4, cells := 0, slots := 0, locals := 94 } : Room)).room s m ([.ref (qa 0), .int a1, .int a2] : List Value).toArray below meth c H locs 0 0 (MQ below (wq_Wi (dC, dI) r0 wq_tr (wcM qa cI cJ cZ m_trace m_text m_typed m_told m_draft m_s m_past m_known m_images m_kept m_notes m_noted m_at m_sort m_start m_value r_m_steps r_m_rows m_held) A) ([.ref (qa 0), .int a1, .int a2] : List Value).toArray s 0 0 A) (F0 m 31 ls [])) (n : Nat) (x4 : Int32) (z_m_steps : Nat → Int32) (z_m_rows : Nat → Int32) (H : Heap) (locs : List Loc) (ls : Array Slot), gX7_reckons_L53 kk31 m_told a1 a2 x3 n x4 z_m_steps z_m_rows = some (r0, r_m_steps, r_m_rows) → va_P (dC, dI) vwCl (wcM qa cI cJ cZ m_trace m_text m_typed m_told m_draft m_s m_past m_known m_images m_kept m_notes m_noted m_at m_sort m_start m_value z_m_steps z_m_rows m_held) H → va_D A (wcM qa cI cJ cZ m_trace m_text m_typed m_told m_draft m_s m_past m_known m_images m_kept m_notes m_noted m_at m_sort m_start m_value z_m_steps z_m_rows m_held) → va_S A s.heap H locs → lv_has ls 6 [(0, .ref (qa 0)), (1, .int a1), (2, .int a2), (3, .int x3), (4, .int x4)] → W p l e (headSpec wsX7_reckons ({ frames := 4, cells := 0, slots := 0, locals := 94 } : Room)).room s m ([.ref (qa 0), .int a1, .int a2] : List Value).toArray below meth c H locs 0 0 (MQ below (wq_Wi (dC, dI) r0 wq_tr (wcM qa cI cJ cZ m_trace m_text m_typed m_told m_draft m_s m_past m_known m_images m_kept m_notes m_noted m_at m_sort m_start m_value r_m_steps r_m_rows m_held) A) ([.ref (qa 0), .int a1, .int a2] : List Value).toArray s 0 0 A) (F0 m 53 ls []) := by
    intro x3 kk31 hk31 n
    induction n with
    | zero =>
      intro x4 z_m_steps z_m_rows H locs ls hG
      exact absurd (show (none : Option (Int32 × (Nat → Int32) × (Nat → Int32))) = some (r0, r_m_steps, r_m_rows) from hG) (by intro h9; cases h9)
    | succ n ih53 =>
      intro x4 z_m_steps z_m_rows H locs ls hG hP hD hS hl
      rw [gX7_reckons_L53] at hG
      refine lv_iload hx hb dX7_reckons_53 (lv_at hl 4 rfl) ?_
      refine lv_bipush (v := 24) hx hb dX7_reckons_55 (by decide) ?_
      refine lv_icmp_gt (tgt := 143) hx hb dX7_reckons_57 (by decide) (fun c22 => ?_) (fun c22 => ?_)
      · replace hG := wq_t c22 hG
        refine lv_iinc (v := (x3 + 1)) (lv' := [(3, .int (x3 + 1)), (0, .ref (qa 0)), (1, .int a1), (2, .int a2), (4, .int x4)]) hx hb dX7_reckons_143 hl (k := 3) rfl rfl (by decide) rfl (fun ls hl => ?_)
        refine lv_goto (tgt := 31) hx hb dX7_reckons_146 (by decide) ?_
        exact hk31 (x3 + 1) z_m_steps z_m_rows _ _ _ hG hP hD hS (lv_sub hl [1, 2, 3, 0] rfl)
      · replace hG := wq_f c22 hG
        refine lv_iconst (v := 0) hx hb dX7_reckons_60 (by decide) ?_
        refine lv_istore (lv' := [(5, .int 0), (0, .ref (qa 0)), (1, .int a1), (2, .int a2), (3, .int x3), (4, .int x4)]) hx hb dX7_reckons_61 hl (by decide) rfl (fun ls hl => ?_)
        exact hL63 x3 x4 (gX7_reckons_L53 kk31 m_told a1 a2 x3 n) ih53 kk31 hk31 1000 0 z_m_steps z_m_rows _ _ _ hG hP hD hS (lv_sub hl [1, 2, 3, 4, 5, 0] rfl)
  have hL31 : ∀  (n : Nat) (x3 : Int32) (z_m_steps : Nat → Int32) (z_m_rows : Nat → Int32) (H : Heap) (locs : List Loc) (ls : Array Slot), gX7_reckons_L31 m_told a1 a2 n x3 z_m_steps z_m_rows = some (r0, r_m_steps, r_m_rows) → va_P (dC, dI) vwCl (wcM qa cI cJ cZ m_trace m_text m_typed m_told m_draft m_s m_past m_known m_images m_kept m_notes m_noted m_at m_sort m_start m_value z_m_steps z_m_rows m_held) H → va_D A (wcM qa cI cJ cZ m_trace m_text m_typed m_told m_draft m_s m_past m_known m_images m_kept m_notes m_noted m_at m_sort m_start m_value z_m_steps z_m_rows m_held) → va_S A s.heap H locs → lv_has ls 6 [(0, .ref (qa 0)), (1, .int a1), (2, .int a2), (3, .int x3)] → W p l e (headSpec wsX7_reckons ({ frames := 4, cells := 0, slots := 0, locals := 94 } : Room)).room s m ([.ref (qa 0), .int a1, .int a2] : List Value).toArray below meth c H locs 0 0 (MQ below (wq_Wi (dC, dI) r0 wq_tr (wcM qa cI cJ cZ m_trace m_text m_typed m_told m_draft m_s m_past m_known m_images m_kept m_notes m_noted m_at m_sort m_start m_value r_m_steps r_m_rows m_held) A) ([.ref (qa 0), .int a1, .int a2] : List Value).toArray s 0 0 A) (F0 m 31 ls []) := by
    intro  n
    induction n with
    | zero =>
      intro x3 z_m_steps z_m_rows H locs ls hG
      exact absurd (show (none : Option (Int32 × (Nat → Int32) × (Nat → Int32))) = some (r0, r_m_steps, r_m_rows) from hG) (by intro h9; cases h9)
    | succ n ih31 =>
      intro x3 z_m_steps z_m_rows H locs ls hG hP hD hS hl
      rw [gX7_reckons_L31] at hG
      refine lv_iload_n hx hb dX7_reckons_31 rfl (lv_at hl 3 rfl) ?_
      refine lv_bipush (v := 60) hx hb dX7_reckons_32 (by decide) ?_
      refine lv_icmp_gt (tgt := 149) hx hb dX7_reckons_34 (by decide) (fun c23 => ?_) (fun c23 => ?_)
      · replace hG := wq_t c23 hG
        refine lv_aload_n hx hb dX7_reckons_149 rfl (lv_at hl 0 rfl) ?_
        refine va_get (D := (dC, dI)) (ci := 7) (v := .ref (qa 9)) (C := RX7) (T := TX7) (N := 19) hx hb hts hinX7 hown hK hP 0 rfl rfl 16 (by decide) k1 (fun _ h9 => h9) rfl dX7_reckons_150 ?_
        refine lv_iload_n hx hb dX7_reckons_153 rfl (lv_at hl 1 rfl) ?_
        refine lv_iload_n hx hb dX7_reckons_154 rfl (lv_at hl 2 rfl) ?_
        obtain ⟨v25, g24, hG⟩ := wq_b1_s hG
        refine wq_ci (v := v25) (B := wq_tr) (va_runS (As := [.int a1, .int a2]) (rest := [.ref (qa 9)]) ⟨hx, hb, hml, hown, hts⟩ (C_X7_place l dC dI cI cJ cZ qa H.size  a1 a2 v25 g24) (va_cwS 2 hts gX7_reckons_X7_place rfl rfl rfl hdS_X7_place ⟨Nat.le_of_ble_eq_true rfl, Nat.le_of_ble_eq_true rfl⟩) (wq_ppS hK (hP.sub (ws' := []) [] rfl) hE hS hA) rfl rfl hl.1 rfl (lv_room (Nat.le_of_ble_eq_true rfl)) dX7_reckons_155 ⟨Nat.zero_le _, Nat.zero_le _⟩) hS hA (fun H locs b26 hk hS => ?_)
        replace hP := wq_kp hP hk
        clear hk
        obtain ⟨h27, hG⟩ := wq_chk_s hG
        refine wq_iald (D := (dC, dI)) hx hb hK hP 9 0 rfl rfl h27 (Int32.toNatClampNeg v25) rfl dX7_reckons_158 ?_
        refine lv_istore_n (lv' := [(3, .int (z_m_steps (Int32.toNatClampNeg v25))), (0, .ref (qa 0)), (1, .int a1), (2, .int a2)]) hx hb dX7_reckons_159 rfl hl (by decide) rfl (fun ls hl => ?_)
        refine lv_iload_n hx hb dX7_reckons_160 rfl (lv_at hl 0 rfl) ?_
        refine lv_if_ne (tgt := 169) hx hb dX7_reckons_161 (by decide) (fun c28 => ?_) (fun c28 => ?_)
        · replace hG := wq_f c28 hG
          refine lv_iload_n hx hb dX7_reckons_169 rfl (lv_at hl 0 rfl) ?_
          obtain ⟨e0, e1, e2⟩ := wq_j3 hG
          subst e0
          subst e1
          subst e2
          exact W.iret hx hb hr (fun t ht hW => ⟨⟨_, (), rfl, ⟨rfl, trivial⟩, by rw [ht]; exact hP, hD⟩, hS.F ht⟩) hS.2.2 dX7_reckons_170
        · replace hG := wq_t c28 hG
          refine lv_bipush (v := (-9)) hx hb dX7_reckons_164 (by decide) ?_
          refine lv_goto (tgt := 170) hx hb dX7_reckons_166 (by decide) ?_
          obtain ⟨e0, e1, e2⟩ := wq_j3 hG
          subst e0
          subst e1
          subst e2
          exact W.iret hx hb hr (fun t ht hW => ⟨⟨_, (), rfl, ⟨rfl, trivial⟩, by rw [ht]; exact hP, hD⟩, hS.F ht⟩) hS.2.2 dX7_reckons_170
      · replace hG := wq_f c23 hG
        refine lv_aload_n hx hb dX7_reckons_37 rfl (lv_at hl 0 rfl) ?_
        refine va_get (D := (dC, dI)) (ci := 7) (v := .ref (qa 9)) (C := RX7) (T := TX7) (N := 19) hx hb hts hinX7 hown hK hP 0 rfl rfl 16 (by decide) k1 (fun _ h9 => h9) rfl dX7_reckons_38 ?_
        refine lv_iload_n hx hb dX7_reckons_41 rfl (lv_at hl 1 rfl) ?_
        refine lv_iload_n hx hb dX7_reckons_42 rfl (lv_at hl 2 rfl) ?_
        obtain ⟨v30, g29, hG⟩ := wq_b1_s hG
        refine wq_ci (v := v30) (B := wq_tr) (va_runS (As := [.int a1, .int a2]) (rest := [.ref (qa 9)]) ⟨hx, hb, hml, hown, hts⟩ (C_X7_place l dC dI cI cJ cZ qa H.size  a1 a2 v30 g29) (va_cwS 2 hts gX7_reckons_X7_place rfl rfl rfl hdS_X7_place ⟨Nat.le_of_ble_eq_true rfl, Nat.le_of_ble_eq_true rfl⟩) (wq_ppS hK (hP.sub (ws' := []) [] rfl) hE hS hA) rfl rfl hl.1 rfl (lv_room (Nat.le_of_ble_eq_true rfl)) dX7_reckons_43 ⟨Nat.zero_le _, Nat.zero_le _⟩) hS hA (fun H locs b31 hk hS => ?_)
        replace hP := wq_kp hP hk
        clear hk
        obtain ⟨h32, hG⟩ := wq_chk_s hG
        refine wq_iald (D := (dC, dI)) hx hb hK hP 9 0 rfl rfl h32 (Int32.toNatClampNeg v30) rfl dX7_reckons_46 ?_
        refine lv_if_ne (tgt := 149) hx hb dX7_reckons_47 (by decide) (fun c33 => ?_) (fun c33 => ?_)
        · replace hG := wq_f c33 hG
          refine lv_aload_n hx hb dX7_reckons_149 rfl (lv_at hl 0 rfl) ?_
          refine va_get (D := (dC, dI)) (ci := 7) (v := .ref (qa 9)) (C := RX7) (T := TX7) (N := 19) hx hb hts hinX7 hown hK hP 0 rfl rfl 16 (by decide) k1 (fun _ h9 => h9) rfl dX7_reckons_150 ?_
          refine lv_iload_n hx hb dX7_reckons_153 rfl (lv_at hl 1 rfl) ?_
          refine lv_iload_n hx hb dX7_reckons_154 rfl (lv_at hl 2 rfl) ?_
          obtain ⟨v35, g34, hG⟩ := wq_b1_s hG
          refine wq_ci (v := v35) (B := wq_tr) (va_runS (As := [.int a1, .int a2]) (rest := [.ref (qa 9)]) ⟨hx, hb, hml, hown, hts⟩ (C_X7_place l dC dI cI cJ cZ qa H.size  a1 a2 v35 g34) (va_cwS 2 hts gX7_reckons_X7_place rfl rfl rfl hdS_X7_place ⟨Nat.le_of_ble_eq_true rfl, Nat.le_of_ble_eq_true rfl⟩) (wq_ppS hK (hP.sub (ws' := []) [] rfl) hE hS hA) rfl rfl hl.1 rfl (lv_room (Nat.le_of_ble_eq_true rfl)) dX7_reckons_155 ⟨Nat.zero_le _, Nat.zero_le _⟩) hS hA (fun H locs b36 hk hS => ?_)
          replace hP := wq_kp hP hk
          clear hk
          obtain ⟨h37, hG⟩ := wq_chk_s hG
          refine wq_iald (D := (dC, dI)) hx hb hK hP 9 0 rfl rfl h37 (Int32.toNatClampNeg v35) rfl dX7_reckons_158 ?_
          refine lv_istore_n (lv' := [(3, .int (z_m_steps (Int32.toNatClampNeg v35))), (0, .ref (qa 0)), (1, .int a1), (2, .int a2)]) hx hb dX7_reckons_159 rfl hl (by decide) rfl (fun ls hl => ?_)
          refine lv_iload_n hx hb dX7_reckons_160 rfl (lv_at hl 0 rfl) ?_
          refine lv_if_ne (tgt := 169) hx hb dX7_reckons_161 (by decide) (fun c38 => ?_) (fun c38 => ?_)
          · replace hG := wq_f c38 hG
            refine lv_iload_n hx hb dX7_reckons_169 rfl (lv_at hl 0 rfl) ?_
            obtain ⟨e0, e1, e2⟩ := wq_j3 hG
            subst e0
            subst e1
            subst e2
            exact W.iret hx hb hr (fun t ht hW => ⟨⟨_, (), rfl, ⟨rfl, trivial⟩, by rw [ht]; exact hP, hD⟩, hS.F ht⟩) hS.2.2 dX7_reckons_170
          · replace hG := wq_t c38 hG
            refine lv_bipush (v := (-9)) hx hb dX7_reckons_164 (by decide) ?_
            refine lv_goto (tgt := 170) hx hb dX7_reckons_166 (by decide) ?_
            obtain ⟨e0, e1, e2⟩ := wq_j3 hG
            subst e0
            subst e1
            subst e2
            exact W.iret hx hb hr (fun t ht hW => ⟨⟨_, (), rfl, ⟨rfl, trivial⟩, by rw [ht]; exact hP, hD⟩, hS.F ht⟩) hS.2.2 dX7_reckons_170
        · replace hG := wq_t c33 hG
          refine lv_iconst (v := 0) hx hb dX7_reckons_50 (by decide) ?_
          refine lv_istore (lv' := [(4, .int 0), (0, .ref (qa 0)), (1, .int a1), (2, .int a2), (3, .int x3)]) hx hb dX7_reckons_51 hl (by decide) rfl (fun ls hl => ?_)
          exact hL53 x3 (gX7_reckons_L31 m_told a1 a2 n) ih31 1000 0 z_m_steps z_m_rows _ _ _ hG hP hD hS (lv_sub hl [1, 2, 3, 4, 0] rfl)
  have hL2 : ∀  (n : Nat) (x3 : Int32) (z_m_steps : Nat → Int32) (z_m_rows : Nat → Int32) (H : Heap) (locs : List Loc) (ls : Array Slot), gX7_reckons_L2 m_told a1 a2 n x3 z_m_steps z_m_rows = some (r0, r_m_steps, r_m_rows) → va_P (dC, dI) vwCl (wcM qa cI cJ cZ m_trace m_text m_typed m_told m_draft m_s m_past m_known m_images m_kept m_notes m_noted m_at m_sort m_start m_value z_m_steps z_m_rows m_held) H → va_D A (wcM qa cI cJ cZ m_trace m_text m_typed m_told m_draft m_s m_past m_known m_images m_kept m_notes m_noted m_at m_sort m_start m_value z_m_steps z_m_rows m_held) → va_S A s.heap H locs → lv_has ls 6 [(0, .ref (qa 0)), (1, .int a1), (2, .int a2), (3, .int x3)] → W p l e (headSpec wsX7_reckons ({ frames := 4, cells := 0, slots := 0, locals := 94 } : Room)).room s m ([.ref (qa 0), .int a1, .int a2] : List Value).toArray below meth c H locs 0 0 (MQ below (wq_Wi (dC, dI) r0 wq_tr (wcM qa cI cJ cZ m_trace m_text m_typed m_told m_draft m_s m_past m_known m_images m_kept m_notes m_noted m_at m_sort m_start m_value r_m_steps r_m_rows m_held) A) ([.ref (qa 0), .int a1, .int a2] : List Value).toArray s 0 0 A) (F0 m 2 ls []) := by
    intro  n
    induction n with
    | zero =>
      intro x3 z_m_steps z_m_rows H locs ls hG
      exact absurd (show (none : Option (Int32 × (Nat → Int32) × (Nat → Int32))) = some (r0, r_m_steps, r_m_rows) from hG) (by intro h9; cases h9)
    | succ n ih2 =>
      intro x3 z_m_steps z_m_rows H locs ls hG hP hD hS hl
      rw [gX7_reckons_L2] at hG
      refine lv_iload_n hx hb dX7_reckons_2 rfl (lv_at hl 3 rfl) ?_
      refine lv_sipush (v := 250) hx hb dX7_reckons_3 (by decide) ?_
      refine lv_icmp_ge (tgt := 29) hx hb dX7_reckons_6 (by decide) (fun c39 => ?_) (fun c39 => ?_)
      · replace hG := wq_t c39 hG
        refine lv_iconst (v := 1) hx hb dX7_reckons_29 (by decide) ?_
        refine lv_istore_n (lv' := [(3, .int 1), (0, .ref (qa 0)), (1, .int a1), (2, .int a2)]) hx hb dX7_reckons_30 rfl hl (by decide) rfl (fun ls hl => ?_)
        exact hL31  1000 1 z_m_steps z_m_rows _ _ _ hG hP hD hS (lv_sub hl [1, 2, 3, 0] rfl)
      · replace hG := wq_f c39 hG
        refine lv_aload_n hx hb dX7_reckons_9 rfl (lv_at hl 0 rfl) ?_
        refine va_get (D := (dC, dI)) (ci := 7) (v := .ref (qa 9)) (C := RX7) (T := TX7) (N := 19) hx hb hts hinX7 hown hK hP 0 rfl rfl 16 (by decide) k1 (fun _ h9 => h9) rfl dX7_reckons_10 ?_
        refine lv_iload_n hx hb dX7_reckons_13 rfl (lv_at hl 3 rfl) ?_
        refine lv_iconst (v := 0) hx hb dX7_reckons_14 (by decide) ?_
        obtain ⟨h40, hG⟩ := wq_chk_s hG
        refine wq_iast (D := (dC, dI)) hx hb hK hP hD hS 9 0 rfl rfl h40 (Int32.toNatClampNeg x3) rfl (wcM qa cI cJ cZ m_trace m_text m_typed m_told m_draft m_s m_past m_known m_images m_kept m_notes m_noted m_at m_sort m_start m_value (upd z_m_steps (Int32.toNatClampNeg x3) 0) z_m_rows m_held) rfl dX7_reckons_15 (fun H locs hP hD hS => ?_)
        refine lv_aload_n hx hb dX7_reckons_16 rfl (lv_at hl 0 rfl) ?_
        refine va_get (D := (dC, dI)) (ci := 7) (v := .ref (qa 10)) (C := RX7) (T := TX7) (N := 19) hx hb hts hinX7 hown hK hP 0 rfl rfl 17 (by decide) k2 (fun _ h9 => h9) rfl dX7_reckons_17 ?_
        refine lv_iload_n hx hb dX7_reckons_20 rfl (lv_at hl 3 rfl) ?_
        refine lv_iconst (v := 0) hx hb dX7_reckons_21 (by decide) ?_
        refine wq_iast (D := (dC, dI)) hx hb hK hP hD hS 10 0 rfl rfl h40 (Int32.toNatClampNeg x3) rfl (wcM qa cI cJ cZ m_trace m_text m_typed m_told m_draft m_s m_past m_known m_images m_kept m_notes m_noted m_at m_sort m_start m_value (upd z_m_steps (Int32.toNatClampNeg x3) 0) (upd z_m_rows (Int32.toNatClampNeg x3) 0) m_held) rfl dX7_reckons_22 (fun H locs hP hD hS => ?_)
        refine lv_iinc (v := (x3 + 1)) (lv' := [(3, .int (x3 + 1)), (0, .ref (qa 0)), (1, .int a1), (2, .int a2)]) hx hb dX7_reckons_23 hl (k := 3) rfl rfl (by decide) rfl (fun ls hl => ?_)
        refine lv_goto (tgt := 2) hx hb dX7_reckons_26 (by decide) ?_
        exact ih2 (x3 + 1) (upd z_m_steps (Int32.toNatClampNeg x3) 0) (upd z_m_rows (Int32.toNatClampNeg x3) 0) _ _ _ hG hP hD hS (lv_sub hl [1, 2, 3, 0] rfl)
  unfold gX7_reckons at hG
  refine lv_iconst (v := 0) hx hb dX7_reckons_0 (by decide) ?_
  refine lv_istore_n (lv' := [(3, .int 0), (0, .ref (qa 0)), (1, .int a1), (2, .int a2)]) hx hb dX7_reckons_1 rfl hl (by decide) rfl (fun ls hl => ?_)
  exact hL2  1000 0 m_steps m_rows _ _ _ hG hP hD hS (lv_sub hl [1, 2, 3, 0] rfl)

theorem hdV_X7_firstFrom : yX7_firstFrom.cls = RX7 ∧ yX7_firstFrom.cls ≠ "java/lang/invoke/MethodHandle" ∧ yX7_firstFrom.cls ≠ "java/lang/invoke/VarHandle" ∧ (parseMethodDescriptor yX7_firstFrom.desc).map (fun d => d.parameters.length) = some 3 := by decide +kernel
set_option maxHeartbeats 4000000 in
set_option maxRecDepth 100000 in
theorem C_X7_firstFrom (l : Launch) (dC : Nat → ClassId) (dI : Nat → Nat → Nat) (cI cJ cZ : ClassId) (qa : Nat → Nat) (sz : Nat) (m_trace : Int64) (m_text : Nat → Int32) (m_typed : Int32) (m_told : Nat → Int32) (m_draft : Nat → Int32) (m_s : Nat → Int32) (m_past : Nat → Int32) (m_known : Int32) (m_images : Nat → Int32) (m_kept : Nat → Int32) (m_notes : Nat → Int32) (m_noted : Int32) (m_at : Int32) (m_sort : Int32) (m_start : Int32) (m_value : Int32) (m_steps : Nat → Int32) (m_rows : Nat → Int32) (m_held : Nat → Int32) (a1 : Int32) (a2 : Int32) (a3 : Int32) (r0 : Int32) (hG : gX7_firstFrom m_told m_steps a1 a2 a3 = some r0) : Met l yX7_firstFrom wsX7_firstFrom ({ frames := 3, cells := 0, slots := 0, locals := 66 } : Room) (va_Pc [.ref (qa 0), .int a1, .int a2, .int a3] (wq_pp (dC, dI) [(cI, .int), (cJ, .long), (cZ, .boolean)] (wcM qa cI cJ cZ m_trace m_text m_typed m_told m_draft m_s m_past m_known m_images m_kept m_notes m_noted m_at m_sort m_start m_value m_steps m_rows m_held) sz)) (wq_Qi r0 wq_tr (va_A [] sz)) 0 0 (va_A [] sz) := by
  refine Met.ofW (cc := cX7_firstFrom) (maxL := 8) (ret := (some .int)) (by decide) rfl ?_
  intro p e s m args below meth c s₁ B hml hv
  obtain ⟨rfl, hsz, hP, hK, hE⟩ := hv
  have hx := B.exec
  have hb := B.bytes
  have hr := B.returns
  have hts := atoms_spec (ws := wsX7_firstFrom) B.pre
  have hown : s.vm.findClass RX7 = some m.cls := findClass_of_methodNamed B.named
  have hlocks := B.notSynchronized
  subst hsz
  generalize hAe : va_A [] s.heap.size = A at hE ⊢
  have hA : ∀ q : Nat, s.heap.size ≤ q → A q := fun q h => by rw [← hAe]; exact Or.inr h
  have hS : va_S A s.heap s.heap [] := va_S.rf
  have hinX7 : ∀ w ∈ u_ws RX7 TX7 19, w ∈ wsX7_firstFrom := by decide +kernel
  have k1 := hts (.fieldLink RX7 35 "DoorMorningsModel" "steps" "[I") (by decide +kernel)
  have k2 := hts (.fieldLink RX7 13 "DoorMorningsModel" "told" "[I") (by decide +kernel)
  have hl := lv_entry ([.ref (qa 0), .int a1, .int a2, .int a3]) (n := 8) (Nat.le_of_ble_eq_true rfl)
  rw [lg_entry_eq]
  generalize (lg_sl ([.ref (qa 0), .int a1, .int a2, .int a3]) ++ List.replicate (8 - (lg_sl ([.ref (qa 0), .int a1, .int a2, .int a3])).length) Slot.unset).toArray = ls at hl ⊢
  have hl : lv_has ls 8 [(0, .ref (qa 0)), (1, .int a1), (2, .int a2), (3, .int a3)] := hl
  have hL14 : ∀  (n : Nat) (x4 : Int32) (x5 : Int32) (H : Heap) (locs : List Loc) (ls : Array Slot), gX7_firstFrom_L14 m_told m_steps a1 a2 a3 n x4 x5 = some r0 → va_P (dC, dI) vwCl (wcM qa cI cJ cZ m_trace m_text m_typed m_told m_draft m_s m_past m_known m_images m_kept m_notes m_noted m_at m_sort m_start m_value m_steps m_rows m_held) H → va_S A s.heap H locs → lv_has ls 8 [(0, .ref (qa 0)), (1, .int a1), (2, .int a2), (3, .int a3), (4, .int x4), (5, .int x5)] → W p l e (headSpec wsX7_firstFrom ({ frames := 3, cells := 0, slots := 0, locals := 66 } : Room)).room s m ([.ref (qa 0), .int a1, .int a2, .int a3] : List Value).toArray below meth c H locs 0 0 (MQ below (wq_Qi r0 wq_tr A) ([.ref (qa 0), .int a1, .int a2, .int a3] : List Value).toArray s 0 0 A) (F0 m 14 ls []) := by
    intro  n
    induction n with
    | zero =>
      intro x4 x5 H locs ls hG
      exact absurd (show (none : Option (Int32)) = some r0 from hG) (by intro h9; cases h9)
    | succ n ih14 =>
      intro x4 x5 H locs ls hG hP hS hl
      rw [gX7_firstFrom_L14] at hG
      refine lv_iload hx hb dX7_firstFrom_14 (lv_at hl 5 rfl) ?_
      refine lv_if_lt (tgt := 159) hx hb dX7_firstFrom_16 (by decide) (fun c1 => ?_) (fun c1 => ?_)
      · replace hG := wq_t c1 hG
        refine lv_iload hx hb dX7_firstFrom_159 (lv_at hl 4 rfl) ?_
        exact W.iret (v := x4) hx hb hr (fun t ht hW => ⟨⟨x4, (), rfl, ⟨Option.some.inj hG, trivial⟩, trivial⟩, hS.F ht⟩) hS.2.2 dX7_firstFrom_161
      · replace hG := wq_f c1 hG
        refine lv_aload_n hx hb dX7_firstFrom_19 rfl (lv_at hl 0 rfl) ?_
        refine lv_iload hx hb dX7_firstFrom_20 (lv_at hl 5 rfl) ?_
        refine lv_iload_n hx hb dX7_firstFrom_22 rfl (lv_at hl 1 rfl) ?_
        refine lv_iload_n hx hb dX7_firstFrom_23 rfl (lv_at hl 2 rfl) ?_
        obtain ⟨v3, g2, hG⟩ := wq_b1_s hG
        refine wq_ci (v := v3) (B := wq_tr) (va_runV (As := [.int x5, .int a1, .int a2]) (rest := []) ⟨hx, hb, hml, hown, hts⟩ (C_X7_calmTo l dC dI cI cJ cZ qa H.size m_trace m_text m_typed m_told m_draft m_s m_past m_known m_images m_kept m_notes m_noted m_at m_sort m_start m_value m_steps m_rows m_held x5 a1 a2 v3 g2) (cwV 3 hts gX7_firstFrom_X7_calmTo rfl rfl rfl hdV_X7_calmTo ⟨Nat.le_of_ble_eq_true rfl, Nat.le_of_ble_eq_true rfl⟩) (wq_ppV hK hP hE hS hA (ci := 7) (q0 := 0) rfl rfl) rfl rfl hl.1 rfl (lv_room (Nat.le_of_ble_eq_true rfl)) dX7_firstFrom_24 ⟨Nat.zero_le _, Nat.zero_le _⟩) hS hA (fun H locs b4 hk hS => ?_)
        replace hP := wq_kp hP hk
        clear hk
        refine lv_istore (lv' := [(6, .int v3), (0, .ref (qa 0)), (1, .int a1), (2, .int a2), (3, .int a3), (4, .int x4), (5, .int x5)]) hx hb dX7_firstFrom_27 hl (by decide) rfl (fun ls hl => ?_)
        refine lv_aload_n hx hb dX7_firstFrom_29 rfl (lv_at hl 1 rfl) ?_
        refine lv_iload hx hb dX7_firstFrom_30 (lv_at hl 6 rfl) ?_
        refine lv_iload_n hx hb dX7_firstFrom_32 rfl (lv_at hl 2 rfl) ?_
        refine lv_iload_n hx hb dX7_firstFrom_33 rfl (lv_at hl 3 rfl) ?_
        obtain ⟨v6, g5, hG⟩ := wq_b1_s hG
        refine wq_ci (v := v6) (B := wq_tr) (va_runV (As := [.int x5, .int a1, .int a2]) (rest := []) ⟨hx, hb, hml, hown, hts⟩ (C_X7_wildFrom l dC dI cI cJ cZ qa H.size m_trace m_text m_typed m_told m_draft m_s m_past m_known m_images m_kept m_notes m_noted m_at m_sort m_start m_value m_steps m_rows m_held x5 a1 a2 v6 g5) (cwV 3 hts gX7_firstFrom_X7_wildFrom rfl rfl rfl hdV_X7_wildFrom ⟨Nat.le_of_ble_eq_true rfl, Nat.le_of_ble_eq_true rfl⟩) (wq_ppV hK hP hE hS hA (ci := 7) (q0 := 0) rfl rfl) rfl rfl hl.1 rfl (lv_room (Nat.le_of_ble_eq_true rfl)) dX7_firstFrom_34 ⟨Nat.zero_le _, Nat.zero_le _⟩) hS hA (fun H locs b7 hk hS => ?_)
        replace hP := wq_kp hP hk
        clear hk
        refine lv_istore (lv' := [(7, .int v6), (6, .int v3), (0, .ref (qa 0)), (1, .int a1), (2, .int a2), (3, .int a3), (4, .int x4), (5, .int x5)]) hx hb dX7_firstFrom_37 hl (by decide) rfl (fun ls hl => ?_)
        refine lv_iload_n hx hb dX7_firstFrom_39 rfl (lv_at hl 5 rfl) ?_
        refine lv_iconst (v := 1) hx hb dX7_firstFrom_40 (by decide) ?_
        refine lv_icmp_ne (tgt := 77) hx hb dX7_firstFrom_41 (by decide) (fun c8 => ?_) (fun c8 => ?_)
        · replace hG := wq_f c8 hG
          refine lv_iload hx hb dX7_firstFrom_77 (lv_at hl 0 rfl) ?_
          refine lv_bipush (v := 96) hx hb dX7_firstFrom_79 (by decide) ?_
          refine lv_icmp_gt (tgt := 111) hx hb dX7_firstFrom_81 (by decide) (fun c9 => ?_) (fun c9 => ?_)
          · replace hG := wq_t c9 hG
            refine lv_iload hx hb dX7_firstFrom_111 (lv_at hl 6 rfl) ?_
            refine lv_istore (lv' := [(4, .int x4), (7, .int v6), (6, .int v3), (0, .ref (qa 0)), (1, .int a1), (2, .int a2), (3, .int a3), (5, .int x5)]) hx hb dX7_firstFrom_113 hl (by decide) rfl (fun ls hl => ?_)
            refine lv_iload hx hb dX7_firstFrom_115 (lv_at hl 2 rfl) ?_
            refine lv_if_le (tgt := 149) hx hb dX7_firstFrom_117 (by decide) (fun c10 => ?_) (fun c10 => ?_)
            · replace hG := wq_t c10 hG
              refine lv_iload hx hb dX7_firstFrom_149 (lv_at hl 0 rfl) ?_
              refine lv_istore (lv' := [(4, .int x4), (7, .int v6), (6, .int v3), (0, .ref (qa 0)), (1, .int a1), (2, .int a2), (3, .int a3), (5, .int x5)]) hx hb dX7_firstFrom_151 hl (by decide) rfl (fun ls hl => ?_)
              refine lv_iinc (v := (x5 + (-1))) (lv' := [(5, .int (x5 + (-1))), (4, .int x4), (7, .int v6), (6, .int v3), (0, .ref (qa 0)), (1, .int a1), (2, .int a2), (3, .int a3)]) hx hb dX7_firstFrom_153 hl (k := 7) rfl rfl (by decide) rfl (fun ls hl => ?_)
              refine lv_goto (tgt := 14) hx hb dX7_firstFrom_156 (by decide) ?_
              exact ih14 x4 (x5 + (-1)) _ _ _ hG hP hS (lv_sub hl [4, 5, 6, 7, 1, 0] rfl)
            · replace hG := wq_f c10 hG
              refine lv_aload_n hx hb dX7_firstFrom_120 rfl (lv_at hl 3 rfl) ?_
              refine va_get (D := (dC, dI)) (ci := 7) (v := .ref (qa 9)) (C := RX7) (T := TX7) (N := 19) hx hb hts hinX7 hown hK hP 0 rfl rfl 16 (by decide) k1 (fun _ h9 => h9) rfl dX7_firstFrom_121 ?_
              refine lv_aload_n hx hb dX7_firstFrom_124 rfl (lv_at hl 3 rfl) ?_
              refine lv_iload hx hb dX7_firstFrom_125 (lv_at hl 7 rfl) ?_
              refine lv_iload_n hx hb dX7_firstFrom_127 rfl (lv_at hl 4 rfl) ?_
              refine lv_iload_n hx hb dX7_firstFrom_128 rfl (lv_at hl 5 rfl) ?_
              obtain ⟨v12, g11, hG⟩ := wq_b1_s hG
              refine wq_ci (v := v12) (B := wq_tr) (va_runV (As := [.int x5, .int a1, .int a2]) (rest := [.ref (qa 9)]) ⟨hx, hb, hml, hown, hts⟩ (C_X7_calmly l dC dI cI cJ cZ qa H.size m_trace m_text m_typed m_told m_draft m_s m_past m_known m_images m_kept m_notes m_noted m_at m_sort m_start m_value m_steps m_rows m_held x5 a1 a2 v12 g11) (cwV 3 hts gX7_firstFrom_X7_calmly rfl rfl rfl hdV_X7_calmly ⟨Nat.le_of_ble_eq_true rfl, Nat.le_of_ble_eq_true rfl⟩) (wq_ppV hK hP hE hS hA (ci := 7) (q0 := 0) rfl rfl) rfl rfl hl.1 rfl (lv_room (Nat.le_of_ble_eq_true rfl)) dX7_firstFrom_129 ⟨Nat.zero_le _, Nat.zero_le _⟩) hS hA (fun H locs b13 hk hS => ?_)
              replace hP := wq_kp hP hk
              clear hk
              obtain ⟨h14, hG⟩ := wq_chk_s hG
              refine wq_iald (D := (dC, dI)) hx hb hK hP 9 0 rfl rfl h14 (Int32.toNatClampNeg v12) rfl dX7_firstFrom_132 ?_
              refine lv_iload_n hx hb dX7_firstFrom_133 rfl (lv_at hl 6 rfl) ?_
              refine lv_iconst (v := 1) hx hb dX7_firstFrom_134 (by decide) ?_
              refine lv_isub hx hb dX7_firstFrom_135 ?_
              refine lv_icmp_ne (tgt := 149) hx hb dX7_firstFrom_136 (by decide) (fun c15 => ?_) (fun c15 => ?_)
              · replace hG := wq_f c15 hG
                refine lv_iload hx hb dX7_firstFrom_149 (lv_at hl 0 rfl) ?_
                refine lv_istore (lv' := [(4, .int x4), (7, .int v6), (6, .int v3), (0, .ref (qa 0)), (1, .int a1), (2, .int a2), (3, .int a3), (5, .int x5)]) hx hb dX7_firstFrom_151 hl (by decide) rfl (fun ls hl => ?_)
                refine lv_iinc (v := (x5 + (-1))) (lv' := [(5, .int (x5 + (-1))), (4, .int x4), (7, .int v6), (6, .int v3), (0, .ref (qa 0)), (1, .int a1), (2, .int a2), (3, .int a3)]) hx hb dX7_firstFrom_153 hl (k := 7) rfl rfl (by decide) rfl (fun ls hl => ?_)
                refine lv_goto (tgt := 14) hx hb dX7_firstFrom_156 (by decide) ?_
                exact ih14 x4 (x5 + (-1)) _ _ _ hG hP hS (lv_sub hl [4, 5, 6, 7, 1, 0] rfl)
              · replace hG := wq_t c15 hG
                refine lv_bipush (v := 100) hx hb dX7_firstFrom_139 (by decide) ?_
                refine lv_iload hx hb dX7_firstFrom_141 (lv_at hl 7 rfl) ?_
                refine lv_imul hx hb dX7_firstFrom_143 ?_
                refine lv_iconst (v := 1) hx hb dX7_firstFrom_144 (by decide) ?_
                refine lv_iadd hx hb dX7_firstFrom_145 ?_
                refine lv_goto (tgt := 151) hx hb dX7_firstFrom_146 (by decide) ?_
                refine lv_istore (lv' := [(4, .int ((100 * x5) + 1)), (7, .int v6), (6, .int v3), (0, .ref (qa 0)), (1, .int a1), (2, .int a2), (3, .int a3), (5, .int x5)]) hx hb dX7_firstFrom_151 hl (by decide) rfl (fun ls hl => ?_)
                refine lv_iinc (v := (x5 + (-1))) (lv' := [(5, .int (x5 + (-1))), (4, .int ((100 * x5) + 1)), (7, .int v6), (6, .int v3), (0, .ref (qa 0)), (1, .int a1), (2, .int a2), (3, .int a3)]) hx hb dX7_firstFrom_153 hl (k := 7) rfl rfl (by decide) rfl (fun ls hl => ?_)
                refine lv_goto (tgt := 14) hx hb dX7_firstFrom_156 (by decide) ?_
                exact ih14 ((100 * x5) + 1) (x5 + (-1)) _ _ _ hG hP hS (lv_sub hl [4, 5, 6, 7, 1, 0] rfl)
          · replace hG := wq_f c9 hG
            refine lv_aload_n hx hb dX7_firstFrom_84 rfl (lv_at hl 2 rfl) ?_
            refine va_get (D := (dC, dI)) (ci := 7) (v := .ref (qa 9)) (C := RX7) (T := TX7) (N := 19) hx hb hts hinX7 hown hK hP 0 rfl rfl 16 (by decide) k1 (fun _ h9 => h9) rfl dX7_firstFrom_85 ?_
            refine lv_iload_n hx hb dX7_firstFrom_88 rfl (lv_at hl 3 rfl) ?_
            refine lv_iload_n hx hb dX7_firstFrom_89 rfl (lv_at hl 4 rfl) ?_
            obtain ⟨v17, g16, hG⟩ := wq_b1_s hG
            refine wq_ci (v := v17) (B := wq_tr) (va_runS (As := [.int a1, .int a2]) (rest := [.ref (qa 9)]) ⟨hx, hb, hml, hown, hts⟩ (C_X7_wildly l dC dI cI cJ cZ qa H.size  a1 a2 v17 g16) (va_cwS 2 hts gX7_firstFrom_X7_wildly rfl rfl rfl hdS_X7_wildly ⟨Nat.le_of_ble_eq_true rfl, Nat.le_of_ble_eq_true rfl⟩) (wq_ppS hK (hP.sub (ws' := []) [] rfl) hE hS hA) rfl rfl hl.1 rfl (lv_room (Nat.le_of_ble_eq_true rfl)) dX7_firstFrom_90 ⟨Nat.zero_le _, Nat.zero_le _⟩) hS hA (fun H locs b18 hk hS => ?_)
            replace hP := wq_kp hP hk
            clear hk
            obtain ⟨h19, hG⟩ := wq_chk_s hG
            refine wq_iald (D := (dC, dI)) hx hb hK hP 9 0 rfl rfl h19 (Int32.toNatClampNeg v17) rfl dX7_firstFrom_93 ?_
            refine lv_iload_n hx hb dX7_firstFrom_94 rfl (lv_at hl 5 rfl) ?_
            refine lv_iconst (v := 1) hx hb dX7_firstFrom_95 (by decide) ?_
            refine lv_isub hx hb dX7_firstFrom_96 ?_
            refine lv_icmp_ne (tgt := 111) hx hb dX7_firstFrom_97 (by decide) (fun c20 => ?_) (fun c20 => ?_)
            · replace hG := wq_f c20 hG
              refine lv_iload hx hb dX7_firstFrom_111 (lv_at hl 6 rfl) ?_
              refine lv_istore (lv' := [(4, .int x4), (7, .int v6), (6, .int v3), (0, .ref (qa 0)), (1, .int a1), (2, .int a2), (3, .int a3), (5, .int x5)]) hx hb dX7_firstFrom_113 hl (by decide) rfl (fun ls hl => ?_)
              refine lv_iload hx hb dX7_firstFrom_115 (lv_at hl 2 rfl) ?_
              refine lv_if_le (tgt := 149) hx hb dX7_firstFrom_117 (by decide) (fun c21 => ?_) (fun c21 => ?_)
              · replace hG := wq_t c21 hG
                refine lv_iload hx hb dX7_firstFrom_149 (lv_at hl 0 rfl) ?_
                refine lv_istore (lv' := [(4, .int x4), (7, .int v6), (6, .int v3), (0, .ref (qa 0)), (1, .int a1), (2, .int a2), (3, .int a3), (5, .int x5)]) hx hb dX7_firstFrom_151 hl (by decide) rfl (fun ls hl => ?_)
                refine lv_iinc (v := (x5 + (-1))) (lv' := [(5, .int (x5 + (-1))), (4, .int x4), (7, .int v6), (6, .int v3), (0, .ref (qa 0)), (1, .int a1), (2, .int a2), (3, .int a3)]) hx hb dX7_firstFrom_153 hl (k := 7) rfl rfl (by decide) rfl (fun ls hl => ?_)
                refine lv_goto (tgt := 14) hx hb dX7_firstFrom_156 (by decide) ?_
                exact ih14 x4 (x5 + (-1)) _ _ _ hG hP hS (lv_sub hl [4, 5, 6, 7, 1, 0] rfl)
              · replace hG := wq_f c21 hG
                refine lv_aload_n hx hb dX7_firstFrom_120 rfl (lv_at hl 3 rfl) ?_
                refine va_get (D := (dC, dI)) (ci := 7) (v := .ref (qa 9)) (C := RX7) (T := TX7) (N := 19) hx hb hts hinX7 hown hK hP 0 rfl rfl 16 (by decide) k1 (fun _ h9 => h9) rfl dX7_firstFrom_121 ?_
                refine lv_aload_n hx hb dX7_firstFrom_124 rfl (lv_at hl 3 rfl) ?_
                refine lv_iload hx hb dX7_firstFrom_125 (lv_at hl 7 rfl) ?_
                refine lv_iload_n hx hb dX7_firstFrom_127 rfl (lv_at hl 4 rfl) ?_
                refine lv_iload_n hx hb dX7_firstFrom_128 rfl (lv_at hl 5 rfl) ?_
                obtain ⟨v23, g22, hG⟩ := wq_b1_s hG
                refine wq_ci (v := v23) (B := wq_tr) (va_runV (As := [.int x5, .int a1, .int a2]) (rest := [.ref (qa 9)]) ⟨hx, hb, hml, hown, hts⟩ (C_X7_calmly l dC dI cI cJ cZ qa H.size m_trace m_text m_typed m_told m_draft m_s m_past m_known m_images m_kept m_notes m_noted m_at m_sort m_start m_value m_steps m_rows m_held x5 a1 a2 v23 g22) (cwV 3 hts gX7_firstFrom_X7_calmly rfl rfl rfl hdV_X7_calmly ⟨Nat.le_of_ble_eq_true rfl, Nat.le_of_ble_eq_true rfl⟩) (wq_ppV hK hP hE hS hA (ci := 7) (q0 := 0) rfl rfl) rfl rfl hl.1 rfl (lv_room (Nat.le_of_ble_eq_true rfl)) dX7_firstFrom_129 ⟨Nat.zero_le _, Nat.zero_le _⟩) hS hA (fun H locs b24 hk hS => ?_)
                replace hP := wq_kp hP hk
                clear hk
                obtain ⟨h25, hG⟩ := wq_chk_s hG
                refine wq_iald (D := (dC, dI)) hx hb hK hP 9 0 rfl rfl h25 (Int32.toNatClampNeg v23) rfl dX7_firstFrom_132 ?_
                refine lv_iload_n hx hb dX7_firstFrom_133 rfl (lv_at hl 6 rfl) ?_
                refine lv_iconst (v := 1) hx hb dX7_firstFrom_134 (by decide) ?_
                refine lv_isub hx hb dX7_firstFrom_135 ?_
                refine lv_icmp_ne (tgt := 149) hx hb dX7_firstFrom_136 (by decide) (fun c26 => ?_) (fun c26 => ?_)
                · replace hG := wq_f c26 hG
                  refine lv_iload hx hb dX7_firstFrom_149 (lv_at hl 0 rfl) ?_
                  refine lv_istore (lv' := [(4, .int x4), (7, .int v6), (6, .int v3), (0, .ref (qa 0)), (1, .int a1), (2, .int a2), (3, .int a3), (5, .int x5)]) hx hb dX7_firstFrom_151 hl (by decide) rfl (fun ls hl => ?_)
                  refine lv_iinc (v := (x5 + (-1))) (lv' := [(5, .int (x5 + (-1))), (4, .int x4), (7, .int v6), (6, .int v3), (0, .ref (qa 0)), (1, .int a1), (2, .int a2), (3, .int a3)]) hx hb dX7_firstFrom_153 hl (k := 7) rfl rfl (by decide) rfl (fun ls hl => ?_)
                  refine lv_goto (tgt := 14) hx hb dX7_firstFrom_156 (by decide) ?_
                  exact ih14 x4 (x5 + (-1)) _ _ _ hG hP hS (lv_sub hl [4, 5, 6, 7, 1, 0] rfl)
                · replace hG := wq_t c26 hG
                  refine lv_bipush (v := 100) hx hb dX7_firstFrom_139 (by decide) ?_
                  refine lv_iload hx hb dX7_firstFrom_141 (lv_at hl 7 rfl) ?_
                  refine lv_imul hx hb dX7_firstFrom_143 ?_
                  refine lv_iconst (v := 1) hx hb dX7_firstFrom_144 (by decide) ?_
                  refine lv_iadd hx hb dX7_firstFrom_145 ?_
                  refine lv_goto (tgt := 151) hx hb dX7_firstFrom_146 (by decide) ?_
                  refine lv_istore (lv' := [(4, .int ((100 * x5) + 1)), (7, .int v6), (6, .int v3), (0, .ref (qa 0)), (1, .int a1), (2, .int a2), (3, .int a3), (5, .int x5)]) hx hb dX7_firstFrom_151 hl (by decide) rfl (fun ls hl => ?_)
                  refine lv_iinc (v := (x5 + (-1))) (lv' := [(5, .int (x5 + (-1))), (4, .int ((100 * x5) + 1)), (7, .int v6), (6, .int v3), (0, .ref (qa 0)), (1, .int a1), (2, .int a2), (3, .int a3)]) hx hb dX7_firstFrom_153 hl (k := 7) rfl rfl (by decide) rfl (fun ls hl => ?_)
                  refine lv_goto (tgt := 14) hx hb dX7_firstFrom_156 (by decide) ?_
                  exact ih14 ((100 * x5) + 1) (x5 + (-1)) _ _ _ hG hP hS (lv_sub hl [4, 5, 6, 7, 1, 0] rfl)
            · replace hG := wq_t c20 hG
              refine lv_bipush (v := 100) hx hb dX7_firstFrom_100 (by decide) ?_
              refine lv_iload hx hb dX7_firstFrom_102 (lv_at hl 7 rfl) ?_
              refine lv_imul hx hb dX7_firstFrom_104 ?_
              refine lv_iload hx hb dX7_firstFrom_105 (lv_at hl 0 rfl) ?_
              refine lv_iadd hx hb dX7_firstFrom_107 ?_
              refine lv_goto (tgt := 113) hx hb dX7_firstFrom_108 (by decide) ?_
              refine lv_istore (lv' := [(4, .int ((100 * x5) + v6)), (7, .int v6), (6, .int v3), (0, .ref (qa 0)), (1, .int a1), (2, .int a2), (3, .int a3), (5, .int x5)]) hx hb dX7_firstFrom_113 hl (by decide) rfl (fun ls hl => ?_)
              refine lv_iload hx hb dX7_firstFrom_115 (lv_at hl 2 rfl) ?_
              refine lv_if_le (tgt := 149) hx hb dX7_firstFrom_117 (by decide) (fun c27 => ?_) (fun c27 => ?_)
              · replace hG := wq_t c27 hG
                refine lv_iload hx hb dX7_firstFrom_149 (lv_at hl 0 rfl) ?_
                refine lv_istore (lv' := [(4, .int ((100 * x5) + v6)), (7, .int v6), (6, .int v3), (0, .ref (qa 0)), (1, .int a1), (2, .int a2), (3, .int a3), (5, .int x5)]) hx hb dX7_firstFrom_151 hl (by decide) rfl (fun ls hl => ?_)
                refine lv_iinc (v := (x5 + (-1))) (lv' := [(5, .int (x5 + (-1))), (4, .int ((100 * x5) + v6)), (7, .int v6), (6, .int v3), (0, .ref (qa 0)), (1, .int a1), (2, .int a2), (3, .int a3)]) hx hb dX7_firstFrom_153 hl (k := 7) rfl rfl (by decide) rfl (fun ls hl => ?_)
                refine lv_goto (tgt := 14) hx hb dX7_firstFrom_156 (by decide) ?_
                exact ih14 ((100 * x5) + v6) (x5 + (-1)) _ _ _ hG hP hS (lv_sub hl [4, 5, 6, 7, 1, 0] rfl)
              · replace hG := wq_f c27 hG
                refine lv_aload_n hx hb dX7_firstFrom_120 rfl (lv_at hl 3 rfl) ?_
                refine va_get (D := (dC, dI)) (ci := 7) (v := .ref (qa 9)) (C := RX7) (T := TX7) (N := 19) hx hb hts hinX7 hown hK hP 0 rfl rfl 16 (by decide) k1 (fun _ h9 => h9) rfl dX7_firstFrom_121 ?_
                refine lv_aload_n hx hb dX7_firstFrom_124 rfl (lv_at hl 3 rfl) ?_
                refine lv_iload hx hb dX7_firstFrom_125 (lv_at hl 7 rfl) ?_
                refine lv_iload_n hx hb dX7_firstFrom_127 rfl (lv_at hl 4 rfl) ?_
                refine lv_iload_n hx hb dX7_firstFrom_128 rfl (lv_at hl 5 rfl) ?_
                obtain ⟨v29, g28, hG⟩ := wq_b1_s hG
                refine wq_ci (v := v29) (B := wq_tr) (va_runV (As := [.int x5, .int a1, .int a2]) (rest := [.ref (qa 9)]) ⟨hx, hb, hml, hown, hts⟩ (C_X7_calmly l dC dI cI cJ cZ qa H.size m_trace m_text m_typed m_told m_draft m_s m_past m_known m_images m_kept m_notes m_noted m_at m_sort m_start m_value m_steps m_rows m_held x5 a1 a2 v29 g28) (cwV 3 hts gX7_firstFrom_X7_calmly rfl rfl rfl hdV_X7_calmly ⟨Nat.le_of_ble_eq_true rfl, Nat.le_of_ble_eq_true rfl⟩) (wq_ppV hK hP hE hS hA (ci := 7) (q0 := 0) rfl rfl) rfl rfl hl.1 rfl (lv_room (Nat.le_of_ble_eq_true rfl)) dX7_firstFrom_129 ⟨Nat.zero_le _, Nat.zero_le _⟩) hS hA (fun H locs b30 hk hS => ?_)
                replace hP := wq_kp hP hk
                clear hk
                obtain ⟨h31, hG⟩ := wq_chk_s hG
                refine wq_iald (D := (dC, dI)) hx hb hK hP 9 0 rfl rfl h31 (Int32.toNatClampNeg v29) rfl dX7_firstFrom_132 ?_
                refine lv_iload_n hx hb dX7_firstFrom_133 rfl (lv_at hl 6 rfl) ?_
                refine lv_iconst (v := 1) hx hb dX7_firstFrom_134 (by decide) ?_
                refine lv_isub hx hb dX7_firstFrom_135 ?_
                refine lv_icmp_ne (tgt := 149) hx hb dX7_firstFrom_136 (by decide) (fun c32 => ?_) (fun c32 => ?_)
                · replace hG := wq_f c32 hG
                  refine lv_iload hx hb dX7_firstFrom_149 (lv_at hl 0 rfl) ?_
                  refine lv_istore (lv' := [(4, .int ((100 * x5) + v6)), (7, .int v6), (6, .int v3), (0, .ref (qa 0)), (1, .int a1), (2, .int a2), (3, .int a3), (5, .int x5)]) hx hb dX7_firstFrom_151 hl (by decide) rfl (fun ls hl => ?_)
                  refine lv_iinc (v := (x5 + (-1))) (lv' := [(5, .int (x5 + (-1))), (4, .int ((100 * x5) + v6)), (7, .int v6), (6, .int v3), (0, .ref (qa 0)), (1, .int a1), (2, .int a2), (3, .int a3)]) hx hb dX7_firstFrom_153 hl (k := 7) rfl rfl (by decide) rfl (fun ls hl => ?_)
                  refine lv_goto (tgt := 14) hx hb dX7_firstFrom_156 (by decide) ?_
                  exact ih14 ((100 * x5) + v6) (x5 + (-1)) _ _ _ hG hP hS (lv_sub hl [4, 5, 6, 7, 1, 0] rfl)
                · replace hG := wq_t c32 hG
                  refine lv_bipush (v := 100) hx hb dX7_firstFrom_139 (by decide) ?_
                  refine lv_iload hx hb dX7_firstFrom_141 (lv_at hl 7 rfl) ?_
                  refine lv_imul hx hb dX7_firstFrom_143 ?_
                  refine lv_iconst (v := 1) hx hb dX7_firstFrom_144 (by decide) ?_
                  refine lv_iadd hx hb dX7_firstFrom_145 ?_
                  refine lv_goto (tgt := 151) hx hb dX7_firstFrom_146 (by decide) ?_
                  refine lv_istore (lv' := [(4, .int ((100 * x5) + 1)), (7, .int v6), (6, .int v3), (0, .ref (qa 0)), (1, .int a1), (2, .int a2), (3, .int a3), (5, .int x5)]) hx hb dX7_firstFrom_151 hl (by decide) rfl (fun ls hl => ?_)
                  refine lv_iinc (v := (x5 + (-1))) (lv' := [(5, .int (x5 + (-1))), (4, .int ((100 * x5) + 1)), (7, .int v6), (6, .int v3), (0, .ref (qa 0)), (1, .int a1), (2, .int a2), (3, .int a3)]) hx hb dX7_firstFrom_153 hl (k := 7) rfl rfl (by decide) rfl (fun ls hl => ?_)
                  refine lv_goto (tgt := 14) hx hb dX7_firstFrom_156 (by decide) ?_
                  exact ih14 ((100 * x5) + 1) (x5 + (-1)) _ _ _ hG hP hS (lv_sub hl [4, 5, 6, 7, 1, 0] rfl)
        · replace hG := wq_t c8 hG
          refine lv_iload hx hb dX7_firstFrom_44 (lv_at hl 1 rfl) ?_
          refine lv_aload_n hx hb dX7_firstFrom_46 rfl (lv_at hl 2 rfl) ?_
          refine va_get (D := (dC, dI)) (ci := 7) (v := .ref (qa 2)) (C := RX7) (T := TX7) (N := 19) hx hb hts hinX7 hown hK hP 0 rfl rfl 3 (by decide) k2 (fun _ h9 => h9) rfl dX7_firstFrom_47 ?_
          refine lv_iconst (v := 5) hx hb dX7_firstFrom_50 (by decide) ?_
          refine wq_iald (D := (dC, dI)) hx hb hK hP 2 0 rfl rfl (wq_lit (by decide)) 5 rfl dX7_firstFrom_51 ?_
          refine lv_icmp_lt (tgt := 70) hx hb dX7_firstFrom_52 (by decide) (fun c33 => ?_) (fun c33 => ?_)
          · replace hG := wq_t c33 hG
            refine lv_iload hx hb dX7_firstFrom_70 (lv_at hl 6 rfl) ?_
            refine lv_istore (lv' := [(4, .int x4), (7, .int v6), (6, .int v3), (0, .ref (qa 0)), (1, .int a1), (2, .int a2), (3, .int a3), (5, .int x5)]) hx hb dX7_firstFrom_72 hl (by decide) rfl (fun ls hl => ?_)
            refine lv_goto (tgt := 153) hx hb dX7_firstFrom_74 (by decide) ?_
            refine lv_iinc (v := (x5 + (-1))) (lv' := [(5, .int (x5 + (-1))), (4, .int x4), (7, .int v6), (6, .int v3), (0, .ref (qa 0)), (1, .int a1), (2, .int a2), (3, .int a3)]) hx hb dX7_firstFrom_153 hl (k := 7) rfl rfl (by decide) rfl (fun ls hl => ?_)
            refine lv_goto (tgt := 14) hx hb dX7_firstFrom_156 (by decide) ?_
            exact ih14 x4 (x5 + (-1)) _ _ _ hG hP hS (lv_sub hl [4, 5, 6, 7, 1, 0] rfl)
          · replace hG := wq_f c33 hG
            refine lv_bipush (v := 100) hx hb dX7_firstFrom_55 (by decide) ?_
            refine lv_iload hx hb dX7_firstFrom_57 (lv_at hl 7 rfl) ?_
            refine lv_imul hx hb dX7_firstFrom_59 ?_
            refine lv_aload_n hx hb dX7_firstFrom_60 rfl (lv_at hl 2 rfl) ?_
            refine va_get (D := (dC, dI)) (ci := 7) (v := .ref (qa 2)) (C := RX7) (T := TX7) (N := 19) hx hb hts hinX7 hown hK hP 0 rfl rfl 3 (by decide) k2 (fun _ h9 => h9) rfl dX7_firstFrom_61 ?_
            refine lv_iconst (v := 5) hx hb dX7_firstFrom_64 (by decide) ?_
            refine wq_iald (D := (dC, dI)) hx hb hK hP 2 0 rfl rfl (wq_lit (by decide)) 5 rfl dX7_firstFrom_65 ?_
            refine lv_iadd hx hb dX7_firstFrom_66 ?_
            refine lv_goto (tgt := 72) hx hb dX7_firstFrom_67 (by decide) ?_
            refine lv_istore (lv' := [(4, .int ((100 * x5) + (m_told 5))), (7, .int v6), (6, .int v3), (0, .ref (qa 0)), (1, .int a1), (2, .int a2), (3, .int a3), (5, .int x5)]) hx hb dX7_firstFrom_72 hl (by decide) rfl (fun ls hl => ?_)
            refine lv_goto (tgt := 153) hx hb dX7_firstFrom_74 (by decide) ?_
            refine lv_iinc (v := (x5 + (-1))) (lv' := [(5, .int (x5 + (-1))), (4, .int ((100 * x5) + (m_told 5))), (7, .int v6), (6, .int v3), (0, .ref (qa 0)), (1, .int a1), (2, .int a2), (3, .int a3)]) hx hb dX7_firstFrom_153 hl (k := 7) rfl rfl (by decide) rfl (fun ls hl => ?_)
            refine lv_goto (tgt := 14) hx hb dX7_firstFrom_156 (by decide) ?_
            exact ih14 ((100 * x5) + (m_told 5)) (x5 + (-1)) _ _ _ hG hP hS (lv_sub hl [4, 5, 6, 7, 1, 0] rfl)
  unfold gX7_firstFrom at hG
  refine lv_bipush (v := (-9)) hx hb dX7_firstFrom_0 (by decide) ?_
  refine lv_istore (lv' := [(4, .int (-9)), (0, .ref (qa 0)), (1, .int a1), (2, .int a2), (3, .int a3)]) hx hb dX7_firstFrom_2 hl (by decide) rfl (fun ls hl => ?_)
  refine lv_aload_n hx hb dX7_firstFrom_4 rfl (lv_at hl 1 rfl) ?_
  refine va_get (D := (dC, dI)) (ci := 7) (v := .ref (qa 2)) (C := RX7) (T := TX7) (N := 19) hx hb hts hinX7 hown hK hP 0 rfl rfl 3 (by decide) k2 (fun _ h9 => h9) rfl dX7_firstFrom_5 ?_
  refine lv_iconst (v := 0) hx hb dX7_firstFrom_8 (by decide) ?_
  refine wq_iald (D := (dC, dI)) hx hb hK hP 2 0 rfl rfl (wq_lit (by decide)) 0 rfl dX7_firstFrom_9 ?_
  refine lv_iconst (v := 1) hx hb dX7_firstFrom_10 (by decide) ?_
  refine lv_isub hx hb dX7_firstFrom_11 ?_
  refine lv_istore (lv' := [(5, .int ((m_told 0) - 1)), (4, .int (-9)), (0, .ref (qa 0)), (1, .int a1), (2, .int a2), (3, .int a3)]) hx hb dX7_firstFrom_12 hl (by decide) rfl (fun ls hl => ?_)
  exact hL14  1000 (-9) ((m_told 0) - 1) _ _ _ hG hP hS (lv_sub hl [2, 3, 4, 5, 1, 0] rfl)

theorem hdV_X7_plan : yX7_plan.cls = RX7 ∧ yX7_plan.cls ≠ "java/lang/invoke/MethodHandle" ∧ yX7_plan.cls ≠ "java/lang/invoke/VarHandle" ∧ (parseMethodDescriptor yX7_plan.desc).map (fun d => d.parameters.length) = some 2 := by decide +kernel
set_option maxHeartbeats 4000000 in
set_option maxRecDepth 100000 in
theorem C_X7_plan (l : Launch) (dC : Nat → ClassId) (dI : Nat → Nat → Nat) (cI cJ cZ : ClassId) (qa : Nat → Nat) (sz : Nat) (m_trace : Int64) (m_text : Nat → Int32) (m_typed : Int32) (m_told : Nat → Int32) (m_draft : Nat → Int32) (m_s : Nat → Int32) (m_past : Nat → Int32) (m_known : Int32) (m_images : Nat → Int32) (m_kept : Nat → Int32) (m_notes : Nat → Int32) (m_noted : Int32) (m_at : Int32) (m_sort : Int32) (m_start : Int32) (m_value : Int32) (m_steps : Nat → Int32) (m_rows : Nat → Int32) (m_held : Nat → Int32) (a1 : Int32) (a2 : Int32) (r0 : Int32) (r_m_steps : Nat → Int32) (r_m_rows : Nat → Int32) (hG : gX7_plan m_told m_s m_steps m_rows a1 a2 = some (r0, r_m_steps, r_m_rows)) : Met l yX7_plan wsX7_plan ({ frames := 5, cells := 0, slots := 0, locals := 119 } : Room) (va_Pc [.ref (qa 0), .int a1, .int a2] (wq_pw (dC, dI) [(cI, .int), (cJ, .long), (cZ, .boolean)] (wcM qa cI cJ cZ m_trace m_text m_typed m_told m_draft m_s m_past m_known m_images m_kept m_notes m_noted m_at m_sort m_start m_value m_steps m_rows m_held) sz)) (wq_Wi (dC, dI) r0 wq_tr (wcM qa cI cJ cZ m_trace m_text m_typed m_told m_draft m_s m_past m_known m_images m_kept m_notes m_noted m_at m_sort m_start m_value r_m_steps r_m_rows m_held) (va_A (wcM qa cI cJ cZ m_trace m_text m_typed m_told m_draft m_s m_past m_known m_images m_kept m_notes m_noted m_at m_sort m_start m_value m_steps m_rows m_held) sz)) 0 0 (va_A (wcM qa cI cJ cZ m_trace m_text m_typed m_told m_draft m_s m_past m_known m_images m_kept m_notes m_noted m_at m_sort m_start m_value m_steps m_rows m_held) sz) := by
  refine Met.ofW (cc := cX7_plan) (maxL := 10) (ret := (some .int)) (by decide) rfl ?_
  intro p e s m args below meth c s₁ B hml hv
  obtain ⟨rfl, hsz, hP, hK, hD0, hE⟩ := hv
  have hx := B.exec
  have hb := B.bytes
  have hr := B.returns
  have hts := atoms_spec (ws := wsX7_plan) B.pre
  have hown : s.vm.findClass RX7 = some m.cls := findClass_of_methodNamed B.named
  have hlocks := B.notSynchronized
  subst hsz
  have hD := hD0.self (sz := s.heap.size)
  generalize hAe : va_A (wcM qa cI cJ cZ m_trace m_text m_typed m_told m_draft m_s m_past m_known m_images m_kept m_notes m_noted m_at m_sort m_start m_value m_steps m_rows m_held) s.heap.size = A at hD hE ⊢
  have hA : ∀ q : Nat, s.heap.size ≤ q → A q := fun q h => by rw [← hAe]; exact Or.inr h
  have hS : va_S A s.heap s.heap [] := va_S.rf
  have hinX7 : ∀ w ∈ u_ws RX7 TX7 19, w ∈ wsX7_plan := by decide +kernel
  have k1 := hts (.fieldLink RX7 19 "DoorMorningsModel" "s" "[I") (by decide +kernel)
  have hl := lv_entry ([.ref (qa 0), .int a1, .int a2]) (n := 10) (Nat.le_of_ble_eq_true rfl)
  rw [lg_entry_eq]
  generalize (lg_sl ([.ref (qa 0), .int a1, .int a2]) ++ List.replicate (10 - (lg_sl ([.ref (qa 0), .int a1, .int a2])).length) Slot.unset).toArray = ls at hl ⊢
  have hl : lv_has ls 10 [(0, .ref (qa 0)), (1, .int a1), (2, .int a2)] := hl
  have hL63 : ∀ (z_m_steps : Nat → Int32) (z_m_rows : Nat → Int32) (x5 : Int32) (n : Nat) (x3 : Int32) (x4 : Int32) (x6 : Int32) (x7 : Int32) (H : Heap) (locs : List Loc) (ls : Array Slot), gX7_plan_L63 m_told z_m_steps z_m_rows a2 x5 n x3 x4 x6 x7 = some (r0, r_m_steps, r_m_rows) → va_P (dC, dI) vwCl (wcM qa cI cJ cZ m_trace m_text m_typed m_told m_draft m_s m_past m_known m_images m_kept m_notes m_noted m_at m_sort m_start m_value z_m_steps z_m_rows m_held) H → va_D A (wcM qa cI cJ cZ m_trace m_text m_typed m_told m_draft m_s m_past m_known m_images m_kept m_notes m_noted m_at m_sort m_start m_value z_m_steps z_m_rows m_held) → va_S A s.heap H locs → lv_has ls 10 [(0, .ref (qa 0)), (2, .int a2), (3, .int x3), (4, .int x4), (5, .int x5), (6, .int x6), (7, .int x7)] → W p l e (headSpec wsX7_plan ({ frames := 5, cells := 0, slots := 0, locals := 119 } : Room)).room s m ([.ref (qa 0), .int a1, .int a2] : List Value).toArray below meth c H locs 0 0 (MQ below (wq_Wi (dC, dI) r0 wq_tr (wcM qa cI cJ cZ m_trace m_text m_typed m_told m_draft m_s m_past m_known m_images m_kept m_notes m_noted m_at m_sort m_start m_value r_m_steps r_m_rows m_held) A) ([.ref (qa 0), .int a1, .int a2] : List Value).toArray s 0 0 A) (F0 m 63 ls []) := by
    intro z_m_steps z_m_rows x5 n
    induction n with
    | zero =>
      intro x3 x4 x6 x7 H locs ls hG
      exact absurd (show (none : Option (Int32 × (Nat → Int32) × (Nat → Int32))) = some (r0, r_m_steps, r_m_rows) from hG) (by intro h9; cases h9)
    | succ n ih63 =>
      intro x3 x4 x6 x7 H locs ls hG hP hD hS hl
      rw [gX7_plan_L63] at hG
      refine lv_iload hx hb dX7_plan_63 (lv_at hl 6 rfl) ?_
      refine lv_iload_n hx hb dX7_plan_65 rfl (lv_at hl 1 rfl) ?_
      refine lv_icmp_gt (tgt := 156) hx hb dX7_plan_66 (by decide) (fun c1 => ?_) (fun c1 => ?_)
      · replace hG := wq_t c1 hG
        refine lv_iload_n hx hb dX7_plan_156 rfl (lv_at hl 1 rfl) ?_
        refine lv_iload hx hb dX7_plan_157 (lv_at hl 4 rfl) ?_
        refine lv_icmp_ge (tgt := 167) hx hb dX7_plan_159 (by decide) (fun c2 => ?_) (fun c2 => ?_)
        · replace hG := wq_t c2 hG
          refine lv_bipush (v := (-5)) hx hb dX7_plan_167 (by decide) ?_
          obtain ⟨e0, e1, e2⟩ := wq_j3 hG
          subst e0
          subst e1
          subst e2
          exact W.iret hx hb hr (fun t ht hW => ⟨⟨_, (), rfl, ⟨rfl, trivial⟩, by rw [ht]; exact hP, hD⟩, hS.F ht⟩) hS.2.2 dX7_plan_169
        · replace hG := wq_f c2 hG
          refine lv_iload hx hb dX7_plan_162 (lv_at hl 5 rfl) ?_
          refine lv_goto (tgt := 169) hx hb dX7_plan_164 (by decide) ?_
          obtain ⟨e0, e1, e2⟩ := wq_j3 hG
          subst e0
          subst e1
          subst e2
          exact W.iret hx hb hr (fun t ht hW => ⟨⟨_, (), rfl, ⟨rfl, trivial⟩, by rw [ht]; exact hP, hD⟩, hS.F ht⟩) hS.2.2 dX7_plan_169
      · replace hG := wq_f c1 hG
        refine lv_iload hx hb dX7_plan_69 (lv_at hl 6 rfl) ?_
        refine lv_iload hx hb dX7_plan_71 (lv_at hl 4 rfl) ?_
        refine lv_icmp_ge (tgt := 156) hx hb dX7_plan_73 (by decide) (fun c3 => ?_) (fun c3 => ?_)
        · replace hG := wq_t c3 hG
          refine lv_iload_n hx hb dX7_plan_156 rfl (lv_at hl 1 rfl) ?_
          refine lv_iload hx hb dX7_plan_157 (lv_at hl 4 rfl) ?_
          refine lv_icmp_ge (tgt := 167) hx hb dX7_plan_159 (by decide) (fun c4 => ?_) (fun c4 => ?_)
          · replace hG := wq_t c4 hG
            refine lv_bipush (v := (-5)) hx hb dX7_plan_167 (by decide) ?_
            obtain ⟨e0, e1, e2⟩ := wq_j3 hG
            subst e0
            subst e1
            subst e2
            exact W.iret hx hb hr (fun t ht hW => ⟨⟨_, (), rfl, ⟨rfl, trivial⟩, by rw [ht]; exact hP, hD⟩, hS.F ht⟩) hS.2.2 dX7_plan_169
          · replace hG := wq_f c4 hG
            refine lv_iload hx hb dX7_plan_162 (lv_at hl 5 rfl) ?_
            refine lv_goto (tgt := 169) hx hb dX7_plan_164 (by decide) ?_
            obtain ⟨e0, e1, e2⟩ := wq_j3 hG
            subst e0
            subst e1
            subst e2
            exact W.iret hx hb hr (fun t ht hW => ⟨⟨_, (), rfl, ⟨rfl, trivial⟩, by rw [ht]; exact hP, hD⟩, hS.F ht⟩) hS.2.2 dX7_plan_169
        · replace hG := wq_f c3 hG
          refine lv_iload hx hb dX7_plan_76 (lv_at hl 4 rfl) ?_
          refine lv_iload hx hb dX7_plan_78 (lv_at hl 6 rfl) ?_
          refine lv_isub hx hb dX7_plan_80 ?_
          refine lv_istore (lv' := [(8, .int (x5 - x7)), (0, .ref (qa 0)), (2, .int a2), (3, .int x3), (4, .int x4), (5, .int x5), (6, .int x6), (7, .int x7)]) hx hb dX7_plan_81 hl (by decide) rfl (fun ls hl => ?_)
          refine lv_aload_n hx hb dX7_plan_83 rfl (lv_at hl 1 rfl) ?_
          refine lv_iload_n hx hb dX7_plan_84 rfl (lv_at hl 3 rfl) ?_
          refine lv_iload hx hb dX7_plan_85 (lv_at hl 4 rfl) ?_
          refine lv_iload hx hb dX7_plan_87 (lv_at hl 0 rfl) ?_
          obtain ⟨v6, g5, hG⟩ := wq_b1_s hG
          refine wq_ci (v := v6) (B := wq_tr) (va_runV (As := [.int x3, .int x4, .int (x5 - x7)]) (rest := []) ⟨hx, hb, hml, hown, hts⟩ (C_X7_firstFrom l dC dI cI cJ cZ qa H.size m_trace m_text m_typed m_told m_draft m_s m_past m_known m_images m_kept m_notes m_noted m_at m_sort m_start m_value z_m_steps z_m_rows m_held x3 x4 (x5 - x7) v6 g5) (cwV 3 hts gX7_plan_X7_firstFrom rfl rfl rfl hdV_X7_firstFrom ⟨Nat.le_of_ble_eq_true rfl, Nat.le_of_ble_eq_true rfl⟩) (wq_ppV hK hP hE hS hA (ci := 7) (q0 := 0) rfl rfl) rfl rfl hl.1 rfl (lv_room (Nat.le_of_ble_eq_true rfl)) dX7_plan_89 ⟨Nat.zero_le _, Nat.zero_le _⟩) hS hA (fun H locs b7 hk hS => ?_)
          replace hP := wq_kp hP hk
          clear hk
          refine lv_istore (lv' := [(6, .int v6), (8, .int (x5 - x7)), (0, .ref (qa 0)), (2, .int a2), (3, .int x3), (4, .int x4), (5, .int x5), (7, .int x7)]) hx hb dX7_plan_92 hl (by decide) rfl (fun ls hl => ?_)
          refine lv_iload hx hb dX7_plan_94 (lv_at hl 0 rfl) ?_
          refine lv_bipush (v := 100) hx hb dX7_plan_96 (by decide) ?_
          refine lv_irem hx hb dX7_plan_98 (by decide) ?_
          refine lv_aload_n hx hb dX7_plan_99 rfl (lv_at hl 2 rfl) ?_
          refine lv_iload hx hb dX7_plan_100 (lv_at hl 0 rfl) ?_
          refine lv_bipush (v := 100) hx hb dX7_plan_102 (by decide) ?_
          refine lv_idiv hx hb dX7_plan_104 (by decide) ?_
          refine lv_iload_n hx hb dX7_plan_105 rfl (lv_at hl 4 rfl) ?_
          refine lv_iload hx hb dX7_plan_106 (lv_at hl 5 rfl) ?_
          obtain ⟨v9, g8, hG⟩ := wq_b1_s hG
          refine wq_ci (v := v9) (B := wq_tr) (va_runV (As := [.int (v6 / 100), .int x3, .int x4]) (rest := [.int (v6 - v6 / 100 * 100)]) ⟨hx, hb, hml, hown, hts⟩ (C_X7_calmTo l dC dI cI cJ cZ qa H.size m_trace m_text m_typed m_told m_draft m_s m_past m_known m_images m_kept m_notes m_noted m_at m_sort m_start m_value z_m_steps z_m_rows m_held (v6 / 100) x3 x4 v9 g8) (cwV 3 hts gX7_plan_X7_calmTo rfl rfl rfl hdV_X7_calmTo ⟨Nat.le_of_ble_eq_true rfl, Nat.le_of_ble_eq_true rfl⟩) (wq_ppV hK hP hE hS hA (ci := 7) (q0 := 0) rfl rfl) rfl rfl hl.1 rfl (lv_room (Nat.le_of_ble_eq_true rfl)) dX7_plan_108 ⟨Nat.zero_le _, Nat.zero_le _⟩) hS hA (fun H locs b10 hk hS => ?_)
          replace hP := wq_kp hP hk
          clear hk
          refine lv_icmp_gt (tgt := 129) hx hb dX7_plan_111 (by decide) (fun c11 => ?_) (fun c11 => ?_)
          · replace hG := wq_t c11 hG
            refine lv_iload_n hx hb dX7_plan_129 rfl (lv_at hl 4 rfl) ?_
            refine lv_iload hx hb dX7_plan_130 (lv_at hl 5 rfl) ?_
            obtain ⟨v13, g12, hG⟩ := wq_b1_s hG
            refine wq_ci (v := v13) (B := wq_tr) (va_runS (As := [.int x3, .int x4]) (rest := []) ⟨hx, hb, hml, hown, hts⟩ (C_X7_wildly l dC dI cI cJ cZ qa H.size  x3 x4 v13 g12) (va_cwS 2 hts gX7_plan_X7_wildly rfl rfl rfl hdS_X7_wildly ⟨Nat.le_of_ble_eq_true rfl, Nat.le_of_ble_eq_true rfl⟩) (wq_ppS hK (hP.sub (ws' := []) [] rfl) hE hS hA) rfl rfl hl.1 rfl (lv_room (Nat.le_of_ble_eq_true rfl)) dX7_plan_132 ⟨Nat.zero_le _, Nat.zero_le _⟩) hS hA (fun H locs b14 hk hS => ?_)
            replace hP := wq_kp hP hk
            clear hk
            refine lv_istore (lv' := [(9, .int v13), (6, .int v6), (8, .int (x5 - x7)), (0, .ref (qa 0)), (2, .int a2), (3, .int x3), (4, .int x4), (5, .int x5), (7, .int x7)]) hx hb dX7_plan_135 hl (by decide) rfl (fun ls hl => ?_)
            refine lv_iload hx hb dX7_plan_137 (lv_at hl 0 rfl) ?_
            refine lv_bipush (v := 10) hx hb dX7_plan_139 (by decide) ?_
            refine lv_idiv hx hb dX7_plan_141 (by decide) ?_
            refine lv_istore_n (lv' := [(3, .int (v13 / 10)), (9, .int v13), (6, .int v6), (8, .int (x5 - x7)), (0, .ref (qa 0)), (2, .int a2), (4, .int x4), (5, .int x5), (7, .int x7)]) hx hb dX7_plan_142 rfl hl (by decide) rfl (fun ls hl => ?_)
            refine lv_iload hx hb dX7_plan_143 (lv_at hl 1 rfl) ?_
            refine lv_bipush (v := 10) hx hb dX7_plan_145 (by decide) ?_
            refine lv_irem hx hb dX7_plan_147 (by decide) ?_
            refine lv_istore (lv' := [(4, .int (v13 - v13 / 10 * 10)), (3, .int (v13 / 10)), (9, .int v13), (6, .int v6), (8, .int (x5 - x7)), (0, .ref (qa 0)), (2, .int a2), (5, .int x5), (7, .int x7)]) hx hb dX7_plan_148 hl (by decide) rfl (fun ls hl => ?_)
            refine lv_iinc (v := (x7 + 1)) (lv' := [(7, .int (x7 + 1)), (4, .int (v13 - v13 / 10 * 10)), (3, .int (v13 / 10)), (9, .int v13), (6, .int v6), (8, .int (x5 - x7)), (0, .ref (qa 0)), (2, .int a2), (5, .int x5)]) hx hb dX7_plan_150 hl (k := 8) rfl rfl (by decide) rfl (fun ls hl => ?_)
            refine lv_goto (tgt := 63) hx hb dX7_plan_153 (by decide) ?_
            exact ih63 (v13 / 10) (v13 - v13 / 10 * 10) v6 (x7 + 1) _ _ _ hG hP hD hS (lv_sub hl [6, 7, 2, 1, 8, 4, 0] rfl)
          · replace hG := wq_f c11 hG
            refine lv_aload_n hx hb dX7_plan_114 rfl (lv_at hl 2 rfl) ?_
            refine lv_iload hx hb dX7_plan_115 (lv_at hl 0 rfl) ?_
            refine lv_bipush (v := 100) hx hb dX7_plan_117 (by decide) ?_
            refine lv_idiv hx hb dX7_plan_119 (by decide) ?_
            refine lv_iload_n hx hb dX7_plan_120 rfl (lv_at hl 4 rfl) ?_
            refine lv_iload hx hb dX7_plan_121 (lv_at hl 5 rfl) ?_
            obtain ⟨v16, g15, hG⟩ := wq_b1_s hG
            refine wq_ci (v := v16) (B := wq_tr) (va_runV (As := [.int (v6 / 100), .int x3, .int x4]) (rest := []) ⟨hx, hb, hml, hown, hts⟩ (C_X7_calmly l dC dI cI cJ cZ qa H.size m_trace m_text m_typed m_told m_draft m_s m_past m_known m_images m_kept m_notes m_noted m_at m_sort m_start m_value z_m_steps z_m_rows m_held (v6 / 100) x3 x4 v16 g15) (cwV 3 hts gX7_plan_X7_calmly rfl rfl rfl hdV_X7_calmly ⟨Nat.le_of_ble_eq_true rfl, Nat.le_of_ble_eq_true rfl⟩) (wq_ppV hK hP hE hS hA (ci := 7) (q0 := 0) rfl rfl) rfl rfl hl.1 rfl (lv_room (Nat.le_of_ble_eq_true rfl)) dX7_plan_123 ⟨Nat.zero_le _, Nat.zero_le _⟩) hS hA (fun H locs b17 hk hS => ?_)
            replace hP := wq_kp hP hk
            clear hk
            refine lv_goto (tgt := 135) hx hb dX7_plan_126 (by decide) ?_
            refine lv_istore (lv' := [(9, .int v16), (6, .int v6), (8, .int (x5 - x7)), (0, .ref (qa 0)), (2, .int a2), (3, .int x3), (4, .int x4), (5, .int x5), (7, .int x7)]) hx hb dX7_plan_135 hl (by decide) rfl (fun ls hl => ?_)
            refine lv_iload hx hb dX7_plan_137 (lv_at hl 0 rfl) ?_
            refine lv_bipush (v := 10) hx hb dX7_plan_139 (by decide) ?_
            refine lv_idiv hx hb dX7_plan_141 (by decide) ?_
            refine lv_istore_n (lv' := [(3, .int (v16 / 10)), (9, .int v16), (6, .int v6), (8, .int (x5 - x7)), (0, .ref (qa 0)), (2, .int a2), (4, .int x4), (5, .int x5), (7, .int x7)]) hx hb dX7_plan_142 rfl hl (by decide) rfl (fun ls hl => ?_)
            refine lv_iload hx hb dX7_plan_143 (lv_at hl 1 rfl) ?_
            refine lv_bipush (v := 10) hx hb dX7_plan_145 (by decide) ?_
            refine lv_irem hx hb dX7_plan_147 (by decide) ?_
            refine lv_istore (lv' := [(4, .int (v16 - v16 / 10 * 10)), (3, .int (v16 / 10)), (9, .int v16), (6, .int v6), (8, .int (x5 - x7)), (0, .ref (qa 0)), (2, .int a2), (5, .int x5), (7, .int x7)]) hx hb dX7_plan_148 hl (by decide) rfl (fun ls hl => ?_)
            refine lv_iinc (v := (x7 + 1)) (lv' := [(7, .int (x7 + 1)), (4, .int (v16 - v16 / 10 * 10)), (3, .int (v16 / 10)), (9, .int v16), (6, .int v6), (8, .int (x5 - x7)), (0, .ref (qa 0)), (2, .int a2), (5, .int x5)]) hx hb dX7_plan_150 hl (k := 8) rfl rfl (by decide) rfl (fun ls hl => ?_)
            refine lv_goto (tgt := 63) hx hb dX7_plan_153 (by decide) ?_
            exact ih63 (v16 / 10) (v16 - v16 / 10 * 10) v6 (x7 + 1) _ _ _ hG hP hD hS (lv_sub hl [6, 7, 2, 1, 8, 4, 0] rfl)
  unfold gX7_plan at hG
  refine lv_aload_n hx hb dX7_plan_0 rfl (lv_at hl 0 rfl) ?_
  refine lv_iload_n hx hb dX7_plan_1 rfl (lv_at hl 1 rfl) ?_
  obtain ⟨v19, g18, hG⟩ := wq_b1_s hG
  refine wq_ci (v := v19) (B := wq_Z1) (va_runV (As := [.int a1]) (rest := []) ⟨hx, hb, hml, hown, hts⟩ (C_X7_isWoman l dC dI cI cJ cZ qa s.heap.size m_trace m_text m_typed m_told m_draft m_s m_past m_known m_images m_kept m_notes m_noted m_at m_sort m_start m_value m_steps m_rows m_held a1 v19 g18) (cwV 1 hts gX7_plan_X7_isWoman rfl rfl rfl hdV_X7_isWoman ⟨Nat.le_of_ble_eq_true rfl, Nat.le_of_ble_eq_true rfl⟩) (wq_ppV hK hP hE hS hA (ci := 7) (q0 := 0) rfl rfl) rfl rfl hl.1 rfl (lv_room (Nat.le_of_ble_eq_true rfl)) dX7_plan_2 ⟨Nat.zero_le _, Nat.zero_le _⟩) hS hA (fun H locs b20 hk hS => ?_)
  replace hP := wq_kp hP hk
  clear hk
  refine lv_if_eq (tgt := 13) hx hb dX7_plan_5 (by decide) (fun c21 => ?_) (fun c21 => ?_)
  · replace hG := wq_t c21 hG
    refine lv_iconst (v := (-1)) hx hb dX7_plan_13 (by decide) ?_
    obtain ⟨e0, e1, e2⟩ := wq_j3 hG
    subst e0
    subst e1
    subst e2
    exact W.iret hx hb hr (fun t ht hW => ⟨⟨_, (), rfl, ⟨rfl, trivial⟩, by rw [ht]; exact hP, hD⟩, hS.F ht⟩) hS.2.2 dX7_plan_14
  · replace hG := wq_f c21 hG
    refine lv_iload_n hx hb dX7_plan_8 rfl (lv_at hl 2 rfl) ?_
    refine lv_iconst (v := (-1)) hx hb dX7_plan_9 (by decide) ?_
    refine lv_icmp_ge (tgt := 15) hx hb dX7_plan_10 (by decide) (fun c22 => ?_) (fun c22 => ?_)
    · replace hG := wq_t c22 hG
      refine lv_aload_n hx hb dX7_plan_15 rfl (lv_at hl 0 rfl) ?_
      refine va_get (D := (dC, dI)) (ci := 7) (v := .ref (qa 4)) (C := RX7) (T := TX7) (N := 19) hx hb hts hinX7 hown hK hP 0 rfl rfl 5 (by decide) k1 (fun _ h9 => h9) rfl dX7_plan_16 ?_
      refine lv_iconst (v := 1) hx hb dX7_plan_19 (by decide) ?_
      refine wq_iald (D := (dC, dI)) hx hb hK hP 4 0 rfl rfl (wq_lit (by decide)) 1 rfl dX7_plan_20 ?_
      refine lv_istore_n (lv' := [(3, .int (m_s 1)), (0, .ref (qa 0)), (1, .int a1), (2, .int a2)]) hx hb dX7_plan_21 rfl hl (by decide) rfl (fun ls hl => ?_)
      refine lv_aload_n hx hb dX7_plan_22 rfl (lv_at hl 1 rfl) ?_
      refine va_get (D := (dC, dI)) (ci := 7) (v := .ref (qa 4)) (C := RX7) (T := TX7) (N := 19) hx hb hts hinX7 hown hK hP 0 rfl rfl 5 (by decide) k1 (fun _ h9 => h9) rfl dX7_plan_23 ?_
      refine lv_iconst (v := 4) hx hb dX7_plan_26 (by decide) ?_
      refine lv_iload_n hx hb dX7_plan_27 rfl (lv_at hl 2 rfl) ?_
      refine lv_iadd hx hb dX7_plan_28 ?_
      obtain ⟨h23, hG⟩ := wq_chk_s hG
      refine wq_iald (D := (dC, dI)) hx hb hK hP 4 0 rfl rfl h23 (Int32.toNatClampNeg (4 + a1)) rfl dX7_plan_29 ?_
      refine lv_istore (lv' := [(4, .int (m_s (Int32.toNatClampNeg (4 + a1)))), (3, .int (m_s 1)), (0, .ref (qa 0)), (1, .int a1), (2, .int a2)]) hx hb dX7_plan_30 hl (by decide) rfl (fun ls hl => ?_)
      refine lv_aload_n hx hb dX7_plan_32 rfl (lv_at hl 2 rfl) ?_
      refine lv_iload_n hx hb dX7_plan_33 rfl (lv_at hl 1 rfl) ?_
      refine lv_iload hx hb dX7_plan_34 (lv_at hl 0 rfl) ?_
      obtain ⟨v25, w26, w27, g24, hG⟩ := wq_b3_s hG
      have hFc := va_free (wc := wcM qa cI cJ cZ m_trace m_text m_typed m_told m_draft m_s m_past m_known m_images m_kept m_notes m_noted m_at m_sort m_start m_value m_steps m_rows m_held) hD hS hA [0, 1, 2, 3, 4, 5, 6, 7, 8, 9, 10, 11] rfl
      refine wq_di (D := (dC, dI)) (v := v25) (B := wq_tr) (wr := []) (w1 := wcM qa cI cJ cZ m_trace m_text m_typed m_told m_draft m_s m_past m_known m_images m_kept m_notes m_noted m_at m_sort m_start m_value w26 w27 m_held) (w2 := wcM qa cI cJ cZ m_trace m_text m_typed m_told m_draft m_s m_past m_known m_images m_kept m_notes m_noted m_at m_sort m_start m_value w26 w27 m_held) (va_runV (As := [.int (m_s 1), .int (m_s (Int32.toNatClampNeg (4 + a1)))]) (rest := []) ⟨hx, hb, hml, hown, hts⟩ (C_X7_reckons l dC dI cI cJ cZ qa H.size m_trace m_text m_typed m_told m_draft m_s m_past m_known m_images m_kept m_notes m_noted m_at m_sort m_start m_value m_steps m_rows m_held (m_s 1) (m_s (Int32.toNatClampNeg (4 + a1))) v25 w26 w27 g24) (cwV 2 hts gX7_plan_X7_reckons rfl rfl rfl hdV_X7_reckons ⟨Nat.le_of_ble_eq_true rfl, Nat.le_of_ble_eq_true rfl⟩) (wq_pwV hK hP hD hE hS hFc (ci := 7) (q0 := 0) rfl rfl) rfl rfl hl.1 rfl (lv_room (Nat.le_of_ble_eq_true rfl)) dX7_plan_36 ⟨Nat.zero_le _, Nat.zero_le _⟩) hP hD hS hFc [0, 1, 2, 3, 4, 5, 6, 7, 8, 9, 10, 11] [] [0, 1, 2, 3, 4, 5, 6, 7, 8, 9, 10, 11] rfl rfl (by decide) (by decide) (by decide) rfl (fun H locs b28 hP hD hS => ?_)
      clear hFc
      refine lv_istore (lv' := [(5, .int v25), (4, .int (m_s (Int32.toNatClampNeg (4 + a1)))), (3, .int (m_s 1)), (0, .ref (qa 0)), (1, .int a1), (2, .int a2)]) hx hb dX7_plan_39 hl (by decide) rfl (fun ls hl => ?_)
      refine lv_iload hx hb dX7_plan_41 (lv_at hl 0 rfl) ?_
      refine lv_bipush (v := (-9)) hx hb dX7_plan_43 (by decide) ?_
      refine lv_icmp_eq (tgt := 53) hx hb dX7_plan_45 (by decide) (fun c29 => ?_) (fun c29 => ?_)
      · replace hG := wq_t c29 hG
        refine lv_iload hx hb dX7_plan_53 (lv_at hl 0 rfl) ?_
        obtain ⟨e0, e1, e2⟩ := wq_j3 hG
        subst e0
        subst e1
        subst e2
        exact W.iret hx hb hr (fun t ht hW => ⟨⟨_, (), rfl, ⟨rfl, trivial⟩, by rw [ht]; exact hP, hD⟩, hS.F ht⟩) hS.2.2 dX7_plan_55
      · replace hG := wq_f c29 hG
        refine lv_iload_n hx hb dX7_plan_48 rfl (lv_at hl 5 rfl) ?_
        refine lv_iconst (v := (-1)) hx hb dX7_plan_49 (by decide) ?_
        refine lv_icmp_ne (tgt := 56) hx hb dX7_plan_50 (by decide) (fun c30 => ?_) (fun c30 => ?_)
        · replace hG := wq_f c30 hG
          refine lv_bipush (v := (-5)) hx hb dX7_plan_56 (by decide) ?_
          refine lv_istore (lv' := [(6, .int (-5)), (5, .int v25), (4, .int (m_s (Int32.toNatClampNeg (4 + a1)))), (3, .int (m_s 1)), (0, .ref (qa 0)), (1, .int a1), (2, .int a2)]) hx hb dX7_plan_58 hl (by decide) rfl (fun ls hl => ?_)
          refine lv_iconst (v := 0) hx hb dX7_plan_60 (by decide) ?_
          refine lv_istore (lv' := [(7, .int 0), (6, .int (-5)), (5, .int v25), (4, .int (m_s (Int32.toNatClampNeg (4 + a1)))), (3, .int (m_s 1)), (0, .ref (qa 0)), (1, .int a1), (2, .int a2)]) hx hb dX7_plan_61 hl (by decide) rfl (fun ls hl => ?_)
          exact hL63 w26 w27 v25 1000 (m_s 1) (m_s (Int32.toNatClampNeg (4 + a1))) (-5) 0 _ _ _ hG hP hD hS (lv_sub hl [5, 7, 4, 3, 2, 1, 0] rfl)
        · replace hG := wq_t c30 hG
          refine lv_iload hx hb dX7_plan_53 (lv_at hl 0 rfl) ?_
          obtain ⟨e0, e1, e2⟩ := wq_j3 hG
          subst e0
          subst e1
          subst e2
          exact W.iret hx hb hr (fun t ht hW => ⟨⟨_, (), rfl, ⟨rfl, trivial⟩, by rw [ht]; exact hP, hD⟩, hS.F ht⟩) hS.2.2 dX7_plan_55
    · replace hG := wq_f c22 hG
      refine lv_iconst (v := (-1)) hx hb dX7_plan_13 (by decide) ?_
      obtain ⟨e0, e1, e2⟩ := wq_j3 hG
      subst e0
      subst e1
      subst e2
      exact W.iret hx hb hr (fun t ht hW => ⟨⟨_, (), rfl, ⟨rfl, trivial⟩, by rw [ht]; exact hP, hD⟩, hS.F ht⟩) hS.2.2 dX7_plan_14

