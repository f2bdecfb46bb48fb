theorem hdV_X4_readNumber : yX4_readNumber.cls = RX4 ∧ yX4_readNumber.cls ≠ "java/lang/invoke/MethodHandle" ∧ yX4_readNumber.cls ≠ "java/lang/invoke/VarHandle" ∧ (parseMethodDescriptor yX4_readNumber.desc).map (fun d => d.parameters.length) = some 2 := by decide +kernel
set_option maxHeartbeats 4000000 in
set_option maxRecDepth 100000 in
theorem C_X4_readNumber (l : Launch) (dC : Nat → ClassId) (dI : Nat → Nat → Nat) (cI cJ cZ : ClassId) (qa : Nat → Nat) (sz : Nat) (x_letters : Nat → Int32) (x_size : Int32) (x_place : Int32) (x_fault : Int32) (x_stold : Int32) (a1 : Int32) (a2 : Int32) (r0 : Int32) (r_x_place : Int32) (r_x_fault : Int32) (hG : gX4_readNumber x_letters x_size x_place x_fault a1 a2 = some (r0, r_x_place, r_x_fault)) : Met l yX4_readNumber wsX4_readNumber ({ frames := 2, cells := 0, slots := 0, locals := 41 } : Room) (va_Pc [.ref (qa 1), .int a1, .int a2] (wq_pw (dC, dI) [(cI, .int), (cJ, .long), (cZ, .boolean)] (wcX qa cI cJ cZ x_letters x_size x_place x_fault x_stold) sz)) (wq_Wi (dC, dI) r0 wq_tr (wcX qa cI cJ cZ x_letters x_size r_x_place r_x_fault x_stold) (va_A (wcX qa cI cJ cZ x_letters x_size x_place x_fault x_stold) sz)) 0 0 (va_A (wcX qa cI cJ cZ x_letters x_size x_place x_fault x_stold) sz) := by
  refine Met.ofW (cc := cX4_readNumber) (maxL := 7) (ret := (some .int)) (by decide) rfl ?_
  intro p e s m args below meth c s₁ B hml hv
  obtain ⟨rfl, hsz, hP, hK, hD0, hE⟩ := hv
  have hx := B.exec
  have hb := B.bytes
  have hr := B.returns
  have hts := atoms_spec (ws := wsX4_readNumber) B.pre
  have hown : s.vm.findClass RX4 = some m.cls := findClass_of_methodNamed B.named
  have hlocks := B.notSynchronized
  subst hsz
  have hD := hD0.self (sz := s.heap.size)
  generalize hAe : va_A (wcX qa cI cJ cZ x_letters x_size x_place x_fault x_stold) s.heap.size = A at hD hE ⊢
  have hA : ∀ q : Nat, s.heap.size ≤ q → A q := fun q h => by rw [← hAe]; exact Or.inr h
  have hS : va_S A s.heap s.heap [] := va_S.rf
  have hinX4 : ∀ w ∈ u_ws RX4 TX4 5, w ∈ wsX4_readNumber := by decide +kernel
  have k1 := hts (.fieldLink RX4 19 "DoorMornings$Text" "place" "I") (by decide +kernel)
  have k2 := hts (.fieldLink RX4 15 "DoorMornings$Text" "size" "I") (by decide +kernel)
  have k3 := hts (.methodLink RX4 89 Lib.Math.min.name) (by decide +kernel)
  have k4 := hts (.static Lib.Math.min.name) (by decide +kernel)
  have k5 := hts (.initialized "java/lang/Math") (by decide +kernel)
  have k6 := hts (.code Lib.Math.min.name Lib.Math.min.code 2 (some .int)) (by decide +kernel)
  have hl := lv_entry ([.ref (qa 1), .int a1, .int a2]) (n := 7) (Nat.le_of_ble_eq_true rfl)
  rw [lg_entry_eq]
  generalize (lg_sl ([.ref (qa 1), .int a1, .int a2]) ++ List.replicate (7 - (lg_sl ([.ref (qa 1), .int a1, .int a2])).length) Slot.unset).toArray = ls at hl ⊢
  have hl : lv_has ls 7 [(0, .ref (qa 1)), (1, .int a1), (2, .int a2)] := hl
  have hL12 : ∀ (z_x_fault : Int32) (x3 : Int32) (n : Nat) (x4 : Int32) (z_x_place : Int32) (H : Heap) (locs : List Loc) (ls : Array Slot), gX4_readNumber_L12 x_letters x_size z_x_fault a1 a2 x3 n x4 z_x_place = some (r0, r_x_place, r_x_fault) → va_P (dC, dI) vwCl (wcX qa cI cJ cZ x_letters x_size z_x_place z_x_fault x_stold) H → va_D A (wcX qa cI cJ cZ x_letters x_size z_x_place z_x_fault x_stold) → va_S A s.heap H locs → lv_has ls 7 [(0, .ref (qa 1)), (1, .int a1), (2, .int a2), (3, .int x3), (4, .int x4)] → W p l e (headSpec wsX4_readNumber ({ frames := 2, cells := 0, slots := 0, locals := 41 } : Room)).room s m ([.ref (qa 1), .int a1, .int a2] : List Value).toArray below meth c H locs 0 0 (MQ below (wq_Wi (dC, dI) r0 wq_tr (wcX qa cI cJ cZ x_letters x_size r_x_place r_x_fault x_stold) A) ([.ref (qa 1), .int a1, .int a2] : List Value).toArray s 0 0 A) (F0 m 12 ls []) := by
    intro z_x_fault x3 n
    induction n with
    | zero =>
      intro x4 z_x_place H locs ls hG
      exact absurd (show (none : Option (Int32 × Int32 × Int32)) = some (r0, r_x_place, r_x_fault) from hG) (by intro h9; cases h9)
    | succ n ih12 =>
      intro x4 z_x_place H locs ls hG hP hD hS hl
      rw [gX4_readNumber_L12] at hG
      refine lv_aload_n hx hb dX4_readNumber_12 rfl (lv_at hl 0 rfl) ?_
      refine va_get (D := (dC, dI)) (ci := 4) (v := .int z_x_place) (C := RX4) (T := TX4) (N := 5) hx hb hts hinX4 hown hK hP 0 rfl rfl 2 (by decide) k1 (fun _ h9 => h9) rfl dX4_readNumber_13 ?_
      refine lv_aload_n hx hb dX4_readNumber_16 rfl (lv_at hl 0 rfl) ?_
      refine va_get (D := (dC, dI)) (ci := 4) (v := .int x_size) (C := RX4) (T := TX4) (N := 5) hx hb hts hinX4 hown hK hP 0 rfl rfl 1 (by decide) k2 (fun _ h9 => h9) rfl dX4_readNumber_17 ?_
      refine lv_icmp_ge (tgt := 86) hx hb dX4_readNumber_20 (by decide) (fun c1 => ?_) (fun c1 => ?_)
      · replace hG := wq_t c1 hG
        refine lv_aload_n hx hb dX4_readNumber_86 rfl (lv_at hl 0 rfl) ?_
        refine va_get (D := (dC, dI)) (ci := 4) (v := .int z_x_place) (C := RX4) (T := TX4) (N := 5) hx hb hts hinX4 hown hK hP 0 rfl rfl 2 (by decide) k1 (fun _ h9 => h9) rfl dX4_readNumber_87 ?_
        refine lv_iload_n hx hb dX4_readNumber_90 rfl (lv_at hl 3 rfl) ?_
        refine lv_isub hx hb dX4_readNumber_91 ?_
        refine lv_istore (lv' := [(5, .int (z_x_place - x3)), (0, .ref (qa 1)), (1, .int a1), (2, .int a2), (3, .int x3), (4, .int x4)]) hx hb dX4_readNumber_92 hl (by decide) rfl (fun ls hl => ?_)
        refine lv_iload hx hb dX4_readNumber_94 (lv_at hl 0 rfl) ?_
        refine lv_iconst (v := 1) hx hb dX4_readNumber_96 (by decide) ?_
        refine lv_icmp_le (tgt := 114) hx hb dX4_readNumber_97 (by decide) (fun c2 => ?_) (fun c2 => ?_)
        · replace hG := wq_t c2 hG
          refine lv_iconst (v := 0) hx hb dX4_readNumber_114 (by decide) ?_
          refine lv_istore (lv' := [(6, .int 0), (5, .int (z_x_place - x3)), (0, .ref (qa 1)), (1, .int a1), (2, .int a2), (3, .int x3), (4, .int x4)]) hx hb dX4_readNumber_115 hl (by decide) rfl (fun ls hl => ?_)
          refine lv_iload hx hb dX4_readNumber_117 (lv_at hl 1 rfl) ?_
          refine lv_iconst (v := 1) hx hb dX4_readNumber_119 (by decide) ?_
          refine lv_icmp_lt (tgt := 140) hx hb dX4_readNumber_120 (by decide) (fun c3 => ?_) (fun c3 => ?_)
          · replace hG := wq_t c3 hG
            refine lv_aload_n hx hb dX4_readNumber_140 rfl (lv_at hl 2 rfl) ?_
            refine lv_iload_n hx hb dX4_readNumber_141 rfl (lv_at hl 5 rfl) ?_
            obtain ⟨v5, w6, g4, hG⟩ := wq_b2_s hG
            have hFc := va_free (wc := wcX qa cI cJ cZ x_letters x_size z_x_place z_x_fault x_stold) hD hS hA [0, 1] rfl
            refine wq_di (D := (dC, dI)) (v := v5) (B := wq_Z1) (wr := []) (w1 := wcX qa cI cJ cZ x_letters x_size z_x_place w6 x_stold) (w2 := wcX qa cI cJ cZ x_letters x_size z_x_place w6 x_stold) (va_runV (As := [.int x3]) (rest := []) ⟨hx, hb, hml, hown, hts⟩ (C_X4_failsAt l dC dI cI cJ cZ qa H.size x_letters x_size z_x_place z_x_fault x_stold x3 v5 w6 g4) (cwV 1 hts gX4_readNumber_X4_failsAt rfl rfl rfl hdV_X4_failsAt ⟨Nat.le_of_ble_eq_true rfl, Nat.le_of_ble_eq_true rfl⟩) (wq_pwV hK hP hD hE hS hFc (ci := 4) (q0 := 0) rfl rfl) rfl rfl hl.1 rfl (lv_room (Nat.le_of_ble_eq_true rfl)) dX4_readNumber_142 ⟨Nat.zero_le _, Nat.zero_le _⟩) hP hD hS hFc [0, 1] [] [0, 1] rfl rfl (by decide) (by decide) (by decide) rfl (fun H locs b7 hP hD hS => ?_)
            clear hFc
            refine lv_pop hx hb dX4_readNumber_145 rfl ?_
            refine lv_iconst (v := (-1)) hx hb dX4_readNumber_146 (by decide) ?_
            obtain ⟨e0, e1, e2⟩ := wq_j3 hG
            subst e0
            subst e1
            subst e2
            exact W.iret hx hb hr (fun t ht hW => ⟨⟨_, (), rfl, ⟨rfl, trivial⟩, by rw [ht]; exact hP, hD⟩, hS.F ht⟩) hS.2.2 dX4_readNumber_147
          · replace hG := wq_f c3 hG
            refine lv_iload hx hb dX4_readNumber_123 (lv_at hl 0 rfl) ?_
            refine lv_if_ne (tgt := 140) hx hb dX4_readNumber_125 (by decide) (fun c8 => absurd (by decide) c8) (fun c8 => ?_)
            refine lv_iload hx hb dX4_readNumber_128 (lv_at hl 6 rfl) ?_
            refine lv_iload_n hx hb dX4_readNumber_130 rfl (lv_at hl 3 rfl) ?_
            refine lv_icmp_lt (tgt := 140) hx hb dX4_readNumber_131 (by decide) (fun c9 => ?_) (fun c9 => ?_)
            · replace hG := wq_t c9 hG
              refine lv_aload_n hx hb dX4_readNumber_140 rfl (lv_at hl 2 rfl) ?_
              refine lv_iload_n hx hb dX4_readNumber_141 rfl (lv_at hl 5 rfl) ?_
              obtain ⟨v11, w12, g10, hG⟩ := wq_b2_s hG
              have hFc := va_free (wc := wcX qa cI cJ cZ x_letters x_size z_x_place z_x_fault x_stold) hD hS hA [0, 1] rfl
              refine wq_di (D := (dC, dI)) (v := v11) (B := wq_Z1) (wr := []) (w1 := wcX qa cI cJ cZ x_letters x_size z_x_place w12 x_stold) (w2 := wcX qa cI cJ cZ x_letters x_size z_x_place w12 x_stold) (va_runV (As := [.int x3]) (rest := []) ⟨hx, hb, hml, hown, hts⟩ (C_X4_failsAt l dC dI cI cJ cZ qa H.size x_letters x_size z_x_place z_x_fault x_stold x3 v11 w12 g10) (cwV 1 hts gX4_readNumber_X4_failsAt rfl rfl rfl hdV_X4_failsAt ⟨Nat.le_of_ble_eq_true rfl, Nat.le_of_ble_eq_true rfl⟩) (wq_pwV hK hP hD hE hS hFc (ci := 4) (q0 := 0) rfl rfl) rfl rfl hl.1 rfl (lv_room (Nat.le_of_ble_eq_true rfl)) dX4_readNumber_142 ⟨Nat.zero_le _, Nat.zero_le _⟩) hP hD hS hFc [0, 1] [] [0, 1] rfl rfl (by decide) (by decide) (by decide) rfl (fun H locs b13 hP hD hS => ?_)
              clear hFc
              refine lv_pop hx hb dX4_readNumber_145 rfl ?_
              refine lv_iconst (v := (-1)) hx hb dX4_readNumber_146 (by decide) ?_
              obtain ⟨e0, e1, e2⟩ := wq_j3 hG
              subst e0
              subst e1
              subst e2
              exact W.iret hx hb hr (fun t ht hW => ⟨⟨_, (), rfl, ⟨rfl, trivial⟩, by rw [ht]; exact hP, hD⟩, hS.F ht⟩) hS.2.2 dX4_readNumber_147
            · replace hG := wq_f c9 hG
              refine lv_iload hx hb dX4_readNumber_134 (lv_at hl 6 rfl) ?_
              refine lv_iload_n hx hb dX4_readNumber_136 rfl (lv_at hl 4 rfl) ?_
              refine lv_icmp_le (tgt := 148) hx hb dX4_readNumber_137 (by decide) (fun c14 => ?_) (fun c14 => ?_)
              · replace hG := wq_t c14 hG
                refine lv_iload hx hb dX4_readNumber_148 (lv_at hl 6 rfl) ?_
                obtain ⟨e0, e1, e2⟩ := wq_j3 hG
                subst e0
                subst e1
                subst e2
                exact W.iret hx hb hr (fun t ht hW => ⟨⟨_, (), rfl, ⟨rfl, trivial⟩, by rw [ht]; exact hP, hD⟩, hS.F ht⟩) hS.2.2 dX4_readNumber_150
              · replace hG := wq_f c14 hG
                refine lv_aload_n hx hb dX4_readNumber_140 rfl (lv_at hl 2 rfl) ?_
                refine lv_iload_n hx hb dX4_readNumber_141 rfl (lv_at hl 5 rfl) ?_
                obtain ⟨v16, w17, g15, hG⟩ := wq_b2_s hG
                have hFc := va_free (wc := wcX qa cI cJ cZ x_letters x_size z_x_place z_x_fault x_stold) hD hS hA [0, 1] rfl
                refine wq_di (D := (dC, dI)) (v := v16) (B := wq_Z1) (wr := []) (w1 := wcX qa cI cJ cZ x_letters x_size z_x_place w17 x_stold) (w2 := wcX qa cI cJ cZ x_letters x_size z_x_place w17 x_stold) (va_runV (As := [.int x3]) (rest := []) ⟨hx, hb, hml, hown, hts⟩ (C_X4_failsAt l dC dI cI cJ cZ qa H.size x_letters x_size z_x_place z_x_fault x_stold x3 v16 w17 g15) (cwV 1 hts gX4_readNumber_X4_failsAt rfl rfl rfl hdV_X4_failsAt ⟨Nat.le_of_ble_eq_true rfl, Nat.le_of_ble_eq_true rfl⟩) (wq_pwV hK hP hD hE hS hFc (ci := 4) (q0 := 0) rfl rfl) rfl rfl hl.1 rfl (lv_room (Nat.le_of_ble_eq_true rfl)) dX4_readNumber_142 ⟨Nat.zero_le _, Nat.zero_le _⟩) hP hD hS hFc [0, 1] [] [0, 1] rfl rfl (by decide) (by decide) (by decide) rfl (fun H locs b18 hP hD hS => ?_)
                clear hFc
                refine lv_pop hx hb dX4_readNumber_145 rfl ?_
                refine lv_iconst (v := (-1)) hx hb dX4_readNumber_146 (by decide) ?_
                obtain ⟨e0, e1, e2⟩ := wq_j3 hG
                subst e0
                subst e1
                subst e2
                exact W.iret hx hb hr (fun t ht hW => ⟨⟨_, (), rfl, ⟨rfl, trivial⟩, by rw [ht]; exact hP, hD⟩, hS.F ht⟩) hS.2.2 dX4_readNumber_147
        · replace hG := wq_f c2 hG
          refine lv_aload_n hx hb dX4_readNumber_100 rfl (lv_at hl 1 rfl) ?_
          refine lv_iload_n hx hb dX4_readNumber_101 rfl (lv_at hl 4 rfl) ?_
          obtain ⟨v20, g19, hG⟩ := wq_b1_s hG
          refine wq_ci (v := v20) (B := wq_tr) (va_runV (As := [.int x3]) (rest := []) ⟨hx, hb, hml, hown, hts⟩ (C_X4_letterAt l dC dI cI cJ cZ qa H.size x_letters x_size z_x_place z_x_fault x_stold x3 v20 g19) (cwV 1 hts gX4_readNumber_X4_letterAt rfl rfl rfl hdV_X4_letterAt ⟨Nat.le_of_ble_eq_true rfl, Nat.le_of_ble_eq_true rfl⟩) (wq_ppV hK hP hE hS hA (ci := 4) (q0 := 0) rfl rfl) rfl rfl hl.1 rfl (lv_room (Nat.le_of_ble_eq_true rfl)) dX4_readNumber_102 ⟨Nat.zero_le _, Nat.zero_le _⟩) hS hA (fun H locs b21 hk hS => ?_)
          replace hP := wq_kp hP hk
          clear hk
          refine lv_bipush (v := 48) hx hb dX4_readNumber_105 (by decide) ?_
          refine lv_icmp_ne (tgt := 114) hx hb dX4_readNumber_107 (by decide) (fun c22 => ?_) (fun c22 => ?_)
          · replace hG := wq_f c22 hG
            refine lv_iconst (v := 0) hx hb dX4_readNumber_114 (by decide) ?_
            refine lv_istore (lv' := [(6, .int 0), (5, .int (z_x_place - x3)), (0, .ref (qa 1)), (1, .int a1), (2, .int a2), (3, .int x3), (4, .int x4)]) hx hb dX4_readNumber_115 hl (by decide) rfl (fun ls hl => ?_)
            refine lv_iload hx hb dX4_readNumber_117 (lv_at hl 1 rfl) ?_
            refine lv_iconst (v := 1) hx hb dX4_readNumber_119 (by decide) ?_
            refine lv_icmp_lt (tgt := 140) hx hb dX4_readNumber_120 (by decide) (fun c23 => ?_) (fun c23 => ?_)
            · replace hG := wq_t c23 hG
              refine lv_aload_n hx hb dX4_readNumber_140 rfl (lv_at hl 2 rfl) ?_
              refine lv_iload_n hx hb dX4_readNumber_141 rfl (lv_at hl 5 rfl) ?_
              obtain ⟨v25, w26, g24, hG⟩ := wq_b2_s hG
              have hFc := va_free (wc := wcX qa cI cJ cZ x_letters x_size z_x_place z_x_fault x_stold) hD hS hA [0, 1] rfl
              refine wq_di (D := (dC, dI)) (v := v25) (B := wq_Z1) (wr := []) (w1 := wcX qa cI cJ cZ x_letters x_size z_x_place w26 x_stold) (w2 := wcX qa cI cJ cZ x_letters x_size z_x_place w26 x_stold) (va_runV (As := [.int x3]) (rest := []) ⟨hx, hb, hml, hown, hts⟩ (C_X4_failsAt l dC dI cI cJ cZ qa H.size x_letters x_size z_x_place z_x_fault x_stold x3 v25 w26 g24) (cwV 1 hts gX4_readNumber_X4_failsAt rfl rfl rfl hdV_X4_failsAt ⟨Nat.le_of_ble_eq_true rfl, Nat.le_of_ble_eq_true rfl⟩) (wq_pwV hK hP hD hE hS hFc (ci := 4) (q0 := 0) rfl rfl) rfl rfl hl.1 rfl (lv_room (Nat.le_of_ble_eq_true rfl)) dX4_readNumber_142 ⟨Nat.zero_le _, Nat.zero_le _⟩) hP hD hS hFc [0, 1] [] [0, 1] rfl rfl (by decide) (by decide) (by decide) rfl (fun H locs b27 hP hD hS => ?_)
              clear hFc
              refine lv_pop hx hb dX4_readNumber_145 rfl ?_
              refine lv_iconst (v := (-1)) hx hb dX4_readNumber_146 (by decide) ?_
              obtain ⟨e0, e1, e2⟩ := wq_j3 hG
              subst e0
              subst e1
              subst e2
              exact W.iret hx hb hr (fun t ht hW => ⟨⟨_, (), rfl, ⟨rfl, trivial⟩, by rw [ht]; exact hP, hD⟩, hS.F ht⟩) hS.2.2 dX4_readNumber_147
            · replace hG := wq_f c23 hG
              refine lv_iload hx hb dX4_readNumber_123 (lv_at hl 0 rfl) ?_
              refine lv_if_ne (tgt := 140) hx hb dX4_readNumber_125 (by decide) (fun c28 => absurd (by decide) c28) (fun c28 => ?_)
              refine lv_iload hx hb dX4_readNumber_128 (lv_at hl 6 rfl) ?_
              refine lv_iload_n hx hb dX4_readNumber_130 rfl (lv_at hl 3 rfl) ?_
              refine lv_icmp_lt (tgt := 140) hx hb dX4_readNumber_131 (by decide) (fun c29 => ?_) (fun c29 => ?_)
              · replace hG := wq_t c29 hG
                refine lv_aload_n hx hb dX4_readNumber_140 rfl (lv_at hl 2 rfl) ?_
                refine lv_iload_n hx hb dX4_readNumber_141 rfl (lv_at hl 5 rfl) ?_
                obtain ⟨v31, w32, g30, hG⟩ := wq_b2_s hG
                have hFc := va_free (wc := wcX qa cI cJ cZ x_letters x_size z_x_place z_x_fault x_stold) hD hS hA [0, 1] rfl
                refine wq_di (D := (dC, dI)) (v := v31) (B := wq_Z1) (wr := []) (w1 := wcX qa cI cJ cZ x_letters x_size z_x_place w32 x_stold) (w2 := wcX qa cI cJ cZ x_letters x_size z_x_place w32 x_stold) (va_runV (As := [.int x3]) (rest := []) ⟨hx, hb, hml, hown, hts⟩ (C_X4_failsAt l dC dI cI cJ cZ qa H.size x_letters x_size z_x_place z_x_fault x_stold x3 v31 w32 g30) (cwV 1 hts gX4_readNumber_X4_failsAt rfl rfl rfl hdV_X4_failsAt ⟨Nat.le_of_ble_eq_true rfl, Nat.le_of_ble_eq_true rfl⟩) (wq_pwV hK hP hD hE hS hFc (ci := 4) (q0 := 0) rfl rfl) rfl rfl hl.1 rfl (lv_room (Nat.le_of_ble_eq_true rfl)) dX4_readNumber_142 ⟨Nat.zero_le _, Nat.zero_le _⟩) hP hD hS hFc [0, 1] [] [0, 1] rfl rfl (by decide) (by decide) (by decide) rfl (fun H locs b33 hP hD hS => ?_)
                clear hFc
                refine lv_pop hx hb dX4_readNumber_145 rfl ?_
                refine lv_iconst (v := (-1)) hx hb dX4_readNumber_146 (by decide) ?_
                obtain ⟨e0, e1, e2⟩ := wq_j3 hG
                subst e0
                subst e1
                subst e2
                exact W.iret hx hb hr (fun t ht hW => ⟨⟨_, (), rfl, ⟨rfl, trivial⟩, by rw [ht]; exact hP, hD⟩, hS.F ht⟩) hS.2.2 dX4_readNumber_147
              · replace hG := wq_f c29 hG
                refine lv_iload hx hb dX4_readNumber_134 (lv_at hl 6 rfl) ?_
                refine lv_iload_n hx hb dX4_readNumber_136 rfl (lv_at hl 4 rfl) ?_
                refine lv_icmp_le (tgt := 148) hx hb dX4_readNumber_137 (by decide) (fun c34 => ?_) (fun c34 => ?_)
                · replace hG := wq_t c34 hG
                  refine lv_iload hx hb dX4_readNumber_148 (lv_at hl 6 rfl) ?_
                  obtain ⟨e0, e1, e2⟩ := wq_j3 hG
                  subst e0
                  subst e1
                  subst e2
                  exact W.iret hx hb hr (fun t ht hW => ⟨⟨_, (), rfl, ⟨rfl, trivial⟩, by rw [ht]; exact hP, hD⟩, hS.F ht⟩) hS.2.2 dX4_readNumber_150
                · replace hG := wq_f c34 hG
                  refine lv_aload_n hx hb dX4_readNumber_140 rfl (lv_at hl 2 rfl) ?_
                  refine lv_iload_n hx hb dX4_readNumber_141 rfl (lv_at hl 5 rfl) ?_
                  obtain ⟨v36, w37, g35, hG⟩ := wq_b2_s hG
                  have hFc := va_free (wc := wcX qa cI cJ cZ x_letters x_size z_x_place z_x_fault x_stold) hD hS hA [0, 1] rfl
                  refine wq_di (D := (dC, dI)) (v := v36) (B := wq_Z1) (wr := []) (w1 := wcX qa cI cJ cZ x_letters x_size z_x_place w37 x_stold) (w2 := wcX qa cI cJ cZ x_letters x_size z_x_place w37 x_stold) (va_runV (As := [.int x3]) (rest := []) ⟨hx, hb, hml, hown, hts⟩ (C_X4_failsAt l dC dI cI cJ cZ qa H.size x_letters x_size z_x_place z_x_fault x_stold x3 v36 w37 g35) (cwV 1 hts gX4_readNumber_X4_failsAt rfl rfl rfl hdV_X4_failsAt ⟨Nat.le_of_ble_eq_true rfl, Nat.le_of_ble_eq_true rfl⟩) (wq_pwV hK hP hD hE hS hFc (ci := 4) (q0 := 0) rfl rfl) rfl rfl hl.1 rfl (lv_room (Nat.le_of_ble_eq_true rfl)) dX4_readNumber_142 ⟨Nat.zero_le _, Nat.zero_le _⟩) hP hD hS hFc [0, 1] [] [0, 1] rfl rfl (by decide) (by decide) (by decide) rfl (fun H locs b38 hP hD hS => ?_)
                  clear hFc
                  refine lv_pop hx hb dX4_readNumber_145 rfl ?_
                  refine lv_iconst (v := (-1)) hx hb dX4_readNumber_146 (by decide) ?_
                  obtain ⟨e0, e1, e2⟩ := wq_j3 hG
                  subst e0
                  subst e1
                  subst e2
                  exact W.iret hx hb hr (fun t ht hW => ⟨⟨_, (), rfl, ⟨rfl, trivial⟩, by rw [ht]; exact hP, hD⟩, hS.F ht⟩) hS.2.2 dX4_readNumber_147
          · replace hG := wq_t c22 hG
            refine lv_iconst (v := 1) hx hb dX4_readNumber_110 (by decide) ?_
            refine lv_goto (tgt := 115) hx hb dX4_readNumber_111 (by decide) ?_
            refine lv_istore (lv' := [(6, .int 1), (5, .int (z_x_place - x3)), (0, .ref (qa 1)), (1, .int a1), (2, .int a2), (3, .int x3), (4, .int x4)]) hx hb dX4_readNumber_115 hl (by decide) rfl (fun ls hl => ?_)
            refine lv_iload hx hb dX4_readNumber_117 (lv_at hl 1 rfl) ?_
            refine lv_iconst (v := 1) hx hb dX4_readNumber_119 (by decide) ?_
            refine lv_icmp_lt (tgt := 140) hx hb dX4_readNumber_120 (by decide) (fun c39 => ?_) (fun c39 => ?_)
            · replace hG := wq_t c39 hG
              refine lv_aload_n hx hb dX4_readNumber_140 rfl (lv_at hl 2 rfl) ?_
              refine lv_iload_n hx hb dX4_readNumber_141 rfl (lv_at hl 5 rfl) ?_
              obtain ⟨v41, w42, g40, hG⟩ := wq_b2_s hG
              have hFc := va_free (wc := wcX qa cI cJ cZ x_letters x_size z_x_place z_x_fault x_stold) hD hS hA [0, 1] rfl
              refine wq_di (D := (dC, dI)) (v := v41) (B := wq_Z1) (wr := []) (w1 := wcX qa cI cJ cZ x_letters x_size z_x_place w42 x_stold) (w2 := wcX qa cI cJ cZ x_letters x_size z_x_place w42 x_stold) (va_runV (As := [.int x3]) (rest := []) ⟨hx, hb, hml, hown, hts⟩ (C_X4_failsAt l dC dI cI cJ cZ qa H.size x_letters x_size z_x_place z_x_fault x_stold x3 v41 w42 g40) (cwV 1 hts gX4_readNumber_X4_failsAt rfl rfl rfl hdV_X4_failsAt ⟨Nat.le_of_ble_eq_true rfl, Nat.le_of_ble_eq_true rfl⟩) (wq_pwV hK hP hD hE hS hFc (ci := 4) (q0 := 0) rfl rfl) rfl rfl hl.1 rfl (lv_room (Nat.le_of_ble_eq_true rfl)) dX4_readNumber_142 ⟨Nat.zero_le _, Nat.zero_le _⟩) hP hD hS hFc [0, 1] [] [0, 1] rfl rfl (by decide) (by decide) (by decide) rfl (fun H locs b43 hP hD hS => ?_)
              clear hFc
              refine lv_pop hx hb dX4_readNumber_145 rfl ?_
              refine lv_iconst (v := (-1)) hx hb dX4_readNumber_146 (by decide) ?_
              obtain ⟨e0, e1, e2⟩ := wq_j3 hG
              subst e0
              subst e1
              subst e2
              exact W.iret hx hb hr (fun t ht hW => ⟨⟨_, (), rfl, ⟨rfl, trivial⟩, by rw [ht]; exact hP, hD⟩, hS.F ht⟩) hS.2.2 dX4_readNumber_147
            · replace hG := wq_f c39 hG
              refine lv_iload hx hb dX4_readNumber_123 (lv_at hl 0 rfl) ?_
              refine lv_if_ne (tgt := 140) hx hb dX4_readNumber_125 (by decide) (fun c44 => ?_) (fun c44 => absurd c44 (by decide))
              refine lv_aload_n hx hb dX4_readNumber_140 rfl (lv_at hl 2 rfl) ?_
              refine lv_iload_n hx hb dX4_readNumber_141 rfl (lv_at hl 5 rfl) ?_
              obtain ⟨v46, w47, g45, hG⟩ := wq_b2_s hG
              have hFc := va_free (wc := wcX qa cI cJ cZ x_letters x_size z_x_place z_x_fault x_stold) hD hS hA [0, 1] rfl
              refine wq_di (D := (dC, dI)) (v := v46) (B := wq_Z1) (wr := []) (w1 := wcX qa cI cJ cZ x_letters x_size z_x_place w47 x_stold) (w2 := wcX qa cI cJ cZ x_letters x_size z_x_place w47 x_stold) (va_runV (As := [.int x3]) (rest := []) ⟨hx, hb, hml, hown, hts⟩ (C_X4_failsAt l dC dI cI cJ cZ qa H.size x_letters x_size z_x_place z_x_fault x_stold x3 v46 w47 g45) (cwV 1 hts gX4_readNumber_X4_failsAt rfl rfl rfl hdV_X4_failsAt ⟨Nat.le_of_ble_eq_true rfl, Nat.le_of_ble_eq_true rfl⟩) (wq_pwV hK hP hD hE hS hFc (ci := 4) (q0 := 0) rfl rfl) rfl rfl hl.1 rfl (lv_room (Nat.le_of_ble_eq_true rfl)) dX4_readNumber_142 ⟨Nat.zero_le _, Nat.zero_le _⟩) hP hD hS hFc [0, 1] [] [0, 1] rfl rfl (by decide) (by decide) (by decide) rfl (fun H locs b48 hP hD hS => ?_)
              clear hFc
              refine lv_pop hx hb dX4_readNumber_145 rfl ?_
              refine lv_iconst (v := (-1)) hx hb dX4_readNumber_146 (by decide) ?_
              obtain ⟨e0, e1, e2⟩ := wq_j3 hG
              subst e0
              subst e1
              subst e2
              exact W.iret hx hb hr (fun t ht hW => ⟨⟨_, (), rfl, ⟨rfl, trivial⟩, by rw [ht]; exact hP, hD⟩, hS.F ht⟩) hS.2.2 dX4_readNumber_147
      · replace hG := wq_f c1 hG
        refine lv_aload_n hx hb dX4_readNumber_23 rfl (lv_at hl 0 rfl) ?_
        refine lv_aload_n hx hb dX4_readNumber_24 rfl (lv_at hl 0 rfl) ?_
        refine va_get (D := (dC, dI)) (ci := 4) (v := .int z_x_place) (C := RX4) (T := TX4) (N := 5) hx hb hts hinX4 hown hK hP 0 rfl rfl 2 (by decide) k1 (fun _ h9 => h9) rfl dX4_readNumber_25 ?_
        obtain ⟨v50, g49, hG⟩ := wq_b1_s hG
        refine wq_ci (v := v50) (B := wq_tr) (va_runV (As := [.int z_x_place]) (rest := []) ⟨hx, hb, hml, hown, hts⟩ (C_X4_letterAt l dC dI cI cJ cZ qa H.size x_letters x_size z_x_place z_x_fault x_stold z_x_place v50 g49) (cwV 1 hts gX4_readNumber_X4_letterAt rfl rfl rfl hdV_X4_letterAt ⟨Nat.le_of_ble_eq_true rfl, Nat.le_of_ble_eq_true rfl⟩) (wq_ppV hK hP hE hS hA (ci := 4) (q0 := 0) rfl rfl) rfl rfl hl.1 rfl (lv_room (Nat.le_of_ble_eq_true rfl)) dX4_readNumber_28 ⟨Nat.zero_le _, Nat.zero_le _⟩) hS hA (fun H locs b51 hk hS => ?_)
        replace hP := wq_kp hP hk
        clear hk
        refine lv_bipush (v := 48) hx hb dX4_readNumber_31 (by decide) ?_
        refine lv_icmp_lt (tgt := 86) hx hb dX4_readNumber_33 (by decide) (fun c52 => ?_) (fun c52 => ?_)
        · replace hG := wq_t c52 hG
          refine lv_aload_n hx hb dX4_readNumber_86 rfl (lv_at hl 0 rfl) ?_
          refine va_get (D := (dC, dI)) (ci := 4) (v := .int z_x_place) (C := RX4) (T := TX4) (N := 5) hx hb hts hinX4 hown hK hP 0 rfl rfl 2 (by decide) k1 (fun _ h9 => h9) rfl dX4_readNumber_87 ?_
          refine lv_iload_n hx hb dX4_readNumber_90 rfl (lv_at hl 3 rfl) ?_
          refine lv_isub hx hb dX4_readNumber_91 ?_
          refine lv_istore (lv' := [(5, .int (z_x_place - x3)), (0, .ref (qa 1)), (1, .int a1), (2, .int a2), (3, .int x3), (4, .int x4)]) hx hb dX4_readNumber_92 hl (by decide) rfl (fun ls hl => ?_)
          refine lv_iload hx hb dX4_readNumber_94 (lv_at hl 0 rfl) ?_
          refine lv_iconst (v := 1) hx hb dX4_readNumber_96 (by decide) ?_
          refine lv_icmp_le (tgt := 114) hx hb dX4_readNumber_97 (by decide) (fun c53 => ?_) (fun c53 => ?_)
          · replace hG := wq_t c53 hG
            refine lv_iconst (v := 0) hx hb dX4_readNumber_114 (by decide) ?_
            refine lv_istore (lv' := [(6, .int 0), (5, .int (z_x_place - x3)), (0, .ref (qa 1)), (1, .int a1), (2, .int a2), (3, .int x3), (4, .int x4)]) hx hb dX4_readNumber_115 hl (by decide) rfl (fun ls hl => ?_)
            refine lv_iload hx hb dX4_readNumber_117 (lv_at hl 1 rfl) ?_
            refine lv_iconst (v := 1) hx hb dX4_readNumber_119 (by decide) ?_
            refine lv_icmp_lt (tgt := 140) hx hb dX4_readNumber_120 (by decide) (fun c54 => ?_) (fun c54 => ?_)
            · replace hG := wq_t c54 hG
              refine lv_aload_n hx hb dX4_readNumber_140 rfl (lv_at hl 2 rfl) ?_
              refine lv_iload_n hx hb dX4_readNumber_141 rfl (lv_at hl 5 rfl) ?_
              obtain ⟨v56, w57, g55, hG⟩ := wq_b2_s hG
              have hFc := va_free (wc := wcX qa cI cJ cZ x_letters x_size z_x_place z_x_fault x_stold) hD hS hA [0, 1] rfl
              refine wq_di (D := (dC, dI)) (v := v56) (B := wq_Z1) (wr := []) (w1 := wcX qa cI cJ cZ x_letters x_size z_x_place w57 x_stold) (w2 := wcX qa cI cJ cZ x_letters x_size z_x_place w57 x_stold) (va_runV (As := [.int x3]) (rest := []) ⟨hx, hb, hml, hown, hts⟩ (C_X4_failsAt l dC dI cI cJ cZ qa H.size x_letters x_size z_x_place z_x_fault x_stold x3 v56 w57 g55) (cwV 1 hts gX4_readNumber_X4_failsAt rfl rfl rfl hdV_X4_failsAt ⟨Nat.le_of_ble_eq_true rfl, Nat.le_of_ble_eq_true rfl⟩) (wq_pwV hK hP hD hE hS hFc (ci := 4) (q0 := 0) rfl rfl) rfl rfl hl.1 rfl (lv_room (Nat.le_of_ble_eq_true rfl)) dX4_readNumber_142 ⟨Nat.zero_le _, Nat.zero_le _⟩) hP hD hS hFc [0, 1] [] [0, 1] rfl rfl (by decide) (by decide) (by decide) rfl (fun H locs b58 hP hD hS => ?_)
              clear hFc
              refine lv_pop hx hb dX4_readNumber_145 rfl ?_
              refine lv_iconst (v := (-1)) hx hb dX4_readNumber_146 (by decide) ?_
              obtain ⟨e0, e1, e2⟩ := wq_j3 hG
              subst e0
              subst e1
              subst e2
              exact W.iret hx hb hr (fun t ht hW => ⟨⟨_, (), rfl, ⟨rfl, trivial⟩, by rw [ht]; exact hP, hD⟩, hS.F ht⟩) hS.2.2 dX4_readNumber_147
            · replace hG := wq_f c54 hG
              refine lv_iload hx hb dX4_readNumber_123 (lv_at hl 0 rfl) ?_
              refine lv_if_ne (tgt := 140) hx hb dX4_readNumber_125 (by decide) (fun c59 => absurd (by decide) c59) (fun c59 => ?_)
              refine lv_iload hx hb dX4_readNumber_128 (lv_at hl 6 rfl) ?_
              refine lv_iload_n hx hb dX4_readNumber_130 rfl (lv_at hl 3 rfl) ?_
              refine lv_icmp_lt (tgt := 140) hx hb dX4_readNumber_131 (by decide) (fun c60 => ?_) (fun c60 => ?_)
              · replace hG := wq_t c60 hG
                refine lv_aload_n hx hb dX4_readNumber_140 rfl (lv_at hl 2 rfl) ?_
                refine lv_iload_n hx hb dX4_readNumber_141 rfl (lv_at hl 5 rfl) ?_
                obtain ⟨v62, w63, g61, hG⟩ := wq_b2_s hG
                have hFc := va_free (wc := wcX qa cI cJ cZ x_letters x_size z_x_place z_x_fault x_stold) hD hS hA [0, 1] rfl
                refine wq_di (D := (dC, dI)) (v := v62) (B := wq_Z1) (wr := []) (w1 := wcX qa cI cJ cZ x_letters x_size z_x_place w63 x_stold) (w2 := wcX qa cI cJ cZ x_letters x_size z_x_place w63 x_stold) (va_runV (As := [.int x3]) (rest := []) ⟨hx, hb, hml, hown, hts⟩ (C_X4_failsAt l dC dI cI cJ cZ qa H.size x_letters x_size z_x_place z_x_fault x_stold x3 v62 w63 g61) (cwV 1 hts gX4_readNumber_X4_failsAt rfl rfl rfl hdV_X4_failsAt ⟨Nat.le_of_ble_eq_true rfl, Nat.le_of_ble_eq_true rfl⟩) (wq_pwV hK hP hD hE hS hFc (ci := 4) (q0 := 0) rfl rfl) rfl rfl hl.1 rfl (lv_room (Nat.le_of_ble_eq_true rfl)) dX4_readNumber_142 ⟨Nat.zero_le _, Nat.zero_le _⟩) hP hD hS hFc [0, 1] [] [0, 1] rfl rfl (by decide) (by decide) (by decide) rfl (fun H locs b64 hP hD hS => ?_)
                clear hFc
                refine lv_pop hx hb dX4_readNumber_145 rfl ?_
                refine lv_iconst (v := (-1)) hx hb dX4_readNumber_146 (by decide) ?_
                obtain ⟨e0, e1, e2⟩ := wq_j3 hG
                subst e0
                subst e1
                subst e2
                exact W.iret hx hb hr (fun t ht hW => ⟨⟨_, (), rfl, ⟨rfl, trivial⟩, by rw [ht]; exact hP, hD⟩, hS.F ht⟩) hS.2.2 dX4_readNumber_147
              · replace hG := wq_f c60 hG
                refine lv_iload hx hb dX4_readNumber_134 (lv_at hl 6 rfl) ?_
                refine lv_iload_n hx hb dX4_readNumber_136 rfl (lv_at hl 4 rfl) ?_
                refine lv_icmp_le (tgt := 148) hx hb dX4_readNumber_137 (by decide) (fun c65 => ?_) (fun c65 => ?_)
                · replace hG := wq_t c65 hG
                  refine lv_iload hx hb dX4_readNumber_148 (lv_at hl 6 rfl) ?_
                  obtain ⟨e0, e1, e2⟩ := wq_j3 hG
                  subst e0
                  subst e1
                  subst e2
                  exact W.iret hx hb hr (fun t ht hW => ⟨⟨_, (), rfl, ⟨rfl, trivial⟩, by rw [ht]; exact hP, hD⟩, hS.F ht⟩) hS.2.2 dX4_readNumber_150
                · replace hG := wq_f c65 hG
                  refine lv_aload_n hx hb dX4_readNumber_140 rfl (lv_at hl 2 rfl) ?_
                  refine lv_iload_n hx hb dX4_readNumber_141 rfl (lv_at hl 5 rfl) ?_
                  obtain ⟨v67, w68, g66, hG⟩ := wq_b2_s hG
                  have hFc := va_free (wc := wcX qa cI cJ cZ x_letters x_size z_x_place z_x_fault x_stold) hD hS hA [0, 1] rfl
                  refine wq_di (D := (dC, dI)) (v := v67) (B := wq_Z1) (wr := []) (w1 := wcX qa cI cJ cZ x_letters x_size z_x_place w68 x_stold) (w2 := wcX qa cI cJ cZ x_letters x_size z_x_place w68 x_stold) (va_runV (As := [.int x3]) (rest := []) ⟨hx, hb, hml, hown, hts⟩ (C_X4_failsAt l dC dI cI cJ cZ qa H.size x_letters x_size z_x_place z_x_fault x_stold x3 v67 w68 g66) (cwV 1 hts gX4_readNumber_X4_failsAt rfl rfl rfl hdV_X4_failsAt ⟨Nat.le_of_ble_eq_true rfl, Nat.le_of_ble_eq_true rfl⟩) (wq_pwV hK hP hD hE hS hFc (ci := 4) (q0 := 0) rfl rfl) rfl rfl hl.1 rfl (lv_room (Nat.le_of_ble_eq_true rfl)) dX4_readNumber_142 ⟨Nat.zero_le _, Nat.zero_le _⟩) hP hD hS hFc [0, 1] [] [0, 1] rfl rfl (by decide) (by decide) (by decide) rfl (fun H locs b69 hP hD hS => ?_)
                  clear hFc
                  refine lv_pop hx hb dX4_readNumber_145 rfl ?_
                  refine lv_iconst (v := (-1)) hx hb dX4_readNumber_146 (by decide) ?_
                  obtain ⟨e0, e1, e2⟩ := wq_j3 hG
                  subst e0
                  subst e1
                  subst e2
                  exact W.iret hx hb hr (fun t ht hW => ⟨⟨_, (), rfl, ⟨rfl, trivial⟩, by rw [ht]; exact hP, hD⟩, hS.F ht⟩) hS.2.2 dX4_readNumber_147
          · replace hG := wq_f c53 hG
            refine lv_aload_n hx hb dX4_readNumber_100 rfl (lv_at hl 1 rfl) ?_
            refine lv_iload_n hx hb dX4_readNumber_101 rfl (lv_at hl 4 rfl) ?_
            obtain ⟨v71, g70, hG⟩ := wq_b1_s hG
            refine wq_ci (v := v71) (B := wq_tr) (va_runV (As := [.int x3]) (rest := []) ⟨hx, hb, hml, hown, hts⟩ (C_X4_letterAt l dC dI cI cJ cZ qa H.size x_letters x_size z_x_place z_x_fault x_stold x3 v71 g70) (cwV 1 hts gX4_readNumber_X4_letterAt rfl rfl rfl hdV_X4_letterAt ⟨Nat.le_of_ble_eq_true rfl, Nat.le_of_ble_eq_true rfl⟩) (wq_ppV hK hP hE hS hA (ci := 4) (q0 := 0) rfl rfl) rfl rfl hl.1 rfl (lv_room (Nat.le_of_ble_eq_true rfl)) dX4_readNumber_102 ⟨Nat.zero_le _, Nat.zero_le _⟩) hS hA (fun H locs b72 hk hS => ?_)
            replace hP := wq_kp hP hk
            clear hk
            refine lv_bipush (v := 48) hx hb dX4_readNumber_105 (by decide) ?_
            refine lv_icmp_ne (tgt := 114) hx hb dX4_readNumber_107 (by decide) (fun c73 => ?_) (fun c73 => ?_)
            · replace hG := wq_f c73 hG
              refine lv_iconst (v := 0) hx hb dX4_readNumber_114 (by decide) ?_
              refine lv_istore (lv' := [(6, .int 0), (5, .int (z_x_place - x3)), (0, .ref (qa 1)), (1, .int a1), (2, .int a2), (3, .int x3), (4, .int x4)]) hx hb dX4_readNumber_115 hl (by decide) rfl (fun ls hl => ?_)
              refine lv_iload hx hb dX4_readNumber_117 (lv_at hl 1 rfl) ?_
              refine lv_iconst (v := 1) hx hb dX4_readNumber_119 (by decide) ?_
              refine lv_icmp_lt (tgt := 140) hx hb dX4_readNumber_120 (by decide) (fun c74 => ?_) (fun c74 => ?_)
              · replace hG := wq_t c74 hG
                refine lv_aload_n hx hb dX4_readNumber_140 rfl (lv_at hl 2 rfl) ?_
                refine lv_iload_n hx hb dX4_readNumber_141 rfl (lv_at hl 5 rfl) ?_
                obtain ⟨v76, w77, g75, hG⟩ := wq_b2_s hG
                have hFc := va_free (wc := wcX qa cI cJ cZ x_letters x_size z_x_place z_x_fault x_stold) hD hS hA [0, 1] rfl
                refine wq_di (D := (dC, dI)) (v := v76) (B := wq_Z1) (wr := []) (w1 := wcX qa cI cJ cZ x_letters x_size z_x_place w77 x_stold) (w2 := wcX qa cI cJ cZ x_letters x_size z_x_place w77 x_stold) (va_runV (As := [.int x3]) (rest := []) ⟨hx, hb, hml, hown, hts⟩ (C_X4_failsAt l dC dI cI cJ cZ qa H.size x_letters x_size z_x_place z_x_fault x_stold x3 v76 w77 g75) (cwV 1 hts gX4_readNumber_X4_failsAt rfl rfl rfl hdV_X4_failsAt ⟨Nat.le_of_ble_eq_true rfl, Nat.le_of_ble_eq_true rfl⟩) (wq_pwV hK hP hD hE hS hFc (ci := 4) (q0 := 0) rfl rfl) rfl rfl hl.1 rfl (lv_room (Nat.le_of_ble_eq_true rfl)) dX4_readNumber_142 ⟨Nat.zero_le _, Nat.zero_le _⟩) hP hD hS hFc [0, 1] [] [0, 1] rfl rfl (by decide) (by decide) (by decide) rfl (fun H locs b78 hP hD hS => ?_)
                clear hFc
                refine lv_pop hx hb dX4_readNumber_145 rfl ?_
                refine lv_iconst (v := (-1)) hx hb dX4_readNumber_146 (by decide) ?_
                obtain ⟨e0, e1, e2⟩ := wq_j3 hG
                subst e0
                subst e1
                subst e2
                exact W.iret hx hb hr (fun t ht hW => ⟨⟨_, (), rfl, ⟨rfl, trivial⟩, by rw [ht]; exact hP, hD⟩, hS.F ht⟩) hS.2.2 dX4_readNumber_147
              · replace hG := wq_f c74 hG
                refine lv_iload hx hb dX4_readNumber_123 (lv_at hl 0 rfl) ?_
                refine lv_if_ne (tgt := 140) hx hb dX4_readNumber_125 (by decide) (fun c79 => absurd (by decide) c79) (fun c79 => ?_)
                refine lv_iload hx hb dX4_readNumber_128 (lv_at hl 6 rfl) ?_
                refine lv_iload_n hx hb dX4_readNumber_130 rfl (lv_at hl 3 rfl) ?_
                refine lv_icmp_lt (tgt := 140) hx hb dX4_readNumber_131 (by decide) (fun c80 => ?_) (fun c80 => ?_)
                · replace hG := wq_t c80 hG
                  refine lv_aload_n hx hb dX4_readNumber_140 rfl (lv_at hl 2 rfl) ?_
                  refine lv_iload_n hx hb dX4_readNumber_141 rfl (lv_at hl 5 rfl) ?_
                  obtain ⟨v82, w83, g81, hG⟩ := wq_b2_s hG
                  have hFc := va_free (wc := wcX qa cI cJ cZ x_letters x_size z_x_place z_x_fault x_stold) hD hS hA [0, 1] rfl
                  refine wq_di (D := (dC, dI)) (v := v82) (B := wq_Z1) (wr := []) (w1 := wcX qa cI cJ cZ x_letters x_size z_x_place w83 x_stold) (w2 := wcX qa cI cJ cZ x_letters x_size z_x_place w83 x_stold) (va_runV (As := [.int x3]) (rest := []) ⟨hx, hb, hml, hown, hts⟩ (C_X4_failsAt l dC dI cI cJ cZ qa H.size x_letters x_size z_x_place z_x_fault x_stold x3 v82 w83 g81) (cwV 1 hts gX4_readNumber_X4_failsAt rfl rfl rfl hdV_X4_failsAt ⟨Nat.le_of_ble_eq_true rfl, Nat.le_of_ble_eq_true rfl⟩) (wq_pwV hK hP hD hE hS hFc (ci := 4) (q0 := 0) rfl rfl) rfl rfl hl.1 rfl (lv_room (Nat.le_of_ble_eq_true rfl)) dX4_readNumber_142 ⟨Nat.zero_le _, Nat.zero_le _⟩) hP hD hS hFc [0, 1] [] [0, 1] rfl rfl (by decide) (by decide) (by decide) rfl (fun H locs b84 hP hD hS => ?_)
                  clear hFc
                  refine lv_pop hx hb dX4_readNumber_145 rfl ?_
                  refine lv_iconst (v := (-1)) hx hb dX4_readNumber_146 (by decide) ?_
                  obtain ⟨e0, e1, e2⟩ := wq_j3 hG
                  subst e0
                  subst e1
                  subst e2
                  exact W.iret hx hb hr (fun t ht hW => ⟨⟨_, (), rfl, ⟨rfl, trivial⟩, by rw [ht]; exact hP, hD⟩, hS.F ht⟩) hS.2.2 dX4_readNumber_147
                · replace hG := wq_f c80 hG
                  refine lv_iload hx hb dX4_readNumber_134 (lv_at hl 6 rfl) ?_
                  refine lv_iload_n hx hb dX4_readNumber_136 rfl (lv_at hl 4 rfl) ?_
                  refine lv_icmp_le (tgt := 148) hx hb dX4_readNumber_137 (by decide) (fun c85 => ?_) (fun c85 => ?_)
                  · replace hG := wq_t c85 hG
                    refine lv_iload hx hb dX4_readNumber_148 (lv_at hl 6 rfl) ?_
                    obtain ⟨e0, e1, e2⟩ := wq_j3 hG
                    subst e0
                    subst e1
                    subst e2
                    exact W.iret hx hb hr (fun t ht hW => ⟨⟨_, (), rfl, ⟨rfl, trivial⟩, by rw [ht]; exact hP, hD⟩, hS.F ht⟩) hS.2.2 dX4_readNumber_150
                  · replace hG := wq_f c85 hG
                    refine lv_aload_n hx hb dX4_readNumber_140 rfl (lv_at hl 2 rfl) ?_
                    refine lv_iload_n hx hb dX4_readNumber_141 rfl (lv_at hl 5 rfl) ?_
                    obtain ⟨v87, w88, g86, hG⟩ := wq_b2_s hG
                    have hFc := va_free (wc := wcX qa cI cJ cZ x_letters x_size z_x_place z_x_fault x_stold) hD hS hA [0, 1] rfl
                    refine wq_di (D := (dC, dI)) (v := v87) (B := wq_Z1) (wr := []) (w1 := wcX qa cI cJ cZ x_letters x_size z_x_place w88 x_stold) (w2 := wcX qa cI cJ cZ x_letters x_size z_x_place w88 x_stold) (va_runV (As := [.int x3]) (rest := []) ⟨hx, hb, hml, hown, hts⟩ (C_X4_failsAt l dC dI cI cJ cZ qa H.size x_letters x_size z_x_place z_x_fault x_stold x3 v87 w88 g86) (cwV 1 hts gX4_readNumber_X4_failsAt rfl rfl rfl hdV_X4_failsAt ⟨Nat.le_of_ble_eq_true rfl, Nat.le_of_ble_eq_true rfl⟩) (wq_pwV hK hP hD hE hS hFc (ci := 4) (q0 := 0) rfl rfl) rfl rfl hl.1 rfl (lv_room (Nat.le_of_ble_eq_true rfl)) dX4_readNumber_142 ⟨Nat.zero_le _, Nat.zero_le _⟩) hP hD hS hFc [0, 1] [] [0, 1] rfl rfl (by decide) (by decide) (by decide) rfl (fun H locs b89 hP hD hS => ?_)
                    clear hFc
                    refine lv_pop hx hb dX4_readNumber_145 rfl ?_
                    refine lv_iconst (v := (-1)) hx hb dX4_readNumber_146 (by decide) ?_
                    obtain ⟨e0, e1, e2⟩ := wq_j3 hG
                    subst e0
                    subst e1
                    subst e2
                    exact W.iret hx hb hr (fun t ht hW => ⟨⟨_, (), rfl, ⟨rfl, trivial⟩, by rw [ht]; exact hP, hD⟩, hS.F ht⟩) hS.2.2 dX4_readNumber_147
            · replace hG := wq_t c73 hG
              refine lv_iconst (v := 1) hx hb dX4_readNumber_110 (by decide) ?_
              refine lv_goto (tgt := 115) hx hb dX4_readNumber_111 (by decide) ?_
              refine lv_istore (lv' := [(6, .int 1), (5, .int (z_x_place - x3)), (0, .ref (qa 1)), (1, .int a1), (2, .int a2), (3, .int x3), (4, .int x4)]) hx hb dX4_readNumber_115 hl (by decide) rfl (fun ls hl => ?_)
              refine lv_iload hx hb dX4_readNumber_117 (lv_at hl 1 rfl) ?_
              refine lv_iconst (v := 1) hx hb dX4_readNumber_119 (by decide) ?_
              refine lv_icmp_lt (tgt := 140) hx hb dX4_readNumber_120 (by decide) (fun c90 => ?_) (fun c90 => ?_)
              · replace hG := wq_t c90 hG
                refine lv_aload_n hx hb dX4_readNumber_140 rfl (lv_at hl 2 rfl) ?_
                refine lv_iload_n hx hb dX4_readNumber_141 rfl (lv_at hl 5 rfl) ?_
                obtain ⟨v92, w93, g91, hG⟩ := wq_b2_s hG
                have hFc := va_free (wc := wcX qa cI cJ cZ x_letters x_size z_x_place z_x_fault x_stold) hD hS hA [0, 1] rfl
                refine wq_di (D := (dC, dI)) (v := v92) (B := wq_Z1) (wr := []) (w1 := wcX qa cI cJ cZ x_letters x_size z_x_place w93 x_stold) (w2 := wcX qa cI cJ cZ x_letters x_size z_x_place w93 x_stold) (va_runV (As := [.int x3]) (rest := []) ⟨hx, hb, hml, hown, hts⟩ (C_X4_failsAt l dC dI cI cJ cZ qa H.size x_letters x_size z_x_place z_x_fault x_stold x3 v92 w93 g91) (cwV 1 hts gX4_readNumber_X4_failsAt rfl rfl rfl hdV_X4_failsAt ⟨Nat.le_of_ble_eq_true rfl, Nat.le_of_ble_eq_true rfl⟩) (wq_pwV hK hP hD hE hS hFc (ci := 4) (q0 := 0) rfl rfl) rfl rfl hl.1 rfl (lv_room (Nat.le_of_ble_eq_true rfl)) dX4_readNumber_142 ⟨Nat.zero_le _, Nat.zero_le _⟩) hP hD hS hFc [0, 1] [] [0, 1] rfl rfl (by decide) (by decide) (by decide) rfl (fun H locs b94 hP hD hS => ?_)
                clear hFc
                refine lv_pop hx hb dX4_readNumber_145 rfl ?_
                refine lv_iconst (v := (-1)) hx hb dX4_readNumber_146 (by decide) ?_
                obtain ⟨e0, e1, e2⟩ := wq_j3 hG
                subst e0
                subst e1
                subst e2
                exact W.iret hx hb hr (fun t ht hW => ⟨⟨_, (), rfl, ⟨rfl, trivial⟩, by rw [ht]; exact hP, hD⟩, hS.F ht⟩) hS.2.2 dX4_readNumber_147
              · replace hG := wq_f c90 hG
                refine lv_iload hx hb dX4_readNumber_123 (lv_at hl 0 rfl) ?_
                refine lv_if_ne (tgt := 140) hx hb dX4_readNumber_125 (by decide) (fun c95 => ?_) (fun c95 => absurd c95 (by decide))
                refine lv_aload_n hx hb dX4_readNumber_140 rfl (lv_at hl 2 rfl) ?_
                refine lv_iload_n hx hb dX4_readNumber_141 rfl (lv_at hl 5 rfl) ?_
                obtain ⟨v97, w98, g96, hG⟩ := wq_b2_s hG
                have hFc := va_free (wc := wcX qa cI cJ cZ x_letters x_size z_x_place z_x_fault x_stold) hD hS hA [0, 1] rfl
                refine wq_di (D := (dC, dI)) (v := v97) (B := wq_Z1) (wr := []) (w1 := wcX qa cI cJ cZ x_letters x_size z_x_place w98 x_stold) (w2 := wcX qa cI cJ cZ x_letters x_size z_x_place w98 x_stold) (va_runV (As := [.int x3]) (rest := []) ⟨hx, hb, hml, hown, hts⟩ (C_X4_failsAt l dC dI cI cJ cZ qa H.size x_letters x_size z_x_place z_x_fault x_stold x3 v97 w98 g96) (cwV 1 hts gX4_readNumber_X4_failsAt rfl rfl rfl hdV_X4_failsAt ⟨Nat.le_of_ble_eq_true rfl, Nat.le_of_ble_eq_true rfl⟩) (wq_pwV hK hP hD hE hS hFc (ci := 4) (q0 := 0) rfl rfl) rfl rfl hl.1 rfl (lv_room (Nat.le_of_ble_eq_true rfl)) dX4_readNumber_142 ⟨Nat.zero_le _, Nat.zero_le _⟩) hP hD hS hFc [0, 1] [] [0, 1] rfl rfl (by decide) (by decide) (by decide) rfl (fun H locs b99 hP hD hS => ?_)
                clear hFc
                refine lv_pop hx hb dX4_readNumber_145 rfl ?_
                refine lv_iconst (v := (-1)) hx hb dX4_readNumber_146 (by decide) ?_
                obtain ⟨e0, e1, e2⟩ := wq_j3 hG
                subst e0
                subst e1
                subst e2
                exact W.iret hx hb hr (fun t ht hW => ⟨⟨_, (), rfl, ⟨rfl, trivial⟩, by rw [ht]; exact hP, hD⟩, hS.F ht⟩) hS.2.2 dX4_readNumber_147
        · replace hG := wq_f c52 hG
          refine lv_aload_n hx hb dX4_readNumber_36 rfl (lv_at hl 0 rfl) ?_
          refine lv_aload_n hx hb dX4_readNumber_37 rfl (lv_at hl 0 rfl) ?_
          refine va_get (D := (dC, dI)) (ci := 4) (v := .int z_x_place) (C := RX4) (T := TX4) (N := 5) hx hb hts hinX4 hown hK hP 0 rfl rfl 2 (by decide) k1 (fun _ h9 => h9) rfl dX4_readNumber_38 ?_
          obtain ⟨v101, g100, hG⟩ := wq_b1_s hG
          refine wq_ci (v := v101) (B := wq_tr) (va_runV (As := [.int z_x_place]) (rest := []) ⟨hx, hb, hml, hown, hts⟩ (C_X4_letterAt l dC dI cI cJ cZ qa H.size x_letters x_size z_x_place z_x_fault x_stold z_x_place v101 g100) (cwV 1 hts gX4_readNumber_X4_letterAt rfl rfl rfl hdV_X4_letterAt ⟨Nat.le_of_ble_eq_true rfl, Nat.le_of_ble_eq_true rfl⟩) (wq_ppV hK hP hE hS hA (ci := 4) (q0 := 0) rfl rfl) rfl rfl hl.1 rfl (lv_room (Nat.le_of_ble_eq_true rfl)) dX4_readNumber_41 ⟨Nat.zero_le _, Nat.zero_le _⟩) hS hA (fun H locs b102 hk hS => ?_)
          replace hP := wq_kp hP hk
          clear hk
          refine lv_bipush (v := 57) hx hb dX4_readNumber_44 (by decide) ?_
          refine lv_icmp_gt (tgt := 86) hx hb dX4_readNumber_46 (by decide) (fun c103 => ?_) (fun c103 => ?_)
          · replace hG := wq_t c103 hG
            refine lv_aload_n hx hb dX4_readNumber_86 rfl (lv_at hl 0 rfl) ?_
            refine va_get (D := (dC, dI)) (ci := 4) (v := .int z_x_place) (C := RX4) (T := TX4) (N := 5) hx hb hts hinX4 hown hK hP 0 rfl rfl 2 (by decide) k1 (fun _ h9 => h9) rfl dX4_readNumber_87 ?_
            refine lv_iload_n hx hb dX4_readNumber_90 rfl (lv_at hl 3 rfl) ?_
            refine lv_isub hx hb dX4_readNumber_91 ?_
            refine lv_istore (lv' := [(5, .int (z_x_place - x3)), (0, .ref (qa 1)), (1, .int a1), (2, .int a2), (3, .int x3), (4, .int x4)]) hx hb dX4_readNumber_92 hl (by decide) rfl (fun ls hl => ?_)
            refine lv_iload hx hb dX4_readNumber_94 (lv_at hl 0 rfl) ?_
            refine lv_iconst (v := 1) hx hb dX4_readNumber_96 (by decide) ?_
            refine lv_icmp_le (tgt := 114) hx hb dX4_readNumber_97 (by decide) (fun c104 => ?_) (fun c104 => ?_)
            · replace hG := wq_t c104 hG
              refine lv_iconst (v := 0) hx hb dX4_readNumber_114 (by decide) ?_
              refine lv_istore (lv' := [(6, .int 0), (5, .int (z_x_place - x3)), (0, .ref (qa 1)), (1, .int a1), (2, .int a2), (3, .int x3), (4, .int x4)]) hx hb dX4_readNumber_115 hl (by decide) rfl (fun ls hl => ?_)
              refine lv_iload hx hb dX4_readNumber_117 (lv_at hl 1 rfl) ?_
              refine lv_iconst (v := 1) hx hb dX4_readNumber_119 (by decide) ?_
              refine lv_icmp_lt (tgt := 140) hx hb dX4_readNumber_120 (by decide) (fun c105 => ?_) (fun c105 => ?_)
              · replace hG := wq_t c105 hG
                refine lv_aload_n hx hb dX4_readNumber_140 rfl (lv_at hl 2 rfl) ?_
                refine lv_iload_n hx hb dX4_readNumber_141 rfl (lv_at hl 5 rfl) ?_
                obtain ⟨v107, w108, g106, hG⟩ := wq_b2_s hG
                have hFc := va_free (wc := wcX qa cI cJ cZ x_letters x_size z_x_place z_x_fault x_stold) hD hS hA [0, 1] rfl
                refine wq_di (D := (dC, dI)) (v := v107) (B := wq_Z1) (wr := []) (w1 := wcX qa cI cJ cZ x_letters x_size z_x_place w108 x_stold) (w2 := wcX qa cI cJ cZ x_letters x_size z_x_place w108 x_stold) (va_runV (As := [.int x3]) (rest := []) ⟨hx, hb, hml, hown, hts⟩ (C_X4_failsAt l dC dI cI cJ cZ qa H.size x_letters x_size z_x_place z_x_fault x_stold x3 v107 w108 g106) (cwV 1 hts gX4_readNumber_X4_failsAt rfl rfl rfl hdV_X4_failsAt ⟨Nat.le_of_ble_eq_true rfl, Nat.le_of_ble_eq_true rfl⟩) (wq_pwV hK hP hD hE hS hFc (ci := 4) (q0 := 0) rfl rfl) rfl rfl hl.1 rfl (lv_room (Nat.le_of_ble_eq_true rfl)) dX4_readNumber_142 ⟨Nat.zero_le _, Nat.zero_le _⟩) hP hD hS hFc [0, 1] [] [0, 1] rfl rfl (by decide) (by decide) (by decide) rfl (fun H locs b109 hP hD hS => ?_)
                clear hFc
                refine lv_pop hx hb dX4_readNumber_145 rfl ?_
                refine lv_iconst (v := (-1)) hx hb dX4_readNumber_146 (by decide) ?_
                obtain ⟨e0, e1, e2⟩ := wq_j3 hG
                subst e0
                subst e1
                subst e2
                exact W.iret hx hb hr (fun t ht hW => ⟨⟨_, (), rfl, ⟨rfl, trivial⟩, by rw [ht]; exact hP, hD⟩, hS.F ht⟩) hS.2.2 dX4_readNumber_147
              · replace hG := wq_f c105 hG
                refine lv_iload hx hb dX4_readNumber_123 (lv_at hl 0 rfl) ?_
                refine lv_if_ne (tgt := 140) hx hb dX4_readNumber_125 (by decide) (fun c110 => absurd (by decide) c110) (fun c110 => ?_)
                refine lv_iload hx hb dX4_readNumber_128 (lv_at hl 6 rfl) ?_
                refine lv_iload_n hx hb dX4_readNumber_130 rfl (lv_at hl 3 rfl) ?_
                refine lv_icmp_lt (tgt := 140) hx hb dX4_readNumber_131 (by decide) (fun c111 => ?_) (fun c111 => ?_)
                · replace hG := wq_t c111 hG
                  refine lv_aload_n hx hb dX4_readNumber_140 rfl (lv_at hl 2 rfl) ?_
                  refine lv_iload_n hx hb dX4_readNumber_141 rfl (lv_at hl 5 rfl) ?_
                  obtain ⟨v113, w114, g112, hG⟩ := wq_b2_s hG
                  have hFc := va_free (wc := wcX qa cI cJ cZ x_letters x_size z_x_place z_x_fault x_stold) hD hS hA [0, 1] rfl
                  refine wq_di (D := (dC, dI)) (v := v113) (B := wq_Z1) (wr := []) (w1 := wcX qa cI cJ cZ x_letters x_size z_x_place w114 x_stold) (w2 := wcX qa cI cJ cZ x_letters x_size z_x_place w114 x_stold) (va_runV (As := [.int x3]) (rest := []) ⟨hx, hb, hml, hown, hts⟩ (C_X4_failsAt l dC dI cI cJ cZ qa H.size x_letters x_size z_x_place z_x_fault x_stold x3 v113 w114 g112) (cwV 1 hts gX4_readNumber_X4_failsAt rfl rfl rfl hdV_X4_failsAt ⟨Nat.le_of_ble_eq_true rfl, Nat.le_of_ble_eq_true rfl⟩) (wq_pwV hK hP hD hE hS hFc (ci := 4) (q0 := 0) rfl rfl) rfl rfl hl.1 rfl (lv_room (Nat.le_of_ble_eq_true rfl)) dX4_readNumber_142 ⟨Nat.zero_le _, Nat.zero_le _⟩) hP hD hS hFc [0, 1] [] [0, 1] rfl rfl (by decide) (by decide) (by decide) rfl (fun H locs b115 hP hD hS => ?_)
                  clear hFc
                  refine lv_pop hx hb dX4_readNumber_145 rfl ?_
                  refine lv_iconst (v := (-1)) hx hb dX4_readNumber_146 (by decide) ?_
                  obtain ⟨e0, e1, e2⟩ := wq_j3 hG
                  subst e0
                  subst e1
                  subst e2
                  exact W.iret hx hb hr (fun t ht hW => ⟨⟨_, (), rfl, ⟨rfl, trivial⟩, by rw [ht]; exact hP, hD⟩, hS.F ht⟩) hS.2.2 dX4_readNumber_147
                · replace hG := wq_f c111 hG
                  refine lv_iload hx hb dX4_readNumber_134 (lv_at hl 6 rfl) ?_
                  refine lv_iload_n hx hb dX4_readNumber_136 rfl (lv_at hl 4 rfl) ?_
                  refine lv_icmp_le (tgt := 148) hx hb dX4_readNumber_137 (by decide) (fun c116 => ?_) (fun c116 => ?_)
                  · replace hG := wq_t c116 hG
                    refine lv_iload hx hb dX4_readNumber_148 (lv_at hl 6 rfl) ?_
                    obtain ⟨e0, e1, e2⟩ := wq_j3 hG
                    subst e0
                    subst e1
                    subst e2
                    exact W.iret hx hb hr (fun t ht hW => ⟨⟨_, (), rfl, ⟨rfl, trivial⟩, by rw [ht]; exact hP, hD⟩, hS.F ht⟩) hS.2.2 dX4_readNumber_150
                  · replace hG := wq_f c116 hG
                    refine lv_aload_n hx hb dX4_readNumber_140 rfl (lv_at hl 2 rfl) ?_
                    refine lv_iload_n hx hb dX4_readNumber_141 rfl (lv_at hl 5 rfl) ?_
                    obtain ⟨v118, w119, g117, hG⟩ := wq_b2_s hG
                    have hFc := va_free (wc := wcX qa cI cJ cZ x_letters x_size z_x_place z_x_fault x_stold) hD hS hA [0, 1] rfl
                    refine wq_di (D := (dC, dI)) (v := v118) (B := wq_Z1) (wr := []) (w1 := wcX qa cI cJ cZ x_letters x_size z_x_place w119 x_stold) (w2 := wcX qa cI cJ cZ x_letters x_size z_x_place w119 x_stold) (va_runV (As := [.int x3]) (rest := []) ⟨hx, hb, hml, hown, hts⟩ (C_X4_failsAt l dC dI cI cJ cZ qa H.size x_letters x_size z_x_place z_x_fault x_stold x3 v118 w119 g117) (cwV 1 hts gX4_readNumber_X4_failsAt rfl rfl rfl hdV_X4_failsAt ⟨Nat.le_of_ble_eq_true rfl, Nat.le_of_ble_eq_true rfl⟩) (wq_pwV hK hP hD hE hS hFc (ci := 4) (q0 := 0) rfl rfl) rfl rfl hl.1 rfl (lv_room (Nat.le_of_ble_eq_true rfl)) dX4_readNumber_142 ⟨Nat.zero_le _, Nat.zero_le _⟩) hP hD hS hFc [0, 1] [] [0, 1] rfl rfl (by decide) (by decide) (by decide) rfl (fun H locs b120 hP hD hS => ?_)
                    clear hFc
                    refine lv_pop hx hb dX4_readNumber_145 rfl ?_
                    refine lv_iconst (v := (-1)) hx hb dX4_readNumber_146 (by decide) ?_
                    obtain ⟨e0, e1, e2⟩ := wq_j3 hG
                    subst e0
                    subst e1
                    subst e2
                    exact W.iret hx hb hr (fun t ht hW => ⟨⟨_, (), rfl, ⟨rfl, trivial⟩, by rw [ht]; exact hP, hD⟩, hS.F ht⟩) hS.2.2 dX4_readNumber_147
            · replace hG := wq_f c104 hG
              refine lv_aload_n hx hb dX4_readNumber_100 rfl (lv_at hl 1 rfl) ?_
              refine lv_iload_n hx hb dX4_readNumber_101 rfl (lv_at hl 4 rfl) ?_
              obtain ⟨v122, g121, hG⟩ := wq_b1_s hG
              refine wq_ci (v := v122) (B := wq_tr) (va_runV (As := [.int x3]) (rest := []) ⟨hx, hb, hml, hown, hts⟩ (C_X4_letterAt l dC dI cI cJ cZ qa H.size x_letters x_size z_x_place z_x_fault x_stold x3 v122 g121) (cwV 1 hts gX4_readNumber_X4_letterAt rfl rfl rfl hdV_X4_letterAt ⟨Nat.le_of_ble_eq_true rfl, Nat.le_of_ble_eq_true rfl⟩) (wq_ppV hK hP hE hS hA (ci := 4) (q0 := 0) rfl rfl) rfl rfl hl.1 rfl (lv_room (Nat.le_of_ble_eq_true rfl)) dX4_readNumber_102 ⟨Nat.zero_le _, Nat.zero_le _⟩) hS hA (fun H locs b123 hk hS => ?_)
              replace hP := wq_kp hP hk
              clear hk
              refine lv_bipush (v := 48) hx hb dX4_readNumber_105 (by decide) ?_
              refine lv_icmp_ne (tgt := 114) hx hb dX4_readNumber_107 (by decide) (fun c124 => ?_) (fun c124 => ?_)
              · replace hG := wq_f c124 hG
                refine lv_iconst (v := 0) hx hb dX4_readNumber_114 (by decide) ?_
                refine lv_istore (lv' := [(6, .int 0), (5, .int (z_x_place - x3)), (0, .ref (qa 1)), (1, .int a1), (2, .int a2), (3, .int x3), (4, .int x4)]) hx hb dX4_readNumber_115 hl (by decide) rfl (fun ls hl => ?_)
                refine lv_iload hx hb dX4_readNumber_117 (lv_at hl 1 rfl) ?_
                refine lv_iconst (v := 1) hx hb dX4_readNumber_119 (by decide) ?_
                refine lv_icmp_lt (tgt := 140) hx hb dX4_readNumber_120 (by decide) (fun c125 => ?_) (fun c125 => ?_)
                · replace hG := wq_t c125 hG
                  refine lv_aload_n hx hb dX4_readNumber_140 rfl (lv_at hl 2 rfl) ?_
                  refine lv_iload_n hx hb dX4_readNumber_141 rfl (lv_at hl 5 rfl) ?_
                  obtain ⟨v127, w128, g126, hG⟩ := wq_b2_s hG
                  have hFc := va_free (wc := wcX qa cI cJ cZ x_letters x_size z_x_place z_x_fault x_stold) hD hS hA [0, 1] rfl
                  refine wq_di (D := (dC, dI)) (v := v127) (B := wq_Z1) (wr := []) (w1 := wcX qa cI cJ cZ x_letters x_size z_x_place w128 x_stold) (w2 := wcX qa cI cJ cZ x_letters x_size z_x_place w128 x_stold) (va_runV (As := [.int x3]) (rest := []) ⟨hx, hb, hml, hown, hts⟩ (C_X4_failsAt l dC dI cI cJ cZ qa H.size x_letters x_size z_x_place z_x_fault x_stold x3 v127 w128 g126) (cwV 1 hts gX4_readNumber_X4_failsAt rfl rfl rfl hdV_X4_failsAt ⟨Nat.le_of_ble_eq_true rfl, Nat.le_of_ble_eq_true rfl⟩) (wq_pwV hK hP hD hE hS hFc (ci := 4) (q0 := 0) rfl rfl) rfl rfl hl.1 rfl (lv_room (Nat.le_of_ble_eq_true rfl)) dX4_readNumber_142 ⟨Nat.zero_le _, Nat.zero_le _⟩) hP hD hS hFc [0, 1] [] [0, 1] rfl rfl (by decide) (by decide) (by decide) rfl (fun H locs b129 hP hD hS => ?_)
                  clear hFc
                  refine lv_pop hx hb dX4_readNumber_145 rfl ?_
                  refine lv_iconst (v := (-1)) hx hb dX4_readNumber_146 (by decide) ?_
                  obtain ⟨e0, e1, e2⟩ := wq_j3 hG
                  subst e0
                  subst e1
                  subst e2
                  exact W.iret hx hb hr (fun t ht hW => ⟨⟨_, (), rfl, ⟨rfl, trivial⟩, by rw [ht]; exact hP, hD⟩, hS.F ht⟩) hS.2.2 dX4_readNumber_147
                · replace hG := wq_f c125 hG
                  refine lv_iload hx hb dX4_readNumber_123 (lv_at hl 0 rfl) ?_
                  refine lv_if_ne (tgt := 140) hx hb dX4_readNumber_125 (by decide) (fun c130 => absurd (by decide) c130) (fun c130 => ?_)
                  refine lv_iload hx hb dX4_readNumber_128 (lv_at hl 6 rfl) ?_
                  refine lv_iload_n hx hb dX4_readNumber_130 rfl (lv_at hl 3 rfl) ?_
                  refine lv_icmp_lt (tgt := 140) hx hb dX4_readNumber_131 (by decide) (fun c131 => ?_) (fun c131 => ?_)
                  · replace hG := wq_t c131 hG
                    refine lv_aload_n hx hb dX4_readNumber_140 rfl (lv_at hl 2 rfl) ?_
                    refine lv_iload_n hx hb dX4_readNumber_141 rfl (lv_at hl 5 rfl) ?_
                    obtain ⟨v133, w134, g132, hG⟩ := wq_b2_s hG
                    have hFc := va_free (wc := wcX qa cI cJ cZ x_letters x_size z_x_place z_x_fault x_stold) hD hS hA [0, 1] rfl
                    refine wq_di (D := (dC, dI)) (v := v133) (B := wq_Z1) (wr := []) (w1 := wcX qa cI cJ cZ x_letters x_size z_x_place w134 x_stold) (w2 := wcX qa cI cJ cZ x_letters x_size z_x_place w134 x_stold) (va_runV (As := [.int x3]) (rest := []) ⟨hx, hb, hml, hown, hts⟩ (C_X4_failsAt l dC dI cI cJ cZ qa H.size x_letters x_size z_x_place z_x_fault x_stold x3 v133 w134 g132) (cwV 1 hts gX4_readNumber_X4_failsAt rfl rfl rfl hdV_X4_failsAt ⟨Nat.le_of_ble_eq_true rfl, Nat.le_of_ble_eq_true rfl⟩) (wq_pwV hK hP hD hE hS hFc (ci := 4) (q0 := 0) rfl rfl) rfl rfl hl.1 rfl (lv_room (Nat.le_of_ble_eq_true rfl)) dX4_readNumber_142 ⟨Nat.zero_le _, Nat.zero_le _⟩) hP hD hS hFc [0, 1] [] [0, 1] rfl rfl (by decide) (by decide) (by decide) rfl (fun H locs b135 hP hD hS => ?_)
                    clear hFc
                    refine lv_pop hx hb dX4_readNumber_145 rfl ?_
                    refine lv_iconst (v := (-1)) hx hb dX4_readNumber_146 (by decide) ?_
                    obtain ⟨e0, e1, e2⟩ := wq_j3 hG
                    subst e0
                    subst e1
                    subst e2
                    exact W.iret hx hb hr (fun t ht hW => ⟨⟨_, (), rfl, ⟨rfl, trivial⟩, by rw [ht]; exact hP, hD⟩, hS.F ht⟩) hS.2.2 dX4_readNumber_147
                  · replace hG := wq_f c131 hG
                    refine lv_iload hx hb dX4_readNumber_134 (lv_at hl 6 rfl) ?_
                    refine lv_iload_n hx hb dX4_readNumber_136 rfl (lv_at hl 4 rfl) ?_
                    refine lv_icmp_le (tgt := 148) hx hb dX4_readNumber_137 (by decide) (fun c136 => ?_) (fun c136 => ?_)
                    · replace hG := wq_t c136 hG
                      refine lv_iload hx hb dX4_readNumber_148 (lv_at hl 6 rfl) ?_
                      obtain ⟨e0, e1, e2⟩ := wq_j3 hG
                      subst e0
                      subst e1
                      subst e2
                      exact W.iret hx hb hr (fun t ht hW => ⟨⟨_, (), rfl, ⟨rfl, trivial⟩, by rw [ht]; exact hP, hD⟩, hS.F ht⟩) hS.2.2 dX4_readNumber_150
                    · replace hG := wq_f c136 hG
                      refine lv_aload_n hx hb dX4_readNumber_140 rfl (lv_at hl 2 rfl) ?_
                      refine lv_iload_n hx hb dX4_readNumber_141 rfl (lv_at hl 5 rfl) ?_
                      obtain ⟨v138, w139, g137, hG⟩ := wq_b2_s hG
                      have hFc := va_free (wc := wcX qa cI cJ cZ x_letters x_size z_x_place z_x_fault x_stold) hD hS hA [0, 1] rfl
                      refine wq_di (D := (dC, dI)) (v := v138) (B := wq_Z1) (wr := []) (w1 := wcX qa cI cJ cZ x_letters x_size z_x_place w139 x_stold) (w2 := wcX qa cI cJ cZ x_letters x_size z_x_place w139 x_stold) (va_runV (As := [.int x3]) (rest := []) ⟨hx, hb, hml, hown, hts⟩ (C_X4_failsAt l dC dI cI cJ cZ qa H.size x_letters x_size z_x_place z_x_fault x_stold x3 v138 w139 g137) (cwV 1 hts gX4_readNumber_X4_failsAt rfl rfl rfl hdV_X4_failsAt ⟨Nat.le_of_ble_eq_true rfl, Nat.le_of_ble_eq_true rfl⟩) (wq_pwV hK hP hD hE hS hFc (ci := 4) (q0 := 0) rfl rfl) rfl rfl hl.1 rfl (lv_room (Nat.le_of_ble_eq_true rfl)) dX4_readNumber_142 ⟨Nat.zero_le _, Nat.zero_le _⟩) hP hD hS hFc [0, 1] [] [0, 1] rfl rfl (by decide) (by decide) (by decide) rfl (fun H locs b140 hP hD hS => ?_)
                      clear hFc
                      refine lv_pop hx hb dX4_readNumber_145 rfl ?_
                      refine lv_iconst (v := (-1)) hx hb dX4_readNumber_146 (by decide) ?_
                      obtain ⟨e0, e1, e2⟩ := wq_j3 hG
                      subst e0
                      subst e1
                      subst e2
                      exact W.iret hx hb hr (fun t ht hW => ⟨⟨_, (), rfl, ⟨rfl, trivial⟩, by rw [ht]; exact hP, hD⟩, hS.F ht⟩) hS.2.2 dX4_readNumber_147
              · replace hG := wq_t c124 hG
                refine lv_iconst (v := 1) hx hb dX4_readNumber_110 (by decide) ?_
                refine lv_goto (tgt := 115) hx hb dX4_readNumber_111 (by decide) ?_
                refine lv_istore (lv' := [(6, .int 1), (5, .int (z_x_place - x3)), (0, .ref (qa 1)), (1, .int a1), (2, .int a2), (3, .int x3), (4, .int x4)]) hx hb dX4_readNumber_115 hl (by decide) rfl (fun ls hl => ?_)
                refine lv_iload hx hb dX4_readNumber_117 (lv_at hl 1 rfl) ?_
                refine lv_iconst (v := 1) hx hb dX4_readNumber_119 (by decide) ?_
                refine lv_icmp_lt (tgt := 140) hx hb dX4_readNumber_120 (by decide) (fun c141 => ?_) (fun c141 => ?_)
                · replace hG := wq_t c141 hG
                  refine lv_aload_n hx hb dX4_readNumber_140 rfl (lv_at hl 2 rfl) ?_
                  refine lv_iload_n hx hb dX4_readNumber_141 rfl (lv_at hl 5 rfl) ?_
                  obtain ⟨v143, w144, g142, hG⟩ := wq_b2_s hG
                  have hFc := va_free (wc := wcX qa cI cJ cZ x_letters x_size z_x_place z_x_fault x_stold) hD hS hA [0, 1] rfl
                  refine wq_di (D := (dC, dI)) (v := v143) (B := wq_Z1) (wr := []) (w1 := wcX qa cI cJ cZ x_letters x_size z_x_place w144 x_stold) (w2 := wcX qa cI cJ cZ x_letters x_size z_x_place w144 x_stold) (va_runV (As := [.int x3]) (rest := []) ⟨hx, hb, hml, hown, hts⟩ (C_X4_failsAt l dC dI cI cJ cZ qa H.size x_letters x_size z_x_place z_x_fault x_stold x3 v143 w144 g142) (cwV 1 hts gX4_readNumber_X4_failsAt rfl rfl rfl hdV_X4_failsAt ⟨Nat.le_of_ble_eq_true rfl, Nat.le_of_ble_eq_true rfl⟩) (wq_pwV hK hP hD hE hS hFc (ci := 4) (q0 := 0) rfl rfl) rfl rfl hl.1 rfl (lv_room (Nat.le_of_ble_eq_true rfl)) dX4_readNumber_142 ⟨Nat.zero_le _, Nat.zero_le _⟩) hP hD hS hFc [0, 1] [] [0, 1] rfl rfl (by decide) (by decide) (by decide) rfl (fun H locs b145 hP hD hS => ?_)
                  clear hFc
                  refine lv_pop hx hb dX4_readNumber_145 rfl ?_
                  refine lv_iconst (v := (-1)) hx hb dX4_readNumber_146 (by decide) ?_
                  obtain ⟨e0, e1, e2⟩ := wq_j3 hG
                  subst e0
                  subst e1
                  subst e2
                  exact W.iret hx hb hr (fun t ht hW => ⟨⟨_, (), rfl, ⟨rfl, trivial⟩, by rw [ht]; exact hP, hD⟩, hS.F ht⟩) hS.2.2 dX4_readNumber_147
                · replace hG := wq_f c141 hG
                  refine lv_iload hx hb dX4_readNumber_123 (lv_at hl 0 rfl) ?_
                  refine lv_if_ne (tgt := 140) hx hb dX4_readNumber_125 (by decide) (fun c146 => ?_) (fun c146 => absurd c146 (by decide))
                  refine lv_aload_n hx hb dX4_readNumber_140 rfl (lv_at hl 2 rfl) ?_
                  refine lv_iload_n hx hb dX4_readNumber_141 rfl (lv_at hl 5 rfl) ?_
                  obtain ⟨v148, w149, g147, hG⟩ := wq_b2_s hG
                  have hFc := va_free (wc := wcX qa cI cJ cZ x_letters x_size z_x_place z_x_fault x_stold) hD hS hA [0, 1] rfl
                  refine wq_di (D := (dC, dI)) (v := v148) (B := wq_Z1) (wr := []) (w1 := wcX qa cI cJ cZ x_letters x_size z_x_place w149 x_stold) (w2 := wcX qa cI cJ cZ x_letters x_size z_x_place w149 x_stold) (va_runV (As := [.int x3]) (rest := []) ⟨hx, hb, hml, hown, hts⟩ (C_X4_failsAt l dC dI cI cJ cZ qa H.size x_letters x_size z_x_place z_x_fault x_stold x3 v148 w149 g147) (cwV 1 hts gX4_readNumber_X4_failsAt rfl rfl rfl hdV_X4_failsAt ⟨Nat.le_of_ble_eq_true rfl, Nat.le_of_ble_eq_true rfl⟩) (wq_pwV hK hP hD hE hS hFc (ci := 4) (q0 := 0) rfl rfl) rfl rfl hl.1 rfl (lv_room (Nat.le_of_ble_eq_true rfl)) dX4_readNumber_142 ⟨Nat.zero_le _, Nat.zero_le _⟩) hP hD hS hFc [0, 1] [] [0, 1] rfl rfl (by decide) (by decide) (by decide) rfl (fun H locs b150 hP hD hS => ?_)
                  clear hFc
                  refine lv_pop hx hb dX4_readNumber_145 rfl ?_
                  refine lv_iconst (v := (-1)) hx hb dX4_readNumber_146 (by decide) ?_
                  obtain ⟨e0, e1, e2⟩ := wq_j3 hG
                  subst e0
                  subst e1
                  subst e2
                  exact W.iret hx hb hr (fun t ht hW => ⟨⟨_, (), rfl, ⟨rfl, trivial⟩, by rw [ht]; exact hP, hD⟩, hS.F ht⟩) hS.2.2 dX4_readNumber_147
          · replace hG := wq_f c103 hG
            refine lv_bipush (v := 100) hx hb dX4_readNumber_49 (by decide) ?_
            refine lv_iload hx hb dX4_readNumber_51 (lv_at hl 4 rfl) ?_
            refine lv_bipush (v := 10) hx hb dX4_readNumber_53 (by decide) ?_
            refine lv_imul hx hb dX4_readNumber_55 ?_
            refine lv_aload_n hx hb dX4_readNumber_56 rfl (lv_at hl 0 rfl) ?_
            refine lv_aload_n hx hb dX4_readNumber_57 rfl (lv_at hl 0 rfl) ?_
            refine va_get (D := (dC, dI)) (ci := 4) (v := .int z_x_place) (C := RX4) (T := TX4) (N := 5) hx hb hts hinX4 hown hK hP 0 rfl rfl 2 (by decide) k1 (fun _ h9 => h9) rfl dX4_readNumber_58 ?_
            obtain ⟨v152, g151, hG⟩ := wq_b1_s hG
            refine wq_ci (v := v152) (B := wq_tr) (va_runV (As := [.int z_x_place]) (rest := [.int (x4 * 10), .int 100]) ⟨hx, hb, hml, hown, hts⟩ (C_X4_letterAt l dC dI cI cJ cZ qa H.size x_letters x_size z_x_place z_x_fault x_stold z_x_place v152 g151) (cwV 1 hts gX4_readNumber_X4_letterAt rfl rfl rfl hdV_X4_letterAt ⟨Nat.le_of_ble_eq_true rfl, Nat.le_of_ble_eq_true rfl⟩) (wq_ppV hK hP hE hS hA (ci := 4) (q0 := 0) rfl rfl) rfl rfl hl.1 rfl (lv_room (Nat.le_of_ble_eq_true rfl)) dX4_readNumber_61 ⟨Nat.zero_le _, Nat.zero_le _⟩) hS hA (fun H locs b153 hk hS => ?_)
            replace hP := wq_kp hP hk
            clear hk
            refine lv_iadd hx hb dX4_readNumber_64 ?_
            refine lv_bipush (v := 48) hx hb dX4_readNumber_65 (by decide) ?_
            refine lv_isub hx hb dX4_readNumber_67 ?_
            refine va_mmin (x := 100) (y := (((x4 * 10) + v152) - 48)) hx hb (hml.trans hl.1.symm) hown k3 k4 k5 k6 (Nat.le_of_ble_eq_true rfl) (Nat.le_of_ble_eq_true rfl) (Nat.zero_le _) (Nat.zero_le _) dX4_readNumber_68 ?_
            refine lv_istore (lv' := [(4, .int (if (((x4 * 10) + v152) - 48) < 100 then (((x4 * 10) + v152) - 48) else 100)), (0, .ref (qa 1)), (1, .int a1), (2, .int a2), (3, .int x3)]) hx hb dX4_readNumber_71 hl (by decide) rfl (fun ls hl => ?_)
            refine lv_aload_n hx hb dX4_readNumber_73 rfl (lv_at hl 1 rfl) ?_
            refine lv_dup hx hb dX4_readNumber_74 rfl ?_
            refine va_get (D := (dC, dI)) (ci := 4) (v := .int z_x_place) (C := RX4) (T := TX4) (N := 5) hx hb hts hinX4 hown hK hP 0 rfl rfl 2 (by decide) k1 (fun _ h9 => h9) rfl dX4_readNumber_75 ?_
            refine lv_iconst (v := 1) hx hb dX4_readNumber_78 (by decide) ?_
            refine lv_iadd hx hb dX4_readNumber_79 ?_
            refine va_put (D := (dC, dI)) (ci := 4) (v := .int (z_x_place + 1)) (ty := tyX4 2) (C := RX4) (T := TX4) (N := 5) hx hb hts hinX4 tyX4 tyX4_ok nmX4 hown hK hP hD hS 0 rfl rfl 2 (by decide) k1 (fun _ h9 => h9) rfl (tyX4_ok 2 (by decide)) rfl rfl (Nat.le_of_ble_eq_true rfl) dX4_readNumber_80 (fun H locs hP hD hS => ?_)
            replace hP : va_P (dC, dI) vwCl (wcX qa cI cJ cZ x_letters x_size (z_x_place + 1) z_x_fault x_stold) H := hP
            replace hD : va_D A (wcX qa cI cJ cZ x_letters x_size (z_x_place + 1) z_x_fault x_stold) := hD
            refine lv_goto (tgt := 12) hx hb dX4_readNumber_83 (by decide) ?_
            exact ih12 (if (((x4 * 10) + v152) - 48) < 100 then (((x4 * 10) + v152) - 48) else 100) (z_x_place + 1) _ _ _ hG hP hD hS (lv_sub hl [1, 2, 3, 4, 0] rfl)
  unfold gX4_readNumber at hG
  refine lv_aload_n hx hb dX4_readNumber_0 rfl (lv_at hl 0 rfl) ?_
  obtain ⟨w155, g154, hG⟩ := wq_b1_s hG
  have hFc := va_free (wc := wcX qa cI cJ cZ x_letters x_size x_place x_fault x_stold) hD hS hA [0, 1] rfl
  refine wq_dv (D := (dC, dI)) (wr := []) (w1 := wcX qa cI cJ cZ x_letters x_size w155 x_fault x_stold) (w2 := wcX qa cI cJ cZ x_letters x_size w155 x_fault x_stold) (va_runV (As := []) (rest := []) ⟨hx, hb, hml, hown, hts⟩ (C_X4_skipBlanks l dC dI cI cJ cZ qa s.heap.size x_letters x_size x_place x_fault x_stold  w155 g154) (cwV 0 hts gX4_readNumber_X4_skipBlanks rfl rfl rfl hdV_X4_skipBlanks ⟨Nat.le_of_ble_eq_true rfl, Nat.le_of_ble_eq_true rfl⟩) (wq_pwV hK hP hD hE hS hFc (ci := 4) (q0 := 0) rfl rfl) rfl rfl hl.1 rfl (lv_room (Nat.le_of_ble_eq_true rfl)) dX4_readNumber_1 ⟨Nat.zero_le _, Nat.zero_le _⟩) hP hD hS hFc [0, 1] [] [0, 1] rfl rfl (by decide) (by decide) (by decide) rfl (fun H locs hP hD hS => ?_)
  clear hFc
  refine lv_aload_n hx hb dX4_readNumber_4 rfl (lv_at hl 0 rfl) ?_
  refine va_get (D := (dC, dI)) (ci := 4) (v := .int w155) (C := RX4) (T := TX4) (N := 5) hx hb hts hinX4 hown hK hP 0 rfl rfl 2 (by decide) k1 (fun _ h9 => h9) rfl dX4_readNumber_5 ?_
  refine lv_istore_n (lv' := [(3, .int w155), (0, .ref (qa 1)), (1, .int a1), (2, .int a2)]) hx hb dX4_readNumber_8 rfl hl (by decide) rfl (fun ls hl => ?_)
  refine lv_iconst (v := 0) hx hb dX4_readNumber_9 (by decide) ?_
  refine lv_istore (lv' := [(4, .int 0), (3, .int w155), (0, .ref (qa 1)), (1, .int a1), (2, .int a2)]) hx hb dX4_readNumber_10 hl (by decide) rfl (fun ls hl => ?_)
  exact hL12 x_fault w155 1000 0 w155 _ _ _ hG hP hD hS (lv_sub hl [2, 3, 4, 1, 0] rfl)

theorem hdV_X5_addGoodbye : yX5_addGoodbye.cls = RX5 ∧ yX5_addGoodbye.cls ≠ "java/lang/invoke/MethodHandle" ∧ yX5_addGoodbye.cls ≠ "java/lang/invoke/VarHandle" ∧ (parseMethodDescriptor yX5_addGoodbye.desc).map (fun d => d.parameters.length) = some 2 := by decide +kernel
set_option maxHeartbeats 4000000 in
set_option maxRecDepth 100000 in
theorem C_X5_addGoodbye (l : Launch) (dC : Nat → ClassId) (dI : Nat → Nat → Nat) (cI cJ cZ : ClassId) (qa : Nat → Nat) (sz : Nat) (d_tears : Nat → Int32) (d_gains : Nat → Int32) (d_likings : Nat → Int32) (d_settings : Nat → Int32) (d_goodbyes : Int32) (d_women : Int32) (a1 : Int32) (a2 : Int32) (r_d_tears : Nat → Int32) (r_d_gains : Nat → Int32) (r_d_goodbyes : Int32) (hG : gX5_addGoodbye d_tears d_gains d_goodbyes a1 a2 = some (r_d_tears, r_d_gains, r_d_goodbyes)) : Met l yX5_addGoodbye wsX5_addGoodbye ({ frames := 0, cells := 0, slots := 0, locals := 0 } : Room) (va_Pc [.ref (qa 21), .int a1, .int a2] (wq_pw (dC, dI) [(cI, .int), (cJ, .long), (cZ, .boolean)] (wcD qa cI cJ cZ d_tears d_gains d_likings d_settings d_goodbyes d_women) sz)) (wq_Wv (dC, dI) (wcD qa cI cJ cZ r_d_tears r_d_gains d_likings d_settings r_d_goodbyes d_women) (va_A (wcD qa cI cJ cZ d_tears d_gains d_likings d_settings d_goodbyes d_women) sz)) 0 0 (va_A (wcD qa cI cJ cZ d_tears d_gains d_likings d_settings d_goodbyes d_women) sz) := by
  refine Met.ofW (cc := cX5_addGoodbye) (maxL := 3) (ret := none) (by decide) rfl ?_
  intro p e s m args below meth c s₁ B hml hv
  obtain ⟨rfl, hsz, hP, hK, hD0, hE⟩ := hv
  have hx := B.exec
  have hb := B.bytes
  have hr := B.returns
  have hts := atoms_spec (ws := wsX5_addGoodbye) B.pre
  have hown : s.vm.findClass RX5 = some m.cls := findClass_of_methodNamed B.named
  have hlocks := B.notSynchronized
  subst hsz
  have hD := hD0.self (sz := s.heap.size)
  generalize hAe : va_A (wcD qa cI cJ cZ d_tears d_gains d_likings d_settings d_goodbyes d_women) s.heap.size = A at hD hE ⊢
  have hA : ∀ q : Nat, s.heap.size ≤ q → A q := fun q h => by rw [← hAe]; exact Or.inr h
  have hS : va_S A s.heap s.heap [] := va_S.rf
  have hinX5 : ∀ w ∈ u_ws RX5 TX5 6, w ∈ wsX5_addGoodbye := by decide +kernel
  have k1 := hts (.fieldLink RX5 32 "DoorMornings$Told" "goodbyes" "I") (by decide +kernel)
  have k2 := hts (.fieldLink RX5 9 "DoorMornings$Told" "tears" "[I") (by decide +kernel)
  have k3 := hts (.fieldLink RX5 15 "DoorMornings$Told" "gains" "[I") (by decide +kernel)
  have hl := lv_entry ([.ref (qa 21), .int a1, .int a2]) (n := 3) (Nat.le_of_ble_eq_true rfl)
  rw [lg_entry_eq]
  generalize (lg_sl ([.ref (qa 21), .int a1, .int a2]) ++ List.replicate (3 - (lg_sl ([.ref (qa 21), .int a1, .int a2])).length) Slot.unset).toArray = ls at hl ⊢
  have hl : lv_has ls 3 [(0, .ref (qa 21)), (1, .int a1), (2, .int a2)] := hl
  unfold gX5_addGoodbye at hG
  refine lv_aload_n hx hb dX5_addGoodbye_0 rfl (lv_at hl 0 rfl) ?_
  refine va_get (D := (dC, dI)) (ci := 5) (v := .int d_goodbyes) (C := RX5) (T := TX5) (N := 6) hx hb hts hinX5 hown hK hP 0 rfl rfl 4 (by decide) k1 (fun _ h9 => h9) rfl dX5_addGoodbye_1 ?_
  refine lv_if_lt (tgt := 15) hx hb dX5_addGoodbye_4 (by decide) (fun c1 => ?_) (fun c1 => ?_)
  · replace hG := wq_t c1 hG
    obtain ⟨e0, e1, e2⟩ := wq_j3 hG
    subst e0
    subst e1
    subst e2
    exact W.vret hx hb hr (fun t ht hW => ⟨⟨(), rfl, trivial, by rw [ht]; exact hP, hD⟩, hS.F ht⟩) hS.2.2 dX5_addGoodbye_15
  · replace hG := wq_f c1 hG
    refine lv_aload_n hx hb dX5_addGoodbye_7 rfl (lv_at hl 0 rfl) ?_
    refine va_get (D := (dC, dI)) (ci := 5) (v := .int d_goodbyes) (C := RX5) (T := TX5) (N := 6) hx hb hts hinX5 hown hK hP 0 rfl rfl 4 (by decide) k1 (fun _ h9 => h9) rfl dX5_addGoodbye_8 ?_
    refine lv_iconst (v := 5) hx hb dX5_addGoodbye_11 (by decide) ?_
    refine lv_icmp_lt (tgt := 16) hx hb dX5_addGoodbye_12 (by decide) (fun c2 => ?_) (fun c2 => ?_)
    · replace hG := wq_t c2 hG
      refine lv_aload_n hx hb dX5_addGoodbye_16 rfl (lv_at hl 0 rfl) ?_
      refine va_get (D := (dC, dI)) (ci := 5) (v := .ref (qa 22)) (C := RX5) (T := TX5) (N := 6) hx hb hts hinX5 hown hK hP 0 rfl rfl 0 (by decide) k2 (fun _ h9 => h9) rfl dX5_addGoodbye_17 ?_
      refine lv_aload_n hx hb dX5_addGoodbye_20 rfl (lv_at hl 0 rfl) ?_
      refine va_get (D := (dC, dI)) (ci := 5) (v := .int d_goodbyes) (C := RX5) (T := TX5) (N := 6) hx hb hts hinX5 hown hK hP 0 rfl rfl 4 (by decide) k1 (fun _ h9 => h9) rfl dX5_addGoodbye_21 ?_
      refine lv_iload_n hx hb dX5_addGoodbye_24 rfl (lv_at hl 1 rfl) ?_
      obtain ⟨h3, hG⟩ := wq_chk_s hG
      refine wq_iast (D := (dC, dI)) hx hb hK hP hD hS 1 0 rfl rfl h3 (Int32.toNatClampNeg d_goodbyes) rfl (wcD qa cI cJ cZ (upd d_tears (Int32.toNatClampNeg d_goodbyes) a1) d_gains d_likings d_settings d_goodbyes d_women) rfl dX5_addGoodbye_25 (fun H locs hP hD hS => ?_)
      refine lv_aload_n hx hb dX5_addGoodbye_26 rfl (lv_at hl 0 rfl) ?_
      refine va_get (D := (dC, dI)) (ci := 5) (v := .ref (qa 23)) (C := RX5) (T := TX5) (N := 6) hx hb hts hinX5 hown hK hP 0 rfl rfl 1 (by decide) k3 (fun _ h9 => h9) rfl dX5_addGoodbye_27 ?_
      refine lv_aload_n hx hb dX5_addGoodbye_30 rfl (lv_at hl 0 rfl) ?_
      refine va_get (D := (dC, dI)) (ci := 5) (v := .int d_goodbyes) (C := RX5) (T := TX5) (N := 6) hx hb hts hinX5 hown hK hP 0 rfl rfl 4 (by decide) k1 (fun _ h9 => h9) rfl dX5_addGoodbye_31 ?_
      refine lv_iload_n hx hb dX5_addGoodbye_34 rfl (lv_at hl 2 rfl) ?_
      refine wq_iast (D := (dC, dI)) hx hb hK hP hD hS 2 0 rfl rfl h3 (Int32.toNatClampNeg d_goodbyes) rfl (wcD qa cI cJ cZ (upd d_tears (Int32.toNatClampNeg d_goodbyes) a1) (upd d_gains (Int32.toNatClampNeg d_goodbyes) a2) d_likings d_settings d_goodbyes d_women) rfl dX5_addGoodbye_35 (fun H locs hP hD hS => ?_)
      refine lv_aload_n hx hb dX5_addGoodbye_36 rfl (lv_at hl 0 rfl) ?_
      refine lv_dup hx hb dX5_addGoodbye_37 rfl ?_
      refine va_get (D := (dC, dI)) (ci := 5) (v := .int d_goodbyes) (C := RX5) (T := TX5) (N := 6) hx hb hts hinX5 hown hK hP 0 rfl rfl 4 (by decide) k1 (fun _ h9 => h9) rfl dX5_addGoodbye_38 ?_
      refine lv_iconst (v := 1) hx hb dX5_addGoodbye_41 (by decide) ?_
      refine lv_iadd hx hb dX5_addGoodbye_42 ?_
      refine va_put (D := (dC, dI)) (ci := 5) (v := .int (d_goodbyes + 1)) (ty := tyX5 4) (C := RX5) (T := TX5) (N := 6) hx hb hts hinX5 tyX5 tyX5_ok nmX5 hown hK hP hD hS 0 rfl rfl 4 (by decide) k1 (fun _ h9 => h9) rfl (tyX5_ok 4 (by decide)) rfl rfl (Nat.le_of_ble_eq_true rfl) dX5_addGoodbye_43 (fun H locs hP hD hS => ?_)
      replace hP : va_P (dC, dI) vwCl (wcD qa cI cJ cZ (upd d_tears (Int32.toNatClampNeg d_goodbyes) a1) (upd d_gains (Int32.toNatClampNeg d_goodbyes) a2) d_likings d_settings (d_goodbyes + 1) d_women) H := hP
      replace hD : va_D A (wcD qa cI cJ cZ (upd d_tears (Int32.toNatClampNeg d_goodbyes) a1) (upd d_gains (Int32.toNatClampNeg d_goodbyes) a2) d_likings d_settings (d_goodbyes + 1) d_women) := hD
      obtain ⟨e0, e1, e2⟩ := wq_j3 hG
      subst e0
      subst e1
      subst e2
      exact W.vret hx hb hr (fun t ht hW => ⟨⟨(), rfl, trivial, by rw [ht]; exact hP, hD⟩, hS.F ht⟩) hS.2.2 dX5_addGoodbye_46
    · replace hG := wq_f c2 hG
      obtain ⟨e0, e1, e2⟩ := wq_j3 hG
      subst e0
      subst e1
      subst e2
      exact W.vret hx hb hr (fun t ht hW => ⟨⟨(), rfl, trivial, by rw [ht]; exact hP, hD⟩, hS.F ht⟩) hS.2.2 dX5_addGoodbye_15

theorem hdV_X4_readEnd : yX4_readEnd.cls = RX4 ∧ yX4_readEnd.cls ≠ "java/lang/invoke/MethodHandle" ∧ yX4_readEnd.cls ≠ "java/lang/invoke/VarHandle" ∧ (parseMethodDescriptor yX4_readEnd.desc).map (fun d => d.parameters.length) = some 0 := by decide +kernel
set_option maxHeartbeats 4000000 in
set_option maxRecDepth 100000 in
theorem C_X4_readEnd (l : Launch) (dC : Nat → ClassId) (dI : Nat → Nat → Nat) (cI cJ cZ : ClassId) (qa : Nat → Nat) (sz : Nat) (x_letters : Nat → Int32) (x_size : Int32) (x_place : Int32) (x_fault : Int32) (x_stold : Int32) (r0 : Int32) (r_x_place : Int32) (r_x_fault : Int32) (hG : gX4_readEnd x_letters x_size x_place x_fault = some (r0, r_x_place, r_x_fault)) : Met l yX4_readEnd wsX4_readEnd ({ frames := 2, cells := 0, slots := 0, locals := 41 } : Room) (va_Pc [.ref (qa 1)] (wq_pw (dC, dI) [(cI, .int), (cJ, .long), (cZ, .boolean)] (wcX qa cI cJ cZ x_letters x_size x_place x_fault x_stold) sz)) (wq_Wi (dC, dI) r0 wq_Z1 (wcX qa cI cJ cZ x_letters x_size r_x_place r_x_fault x_stold) (va_A (wcX qa cI cJ cZ x_letters x_size x_place x_fault x_stold) sz)) 0 0 (va_A (wcX qa cI cJ cZ x_letters x_size x_place x_fault x_stold) sz) := by
  refine Met.ofW (cc := cX4_readEnd) (maxL := 1) (ret := (some .boolean)) (by decide) rfl ?_
  intro p e s m args below meth c s₁ B hml hv
  obtain ⟨rfl, hsz, hP, hK, hD0, hE⟩ := hv
  have hx := B.exec
  have hb := B.bytes
  have hr := B.returns
  have hts := atoms_spec (ws := wsX4_readEnd) B.pre
  have hown : s.vm.findClass RX4 = some m.cls := findClass_of_methodNamed B.named
  have hlocks := B.notSynchronized
  subst hsz
  have hD := hD0.self (sz := s.heap.size)
  generalize hAe : va_A (wcX qa cI cJ cZ x_letters x_size x_place x_fault x_stold) s.heap.size = A at hD hE ⊢
  have hA : ∀ q : Nat, s.heap.size ≤ q → A q := fun q h => by rw [← hAe]; exact Or.inr h
  have hS : va_S A s.heap s.heap [] := va_S.rf
  have hinX4 : ∀ w ∈ u_ws RX4 TX4 5, w ∈ wsX4_readEnd := by decide +kernel
  have k1 := hts (.fieldLink RX4 19 "DoorMornings$Text" "place" "I") (by decide +kernel)
  have hl := lv_entry ([.ref (qa 1)]) (n := 1) (Nat.le_of_ble_eq_true rfl)
  rw [lg_entry_eq]
  generalize (lg_sl ([.ref (qa 1)]) ++ List.replicate (1 - (lg_sl ([.ref (qa 1)])).length) Slot.unset).toArray = ls at hl ⊢
  have hl : lv_has ls 1 [(0, .ref (qa 1))] := hl
  unfold gX4_readEnd at hG
  refine lv_aload_n hx hb dX4_readEnd_0 rfl (lv_at hl 0 rfl) ?_
  obtain ⟨w2, g1, hG⟩ := wq_b1_s hG
  have hFc := va_free (wc := wcX qa cI cJ cZ x_letters x_size x_place x_fault x_stold) hD hS hA [0, 1] rfl
  refine wq_dv (D := (dC, dI)) (wr := []) (w1 := wcX qa cI cJ cZ x_letters x_size w2 x_fault x_stold) (w2 := wcX qa cI cJ cZ x_letters x_size w2 x_fault x_stold) (va_runV (As := []) (rest := []) ⟨hx, hb, hml, hown, hts⟩ (C_X4_skipBlanks l dC dI cI cJ cZ qa s.heap.size x_letters x_size x_place x_fault x_stold  w2 g1) (cwV 0 hts gX4_readEnd_X4_skipBlanks rfl rfl rfl hdV_X4_skipBlanks ⟨Nat.le_of_ble_eq_true rfl, Nat.le_of_ble_eq_true rfl⟩) (wq_pwV hK hP hD hE hS hFc (ci := 4) (q0 := 0) rfl rfl) rfl rfl hl.1 rfl (lv_room (Nat.le_of_ble_eq_true rfl)) dX4_readEnd_1 ⟨Nat.zero_le _, Nat.zero_le _⟩) hP hD hS hFc [0, 1] [] [0, 1] rfl rfl (by decide) (by decide) (by decide) rfl (fun H locs hP hD hS => ?_)
  clear hFc
  refine lv_aload_n hx hb dX4_readEnd_4 rfl (lv_at hl 0 rfl) ?_
  refine lv_aload_n hx hb dX4_readEnd_5 rfl (lv_at hl 0 rfl) ?_
  refine va_get (D := (dC, dI)) (ci := 4) (v := .int w2) (C := RX4) (T := TX4) (N := 5) hx hb hts hinX4 hown hK hP 0 rfl rfl 2 (by decide) k1 (fun _ h9 => h9) rfl dX4_readEnd_6 ?_
  obtain ⟨v4, g3, hG⟩ := wq_b1_s hG
  refine wq_ci (v := v4) (B := wq_tr) (va_runV (As := [.int w2]) (rest := []) ⟨hx, hb, hml, hown, hts⟩ (C_X4_letterAt l dC dI cI cJ cZ qa H.size x_letters x_size w2 x_fault x_stold w2 v4 g3) (cwV 1 hts gX4_readEnd_X4_letterAt rfl rfl rfl hdV_X4_letterAt ⟨Nat.le_of_ble_eq_true rfl, Nat.le_of_ble_eq_true rfl⟩) (wq_ppV hK hP hE hS hA (ci := 4) (q0 := 0) rfl rfl) rfl rfl hl.1 rfl (lv_room (Nat.le_of_ble_eq_true rfl)) dX4_readEnd_9 ⟨Nat.zero_le _, Nat.zero_le _⟩) hS hA (fun H locs b5 hk hS => ?_)
  replace hP := wq_kp hP hk
  clear hk
  refine lv_bipush (v := 59) hx hb dX4_readEnd_12 (by decide) ?_
  refine lv_icmp_eq (tgt := 26) hx hb dX4_readEnd_14 (by decide) (fun c6 => ?_) (fun c6 => ?_)
  · replace hG := wq_t c6 hG
    refine lv_aload_n hx hb dX4_readEnd_26 rfl (lv_at hl 0 rfl) ?_
    refine lv_dup hx hb dX4_readEnd_27 rfl ?_
    refine va_get (D := (dC, dI)) (ci := 4) (v := .int w2) (C := RX4) (T := TX4) (N := 5) hx hb hts hinX4 hown hK hP 0 rfl rfl 2 (by decide) k1 (fun _ h9 => h9) rfl dX4_readEnd_28 ?_
    refine lv_iconst (v := 1) hx hb dX4_readEnd_31 (by decide) ?_
    refine lv_iadd hx hb dX4_readEnd_32 ?_
    refine va_put (D := (dC, dI)) (ci := 4) (v := .int (w2 + 1)) (ty := tyX4 2) (C := RX4) (T := TX4) (N := 5) hx hb hts hinX4 tyX4 tyX4_ok nmX4 hown hK hP hD hS 0 rfl rfl 2 (by decide) k1 (fun _ h9 => h9) rfl (tyX4_ok 2 (by decide)) rfl rfl (Nat.le_of_ble_eq_true rfl) dX4_readEnd_33 (fun H locs hP hD hS => ?_)
    replace hP : va_P (dC, dI) vwCl (wcX qa cI cJ cZ x_letters x_size (w2 + 1) x_fault x_stold) H := hP
    replace hD : va_D A (wcX qa cI cJ cZ x_letters x_size (w2 + 1) x_fault x_stold) := hD
    refine lv_iconst (v := 1) hx hb dX4_readEnd_36 (by decide) ?_
    obtain ⟨e0, e1, e2⟩ := wq_j3 hG
    subst e0
    subst e1
    subst e2
    exact W.zret hx hb hr (wq_Z1_n (Or.inr rfl)) (fun t ht hW => ⟨⟨_, (), rfl, ⟨rfl, (Or.inr rfl)⟩, by rw [ht]; exact hP, hD⟩, hS.F ht⟩) hS.2.2 dX4_readEnd_37
  · replace hG := wq_f c6 hG
    refine lv_aload_n hx hb dX4_readEnd_17 rfl (lv_at hl 0 rfl) ?_
    refine lv_aload_n hx hb dX4_readEnd_18 rfl (lv_at hl 0 rfl) ?_
    refine va_get (D := (dC, dI)) (ci := 4) (v := .int w2) (C := RX4) (T := TX4) (N := 5) hx hb hts hinX4 hown hK hP 0 rfl rfl 2 (by decide) k1 (fun _ h9 => h9) rfl dX4_readEnd_19 ?_
    obtain ⟨v8, w9, g7, hG⟩ := wq_b2_s hG
    have hFc := va_free (wc := wcX qa cI cJ cZ x_letters x_size w2 x_fault x_stold) hD hS hA [0, 1] rfl
    refine wq_di (D := (dC, dI)) (v := v8) (B := wq_Z1) (wr := []) (w1 := wcX qa cI cJ cZ x_letters x_size w2 w9 x_stold) (w2 := wcX qa cI cJ cZ x_letters x_size w2 w9 x_stold) (va_runV (As := [.int w2]) (rest := []) ⟨hx, hb, hml, hown, hts⟩ (C_X4_failsAt l dC dI cI cJ cZ qa H.size x_letters x_size w2 x_fault x_stold w2 v8 w9 g7) (cwV 1 hts gX4_readEnd_X4_failsAt rfl rfl rfl hdV_X4_failsAt ⟨Nat.le_of_ble_eq_true rfl, Nat.le_of_ble_eq_true rfl⟩) (wq_pwV hK hP hD hE hS hFc (ci := 4) (q0 := 0) rfl rfl) rfl rfl hl.1 rfl (lv_room (Nat.le_of_ble_eq_true rfl)) dX4_readEnd_22 ⟨Nat.zero_le _, Nat.zero_le _⟩) hP hD hS hFc [0, 1] [] [0, 1] rfl rfl (by decide) (by decide) (by decide) rfl (fun H locs b10 hP hD hS => ?_)
    clear hFc
    obtain ⟨e0, e1, e2⟩ := wq_j3 hG
    subst e0
    subst e1
    subst e2
    exact W.zret hx hb hr (wq_Z1_n b10) (fun t ht hW => ⟨⟨_, (), rfl, ⟨rfl, b10⟩, by rw [ht]; exact hP, hD⟩, hS.F ht⟩) hS.2.2 dX4_readEnd_25

