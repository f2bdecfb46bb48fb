def gX7_waysFrom_L6 (m_told : Nat → Int32) (m_steps : Nat → Int32) (m_rows : Nat → Int32) (a1 : Int32) (a2 : Int32) (a3 : Int32) : Nat → Int32 → Int32 → Option (Int32)
  | 0, _, _ => none
  | n + 1, x4, x5 =>
    if (m_told 0) ≤ x5 then
    some (x4 - x4 / 1000003 * 1000003)
    else
    wq_b1 (gX7_calmTo m_told x5 a1 a2) (fun v3 =>
    wq_b1 (gX7_wildFrom m_told x5 a1 a2) (fun v6 =>
    wq_b1 (gX7_calmly m_told x5 a1 a2) (fun v9 =>
    if a3 = 1 then
    (if v3 < (m_told 5) then
    gX7_waysFrom_L6 m_told m_steps m_rows a1 a2 a3 n (x4 + 0) (x5 + 1)
    else
    gX7_waysFrom_L6 m_told m_steps m_rows a1 a2 a3 n (x4 + ((v3 - (m_told 5)) + 1)) (x5 + 1))
    else
    wq_chk v9 250 (if (m_steps (Int32.toNatClampNeg v9)) = (a3 - 1) then
    wq_b1 (gX7_wildly a1 a2) (fun v21 =>
    if 96 < v6 then
    gX7_waysFrom_L6 m_told m_steps m_rows a1 a2 a3 n ((x4 + ((v3 * (m_rows (Int32.toNatClampNeg v9))) - (v3 * (m_rows (Int32.toNatClampNeg v9))) / 1000003 * 1000003)) + 0) (x5 + 1)
    else
    wq_chk v21 250 (if (m_steps (Int32.toNatClampNeg v21)) = (a3 - 1) then
    gX7_waysFrom_L6 m_told m_steps m_rows a1 a2 a3 n ((x4 + ((v3 * (m_rows (Int32.toNatClampNeg v9))) - (v3 * (m_rows (Int32.toNatClampNeg v9))) / 1000003 * 1000003)) + ((((96 - v6) + 1) * (m_rows (Int32.toNatClampNeg v21))) - (((96 - v6) + 1) * (m_rows (Int32.toNatClampNeg v21))) / 1000003 * 1000003)) (x5 + 1)
    else
    gX7_waysFrom_L6 m_told m_steps m_rows a1 a2 a3 n ((x4 + ((v3 * (m_rows (Int32.toNatClampNeg v9))) - (v3 * (m_rows (Int32.toNatClampNeg v9))) / 1000003 * 1000003)) + 0) (x5 + 1)))
    else
    wq_b1 (gX7_wildly a1 a2) (fun v15 =>
    if 96 < v6 then
    gX7_waysFrom_L6 m_told m_steps m_rows a1 a2 a3 n ((x4 + 0) + 0) (x5 + 1)
    else
    wq_chk v15 250 (if (m_steps (Int32.toNatClampNeg v15)) = (a3 - 1) then
    gX7_waysFrom_L6 m_told m_steps m_rows a1 a2 a3 n ((x4 + 0) + ((((96 - v6) + 1) * (m_rows (Int32.toNatClampNeg v15))) - (((96 - v6) + 1) * (m_rows (Int32.toNatClampNeg v15))) / 1000003 * 1000003)) (x5 + 1)
    else
    gX7_waysFrom_L6 m_told m_steps m_rows a1 a2 a3 n ((x4 + 0) + 0) (x5 + 1)))))))
def gX7_waysFrom (m_told : Nat → Int32) (m_steps : Nat → Int32) (m_rows : Nat → Int32) (a1 : Int32) (a2 : Int32) (a3 : Int32) : Option (Int32) :=
    gX7_waysFrom_L6 m_told m_steps m_rows a1 a2 a3 1000 0 0
theorem hdV_X7_waysFrom : yX7_waysFrom.cls = RX7 ∧ yX7_waysFrom.cls ≠ "java/lang/invoke/MethodHandle" ∧ yX7_waysFrom.cls ≠ "java/lang/invoke/VarHandle" ∧ (parseMethodDescriptor yX7_waysFrom.desc).map (fun d => d.parameters.length) = some 3 := by decide +kernel
set_option maxHeartbeats 4000000 in
set_option maxRecDepth 100000 in
theorem C_X7_waysFrom (l : Launch) (dC : Nat → ClassId) (dI : Nat → Nat → Nat) (cI cJ cZ : ClassId) (qa : Nat → Nat) (sz : Nat) (m_trace : Int64) (m_text : Nat → Int32) (m_typed : Int32) (m_told : Nat → Int32) (m_draft : Nat → Int32) (m_s : Nat → Int32) (m_past : Nat → Int32) (m_known : Int32) (m_images : Nat → Int32) (m_kept : Nat → Int32) (m_notes : Nat → Int32) (m_noted : Int32) (m_at : Int32) (m_sort : Int32) (m_start : Int32) (m_value : Int32) (m_steps : Nat → Int32) (m_rows : Nat → Int32) (m_held : Nat → Int32) (a1 : Int32) (a2 : Int32) (a3 : Int32) (r0 : Int32) (hG : gX7_waysFrom m_told m_steps m_rows a1 a2 a3 = some r0) : Met l yX7_waysFrom wsX7_waysFrom ({ frames := 3, cells := 0, slots := 0, locals := 66 } : Room) (va_Pc [.ref (qa 0), .int a1, .int a2, .int a3] (wq_pp (dC, dI) [(cI, .int), (cJ, .long), (cZ, .boolean)] (wcM qa cI cJ cZ m_trace m_text m_typed m_told m_draft m_s m_past m_known m_images m_kept m_notes m_noted m_at m_sort m_start m_value m_steps m_rows m_held) sz)) (wq_Qi r0 wq_tr (va_A [] sz)) 0 0 (va_A [] sz) := by
  refine Met.ofW (cc := cX7_waysFrom) (maxL := 9) (ret := (some .int)) (by decide) rfl ?_
  intro p e s m args below meth c s₁ B hml hv
  obtain ⟨rfl, hsz, hP, hK, hE⟩ := hv
  have hx := B.exec
  have hb := B.bytes
  have hr := B.returns
  have hts := atoms_spec (ws := wsX7_waysFrom) B.pre
  have hown : s.vm.findClass RX7 = some m.cls := findClass_of_methodNamed B.named
  have hlocks := B.notSynchronized
  subst hsz
  generalize hAe : va_A [] s.heap.size = A at hE ⊢
  have hA : ∀ q : Nat, s.heap.size ≤ q → A q := fun q h => by rw [← hAe]; exact Or.inr h
  have hS : va_S A s.heap s.heap [] := va_S.rf
  have hinX7 : ∀ w ∈ u_ws RX7 TX7 19, w ∈ wsX7_waysFrom := by decide +kernel
  have k1 := hts (.fieldLink RX7 13 "DoorMorningsModel" "told" "[I") (by decide +kernel)
  have k2 := hts (.constant RX7 153 (1000003)) (by decide +kernel)
  have k3 := hts (.fieldLink RX7 35 "DoorMorningsModel" "steps" "[I") (by decide +kernel)
  have k4 := hts (.fieldLink RX7 38 "DoorMorningsModel" "rows" "[I") (by decide +kernel)
  have hl := lv_entry ([.ref (qa 0), .int a1, .int a2, .int a3]) (n := 9) (Nat.le_of_ble_eq_true rfl)
  rw [lg_entry_eq]
  generalize (lg_sl ([.ref (qa 0), .int a1, .int a2, .int a3]) ++ List.replicate (9 - (lg_sl ([.ref (qa 0), .int a1, .int a2, .int a3])).length) Slot.unset).toArray = ls at hl ⊢
  have hl : lv_has ls 9 [(0, .ref (qa 0)), (1, .int a1), (2, .int a2), (3, .int a3)] := hl
  have hL6 : ∀  (n : Nat) (x4 : Int32) (x5 : Int32) (H : Heap) (locs : List Loc) (ls : Array Slot), gX7_waysFrom_L6 m_told m_steps m_rows a1 a2 a3 n x4 x5 = some r0 → va_P (dC, dI) vwCl (wcM qa cI cJ cZ m_trace m_text m_typed m_told m_draft m_s m_past m_known m_images m_kept m_notes m_noted m_at m_sort m_start m_value m_steps m_rows m_held) H → va_S A s.heap H locs → lv_has ls 9 [(0, .ref (qa 0)), (1, .int a1), (2, .int a2), (3, .int a3), (4, .int x4), (5, .int x5)] → W p l e (headSpec wsX7_waysFrom ({ frames := 3, cells := 0, slots := 0, locals := 66 } : Room)).room s m ([.ref (qa 0), .int a1, .int a2, .int a3] : List Value).toArray below meth c H locs 0 0 (MQ below (wq_Qi r0 wq_tr A) ([.ref (qa 0), .int a1, .int a2, .int a3] : List Value).toArray s 0 0 A) (F0 m 6 ls []) := by
    intro  n
    induction n with
    | zero =>
      intro x4 x5 H locs ls hG
      exact absurd (show (none : Option (Int32)) = some r0 from hG) (by intro h9; cases h9)
    | succ n ih6 =>
      intro x4 x5 H locs ls hG hP hS hl
      rw [gX7_waysFrom_L6] at hG
      refine lv_iload hx hb dX7_waysFrom_6 (lv_at hl 5 rfl) ?_
      refine lv_aload_n hx hb dX7_waysFrom_8 rfl (lv_at hl 0 rfl) ?_
      refine va_get (D := (dC, dI)) (ci := 7) (v := .ref (qa 2)) (C := RX7) (T := TX7) (N := 19) hx hb hts hinX7 hown hK hP 0 rfl rfl 3 (by decide) k1 (fun _ h9 => h9) rfl dX7_waysFrom_9 ?_
      refine lv_iconst (v := 0) hx hb dX7_waysFrom_12 (by decide) ?_
      refine wq_iald (D := (dC, dI)) hx hb hK hP 2 0 rfl rfl (wq_lit (by decide)) 0 rfl dX7_waysFrom_13 ?_
      refine lv_icmp_ge (tgt := 181) hx hb dX7_waysFrom_14 (by decide) (fun c1 => ?_) (fun c1 => ?_)
      · replace hG := wq_t c1 hG
        refine lv_iload hx hb dX7_waysFrom_181 (lv_at hl 4 rfl) ?_
        refine lv_ldc (v := 1000003) hx hb hown k2 dX7_waysFrom_183 ?_
        refine lv_irem hx hb dX7_waysFrom_185 (by decide) ?_
        exact W.iret (v := (x4 - x4 / 1000003 * 1000003)) hx hb hr (fun t ht hW => ⟨⟨(x4 - x4 / 1000003 * 1000003), (), rfl, ⟨Option.some.inj hG, trivial⟩, trivial⟩, hS.F ht⟩) hS.2.2 dX7_waysFrom_186
      · replace hG := wq_f c1 hG
        refine lv_aload_n hx hb dX7_waysFrom_17 rfl (lv_at hl 0 rfl) ?_
        refine lv_iload hx hb dX7_waysFrom_18 (lv_at hl 5 rfl) ?_
        refine lv_iload_n hx hb dX7_waysFrom_20 rfl (lv_at hl 1 rfl) ?_
        refine lv_iload_n hx hb dX7_waysFrom_21 rfl (lv_at hl 2 rfl) ?_
        obtain ⟨v3, g2, hG⟩ := wq_b1_s hG
        refine wq_ci (v := v3) (B := wq_tr) (va_runV (As := [.int x5, .int a1, .int a2]) (rest := []) ⟨hx, hb, hml, hown, hts⟩ (C_X7_calmTo l dC dI cI cJ cZ qa H.size m_trace m_text m_typed m_told m_draft m_s m_past m_known m_images m_kept m_notes m_noted m_at m_sort m_start m_value m_steps m_rows m_held x5 a1 a2 v3 g2) (cwV 3 hts gX7_waysFrom_X7_calmTo rfl rfl rfl hdV_X7_calmTo ⟨Nat.le_of_ble_eq_true rfl, Nat.le_of_ble_eq_true rfl⟩) (wq_ppV hK hP hE hS hA (ci := 7) (q0 := 0) rfl rfl) rfl rfl hl.1 rfl (lv_room (Nat.le_of_ble_eq_true rfl)) dX7_waysFrom_22 ⟨Nat.zero_le _, Nat.zero_le _⟩) hS hA (fun H locs b4 hk hS => ?_)
        replace hP := wq_kp hP hk
        clear hk
        refine lv_istore (lv' := [(6, .int v3), (0, .ref (qa 0)), (1, .int a1), (2, .int a2), (3, .int a3), (4, .int x4), (5, .int x5)]) hx hb dX7_waysFrom_25 hl (by decide) rfl (fun ls hl => ?_)
        refine lv_aload_n hx hb dX7_waysFrom_27 rfl (lv_at hl 1 rfl) ?_
        refine lv_iload hx hb dX7_waysFrom_28 (lv_at hl 6 rfl) ?_
        refine lv_iload_n hx hb dX7_waysFrom_30 rfl (lv_at hl 2 rfl) ?_
        refine lv_iload_n hx hb dX7_waysFrom_31 rfl (lv_at hl 3 rfl) ?_
        obtain ⟨v6, g5, hG⟩ := wq_b1_s hG
        refine wq_ci (v := v6) (B := wq_tr) (va_runV (As := [.int x5, .int a1, .int a2]) (rest := []) ⟨hx, hb, hml, hown, hts⟩ (C_X7_wildFrom l dC dI cI cJ cZ qa H.size m_trace m_text m_typed m_told m_draft m_s m_past m_known m_images m_kept m_notes m_noted m_at m_sort m_start m_value m_steps m_rows m_held x5 a1 a2 v6 g5) (cwV 3 hts gX7_waysFrom_X7_wildFrom rfl rfl rfl hdV_X7_wildFrom ⟨Nat.le_of_ble_eq_true rfl, Nat.le_of_ble_eq_true rfl⟩) (wq_ppV hK hP hE hS hA (ci := 7) (q0 := 0) rfl rfl) rfl rfl hl.1 rfl (lv_room (Nat.le_of_ble_eq_true rfl)) dX7_waysFrom_32 ⟨Nat.zero_le _, Nat.zero_le _⟩) hS hA (fun H locs b7 hk hS => ?_)
        replace hP := wq_kp hP hk
        clear hk
        refine lv_istore (lv' := [(7, .int v6), (6, .int v3), (0, .ref (qa 0)), (1, .int a1), (2, .int a2), (3, .int a3), (4, .int x4), (5, .int x5)]) hx hb dX7_waysFrom_35 hl (by decide) rfl (fun ls hl => ?_)
        refine lv_aload_n hx hb dX7_waysFrom_37 rfl (lv_at hl 2 rfl) ?_
        refine lv_iload hx hb dX7_waysFrom_38 (lv_at hl 7 rfl) ?_
        refine lv_iload_n hx hb dX7_waysFrom_40 rfl (lv_at hl 3 rfl) ?_
        refine lv_iload_n hx hb dX7_waysFrom_41 rfl (lv_at hl 4 rfl) ?_
        obtain ⟨v9, g8, hG⟩ := wq_b1_s hG
        refine wq_ci (v := v9) (B := wq_tr) (va_runV (As := [.int x5, .int a1, .int a2]) (rest := []) ⟨hx, hb, hml, hown, hts⟩ (C_X7_calmly l dC dI cI cJ cZ qa H.size m_trace m_text m_typed m_told m_draft m_s m_past m_known m_images m_kept m_notes m_noted m_at m_sort m_start m_value m_steps m_rows m_held x5 a1 a2 v9 g8) (cwV 3 hts gX7_waysFrom_X7_calmly rfl rfl rfl hdV_X7_calmly ⟨Nat.le_of_ble_eq_true rfl, Nat.le_of_ble_eq_true rfl⟩) (wq_ppV hK hP hE hS hA (ci := 7) (q0 := 0) rfl rfl) rfl rfl hl.1 rfl (lv_room (Nat.le_of_ble_eq_true rfl)) dX7_waysFrom_42 ⟨Nat.zero_le _, Nat.zero_le _⟩) hS hA (fun H locs b10 hk hS => ?_)
        replace hP := wq_kp hP hk
        clear hk
        refine lv_istore (lv' := [(8, .int v9), (7, .int v6), (6, .int v3), (0, .ref (qa 0)), (1, .int a1), (2, .int a2), (3, .int a3), (4, .int x4), (5, .int x5)]) hx hb dX7_waysFrom_45 hl (by decide) rfl (fun ls hl => ?_)
        refine lv_iload_n hx hb dX7_waysFrom_47 rfl (lv_at hl 6 rfl) ?_
        refine lv_iconst (v := 1) hx hb dX7_waysFrom_48 (by decide) ?_
        refine lv_icmp_ne (tgt := 86) hx hb dX7_waysFrom_49 (by decide) (fun c11 => ?_) (fun c11 => ?_)
        · replace hG := wq_f c11 hG
          refine lv_iload hx hb dX7_waysFrom_86 (lv_at hl 7 rfl) ?_
          refine lv_aload_n hx hb dX7_waysFrom_88 rfl (lv_at hl 3 rfl) ?_
          refine va_get (D := (dC, dI)) (ci := 7) (v := .ref (qa 9)) (C := RX7) (T := TX7) (N := 19) hx hb hts hinX7 hown hK hP 0 rfl rfl 16 (by decide) k3 (fun _ h9 => h9) rfl dX7_waysFrom_89 ?_
          refine lv_iload hx hb dX7_waysFrom_92 (lv_at hl 0 rfl) ?_
          obtain ⟨h12, hG⟩ := wq_chk_s hG
          refine wq_iald (D := (dC, dI)) hx hb hK hP 9 0 rfl rfl h12 (Int32.toNatClampNeg v9) rfl dX7_waysFrom_94 ?_
          refine lv_iload_n hx hb dX7_waysFrom_95 rfl (lv_at hl 6 rfl) ?_
          refine lv_iconst (v := 1) hx hb dX7_waysFrom_96 (by decide) ?_
          refine lv_isub hx hb dX7_waysFrom_97 ?_
          refine lv_icmp_ne (tgt := 117) hx hb dX7_waysFrom_98 (by decide) (fun c13 => ?_) (fun c13 => ?_)
          · replace hG := wq_f c13 hG
            refine lv_iconst (v := 0) hx hb dX7_waysFrom_117 (by decide) ?_
            refine lv_iadd hx hb dX7_waysFrom_118 ?_
            refine lv_istore (lv' := [(4, .int (x4 + 0)), (8, .int v9), (7, .int v6), (6, .int v3), (0, .ref (qa 0)), (1, .int a1), (2, .int a2), (3, .int a3), (5, .int x5)]) hx hb dX7_waysFrom_119 hl (by decide) rfl (fun ls hl => ?_)
            refine lv_iload_n hx hb dX7_waysFrom_121 rfl (lv_at hl 5 rfl) ?_
            refine lv_iload_n hx hb dX7_waysFrom_122 rfl (lv_at hl 6 rfl) ?_
            obtain ⟨v15, g14, hG⟩ := wq_b1_s hG
            refine wq_ci (v := v15) (B := wq_tr) (va_runS (As := [.int a1, .int a2]) (rest := []) ⟨hx, hb, hml, hown, hts⟩ (C_X7_wildly l dC dI cI cJ cZ qa H.size  a1 a2 v15 g14) (va_cwS 2 hts gX7_waysFrom_X7_wildly rfl rfl rfl hdS_X7_wildly ⟨Nat.le_of_ble_eq_true rfl, Nat.le_of_ble_eq_true rfl⟩) (wq_ppS hK (hP.sub (ws' := []) [] rfl) hE hS hA) rfl rfl hl.1 rfl (lv_room (Nat.le_of_ble_eq_true rfl)) dX7_waysFrom_123 ⟨Nat.zero_le _, Nat.zero_le _⟩) hS hA (fun H locs b16 hk hS => ?_)
            replace hP := wq_kp hP hk
            clear hk
            refine lv_istore (lv' := [(8, .int v15), (4, .int (x4 + 0)), (7, .int v6), (6, .int v3), (0, .ref (qa 0)), (1, .int a1), (2, .int a2), (3, .int a3), (5, .int x5)]) hx hb dX7_waysFrom_126 hl (by decide) rfl (fun ls hl => ?_)
            refine lv_iload hx hb dX7_waysFrom_128 (lv_at hl 1 rfl) ?_
            refine lv_iload hx hb dX7_waysFrom_130 (lv_at hl 2 rfl) ?_
            refine lv_bipush (v := 96) hx hb dX7_waysFrom_132 (by decide) ?_
            refine lv_icmp_gt (tgt := 171) hx hb dX7_waysFrom_134 (by decide) (fun c17 => ?_) (fun c17 => ?_)
            · replace hG := wq_t c17 hG
              refine lv_iconst (v := 0) hx hb dX7_waysFrom_171 (by decide) ?_
              refine lv_iadd hx hb dX7_waysFrom_172 ?_
              refine lv_istore (lv' := [(4, .int ((x4 + 0) + 0)), (8, .int v15), (7, .int v6), (6, .int v3), (0, .ref (qa 0)), (1, .int a1), (2, .int a2), (3, .int a3), (5, .int x5)]) hx hb dX7_waysFrom_173 hl (by decide) rfl (fun ls hl => ?_)
              refine lv_iinc (v := (x5 + 1)) (lv' := [(5, .int (x5 + 1)), (4, .int ((x4 + 0) + 0)), (8, .int v15), (7, .int v6), (6, .int v3), (0, .ref (qa 0)), (1, .int a1), (2, .int a2), (3, .int a3)]) hx hb dX7_waysFrom_175 hl (k := 8) rfl rfl (by decide) rfl (fun ls hl => ?_)
              refine lv_goto (tgt := 6) hx hb dX7_waysFrom_178 (by decide) ?_
              exact ih6 ((x4 + 0) + 0) (x5 + 1) _ _ _ hG hP hS (lv_sub hl [5, 6, 7, 8, 1, 0] rfl)
            · replace hG := wq_f c17 hG
              refine lv_aload_n hx hb dX7_waysFrom_137 rfl (lv_at hl 4 rfl) ?_
              refine va_get (D := (dC, dI)) (ci := 7) (v := .ref (qa 9)) (C := RX7) (T := TX7) (N := 19) hx hb hts hinX7 hown hK hP 0 rfl rfl 16 (by decide) k3 (fun _ h9 => h9) rfl dX7_waysFrom_138 ?_
              refine lv_iload hx hb dX7_waysFrom_141 (lv_at hl 0 rfl) ?_
              obtain ⟨h18, hG⟩ := wq_chk_s hG
              refine wq_iald (D := (dC, dI)) hx hb hK hP 9 0 rfl rfl h18 (Int32.toNatClampNeg v15) rfl dX7_waysFrom_143 ?_
              refine lv_iload_n hx hb dX7_waysFrom_144 rfl (lv_at hl 7 rfl) ?_
              refine lv_iconst (v := 1) hx hb dX7_waysFrom_145 (by decide) ?_
              refine lv_isub hx hb dX7_waysFrom_146 ?_
              refine lv_icmp_ne (tgt := 171) hx hb dX7_waysFrom_147 (by decide) (fun c19 => ?_) (fun c19 => ?_)
              · replace hG := wq_f c19 hG
                refine lv_iconst (v := 0) hx hb dX7_waysFrom_171 (by decide) ?_
                refine lv_iadd hx hb dX7_waysFrom_172 ?_
                refine lv_istore (lv' := [(4, .int ((x4 + 0) + 0)), (8, .int v15), (7, .int v6), (6, .int v3), (0, .ref (qa 0)), (1, .int a1), (2, .int a2), (3, .int a3), (5, .int x5)]) hx hb dX7_waysFrom_173 hl (by decide) rfl (fun ls hl => ?_)
                refine lv_iinc (v := (x5 + 1)) (lv' := [(5, .int (x5 + 1)), (4, .int ((x4 + 0) + 0)), (8, .int v15), (7, .int v6), (6, .int v3), (0, .ref (qa 0)), (1, .int a1), (2, .int a2), (3, .int a3)]) hx hb dX7_waysFrom_175 hl (k := 8) rfl rfl (by decide) rfl (fun ls hl => ?_)
                refine lv_goto (tgt := 6) hx hb dX7_waysFrom_178 (by decide) ?_
                exact ih6 ((x4 + 0) + 0) (x5 + 1) _ _ _ hG hP hS (lv_sub hl [5, 6, 7, 8, 1, 0] rfl)
              · replace hG := wq_t c19 hG
                refine lv_bipush (v := 96) hx hb dX7_waysFrom_150 (by decide) ?_
                refine lv_iload hx hb dX7_waysFrom_152 (lv_at hl 2 rfl) ?_
                refine lv_isub hx hb dX7_waysFrom_154 ?_
                refine lv_iconst (v := 1) hx hb dX7_waysFrom_155 (by decide) ?_
                refine lv_iadd hx hb dX7_waysFrom_156 ?_
                refine lv_aload_n hx hb dX7_waysFrom_157 rfl (lv_at hl 4 rfl) ?_
                refine va_get (D := (dC, dI)) (ci := 7) (v := .ref (qa 10)) (C := RX7) (T := TX7) (N := 19) hx hb hts hinX7 hown hK hP 0 rfl rfl 17 (by decide) k4 (fun _ h9 => h9) rfl dX7_waysFrom_158 ?_
                refine lv_iload hx hb dX7_waysFrom_161 (lv_at hl 0 rfl) ?_
                refine wq_iald (D := (dC, dI)) hx hb hK hP 10 0 rfl rfl h18 (Int32.toNatClampNeg v15) rfl dX7_waysFrom_163 ?_
                refine lv_imul hx hb dX7_waysFrom_164 ?_
                refine lv_ldc (v := 1000003) hx hb hown k2 dX7_waysFrom_165 ?_
                refine lv_irem hx hb dX7_waysFrom_167 (by decide) ?_
                refine lv_goto (tgt := 172) hx hb dX7_waysFrom_168 (by decide) ?_
                refine lv_iadd hx hb dX7_waysFrom_172 ?_
                refine lv_istore (lv' := [(4, .int ((x4 + 0) + ((((96 - v6) + 1) * (m_rows (Int32.toNatClampNeg v15))) - (((96 - v6) + 1) * (m_rows (Int32.toNatClampNeg v15))) / 1000003 * 1000003))), (8, .int v15), (7, .int v6), (6, .int v3), (0, .ref (qa 0)), (1, .int a1), (2, .int a2), (3, .int a3), (5, .int x5)]) hx hb dX7_waysFrom_173 hl (by decide) rfl (fun ls hl => ?_)
                refine lv_iinc (v := (x5 + 1)) (lv' := [(5, .int (x5 + 1)), (4, .int ((x4 + 0) + ((((96 - v6) + 1) * (m_rows (Int32.toNatClampNeg v15))) - (((96 - v6) + 1) * (m_rows (Int32.toNatClampNeg v15))) / 1000003 * 1000003))), (8, .int v15), (7, .int v6), (6, .int v3), (0, .ref (qa 0)), (1, .int a1), (2, .int a2), (3, .int a3)]) hx hb dX7_waysFrom_175 hl (k := 8) rfl rfl (by decide) rfl (fun ls hl => ?_)
                refine lv_goto (tgt := 6) hx hb dX7_waysFrom_178 (by decide) ?_
                exact ih6 ((x4 + 0) + ((((96 - v6) + 1) * (m_rows (Int32.toNatClampNeg v15))) - (((96 - v6) + 1) * (m_rows (Int32.toNatClampNeg v15))) / 1000003 * 1000003)) (x5 + 1) _ _ _ hG hP hS (lv_sub hl [5, 6, 7, 8, 1, 0] rfl)
          · replace hG := wq_t c13 hG
            refine lv_iload hx hb dX7_waysFrom_101 (lv_at hl 2 rfl) ?_
            refine lv_aload_n hx hb dX7_waysFrom_103 rfl (lv_at hl 3 rfl) ?_
            refine va_get (D := (dC, dI)) (ci := 7) (v := .ref (qa 10)) (C := RX7) (T := TX7) (N := 19) hx hb hts hinX7 hown hK hP 0 rfl rfl 17 (by decide) k4 (fun _ h9 => h9) rfl dX7_waysFrom_104 ?_
            refine lv_iload hx hb dX7_waysFrom_107 (lv_at hl 0 rfl) ?_
            refine wq_iald (D := (dC, dI)) hx hb hK hP 10 0 rfl rfl h12 (Int32.toNatClampNeg v9) rfl dX7_waysFrom_109 ?_
            refine lv_imul hx hb dX7_waysFrom_110 ?_
            refine lv_ldc (v := 1000003) hx hb hown k2 dX7_waysFrom_111 ?_
            refine lv_irem hx hb dX7_waysFrom_113 (by decide) ?_
            refine lv_goto (tgt := 118) hx hb dX7_waysFrom_114 (by decide) ?_
            refine lv_iadd hx hb dX7_waysFrom_118 ?_
            refine lv_istore (lv' := [(4, .int (x4 + ((v3 * (m_rows (Int32.toNatClampNeg v9))) - (v3 * (m_rows (Int32.toNatClampNeg v9))) / 1000003 * 1000003))), (8, .int v9), (7, .int v6), (6, .int v3), (0, .ref (qa 0)), (1, .int a1), (2, .int a2), (3, .int a3), (5, .int x5)]) hx hb dX7_waysFrom_119 hl (by decide) rfl (fun ls hl => ?_)
            refine lv_iload_n hx hb dX7_waysFrom_121 rfl (lv_at hl 5 rfl) ?_
            refine lv_iload_n hx hb dX7_waysFrom_122 rfl (lv_at hl 6 rfl) ?_
            obtain ⟨v21, g20, hG⟩ := wq_b1_s hG
            refine wq_ci (v := v21) (B := wq_tr) (va_runS (As := [.int a1, .int a2]) (rest := []) ⟨hx, hb, hml, hown, hts⟩ (C_X7_wildly l dC dI cI cJ cZ qa H.size  a1 a2 v21 g20) (va_cwS 2 hts gX7_waysFrom_X7_wildly rfl rfl rfl hdS_X7_wildly ⟨Nat.le_of_ble_eq_true rfl, Nat.le_of_ble_eq_true rfl⟩) (wq_ppS hK (hP.sub (ws' := []) [] rfl) hE hS hA) rfl rfl hl.1 rfl (lv_room (Nat.le_of_ble_eq_true rfl)) dX7_waysFrom_123 ⟨Nat.zero_le _, Nat.zero_le _⟩) hS hA (fun H locs b22 hk hS => ?_)
            replace hP := wq_kp hP hk
            clear hk
            refine lv_istore (lv' := [(8, .int v21), (4, .int (x4 + ((v3 * (m_rows (Int32.toNatClampNeg v9))) - (v3 * (m_rows (Int32.toNatClampNeg v9))) / 1000003 * 1000003))), (7, .int v6), (6, .int v3), (0, .ref (qa 0)), (1, .int a1), (2, .int a2), (3, .int a3), (5, .int x5)]) hx hb dX7_waysFrom_126 hl (by decide) rfl (fun ls hl => ?_)
            refine lv_iload hx hb dX7_waysFrom_128 (lv_at hl 1 rfl) ?_
            refine lv_iload hx hb dX7_waysFrom_130 (lv_at hl 2 rfl) ?_
            refine lv_bipush (v := 96) hx hb dX7_waysFrom_132 (by decide) ?_
            refine lv_icmp_gt (tgt := 171) hx hb dX7_waysFrom_134 (by decide) (fun c23 => ?_) (fun c23 => ?_)
            · replace hG := wq_t c23 hG
              refine lv_iconst (v := 0) hx hb dX7_waysFrom_171 (by decide) ?_
              refine lv_iadd hx hb dX7_waysFrom_172 ?_
              refine lv_istore (lv' := [(4, .int ((x4 + ((v3 * (m_rows (Int32.toNatClampNeg v9))) - (v3 * (m_rows (Int32.toNatClampNeg v9))) / 1000003 * 1000003)) + 0)), (8, .int v21), (7, .int v6), (6, .int v3), (0, .ref (qa 0)), (1, .int a1), (2, .int a2), (3, .int a3), (5, .int x5)]) hx hb dX7_waysFrom_173 hl (by decide) rfl (fun ls hl => ?_)
              refine lv_iinc (v := (x5 + 1)) (lv' := [(5, .int (x5 + 1)), (4, .int ((x4 + ((v3 * (m_rows (Int32.toNatClampNeg v9))) - (v3 * (m_rows (Int32.toNatClampNeg v9))) / 1000003 * 1000003)) + 0)), (8, .int v21), (7, .int v6), (6, .int v3), (0, .ref (qa 0)), (1, .int a1), (2, .int a2), (3, .int a3)]) hx hb dX7_waysFrom_175 hl (k := 8) rfl rfl (by decide) rfl (fun ls hl => ?_)
              refine lv_goto (tgt := 6) hx hb dX7_waysFrom_178 (by decide) ?_
              exact ih6 ((x4 + ((v3 * (m_rows (Int32.toNatClampNeg v9))) - (v3 * (m_rows (Int32.toNatClampNeg v9))) / 1000003 * 1000003)) + 0) (x5 + 1) _ _ _ hG hP hS (lv_sub hl [5, 6, 7, 8, 1, 0] rfl)
            · replace hG := wq_f c23 hG
              refine lv_aload_n hx hb dX7_waysFrom_137 rfl (lv_at hl 4 rfl) ?_
              refine va_get (D := (dC, dI)) (ci := 7) (v := .ref (qa 9)) (C := RX7) (T := TX7) (N := 19) hx hb hts hinX7 hown hK hP 0 rfl rfl 16 (by decide) k3 (fun _ h9 => h9) rfl dX7_waysFrom_138 ?_
              refine lv_iload hx hb dX7_waysFrom_141 (lv_at hl 0 rfl) ?_
              obtain ⟨h24, hG⟩ := wq_chk_s hG
              refine wq_iald (D := (dC, dI)) hx hb hK hP 9 0 rfl rfl h24 (Int32.toNatClampNeg v21) rfl dX7_waysFrom_143 ?_
              refine lv_iload_n hx hb dX7_waysFrom_144 rfl (lv_at hl 7 rfl) ?_
              refine lv_iconst (v := 1) hx hb dX7_waysFrom_145 (by decide) ?_
              refine lv_isub hx hb dX7_waysFrom_146 ?_
              refine lv_icmp_ne (tgt := 171) hx hb dX7_waysFrom_147 (by decide) (fun c25 => ?_) (fun c25 => ?_)
              · replace hG := wq_f c25 hG
                refine lv_iconst (v := 0) hx hb dX7_waysFrom_171 (by decide) ?_
                refine lv_iadd hx hb dX7_waysFrom_172 ?_
                refine lv_istore (lv' := [(4, .int ((x4 + ((v3 * (m_rows (Int32.toNatClampNeg v9))) - (v3 * (m_rows (Int32.toNatClampNeg v9))) / 1000003 * 1000003)) + 0)), (8, .int v21), (7, .int v6), (6, .int v3), (0, .ref (qa 0)), (1, .int a1), (2, .int a2), (3, .int a3), (5, .int x5)]) hx hb dX7_waysFrom_173 hl (by decide) rfl (fun ls hl => ?_)
                refine lv_iinc (v := (x5 + 1)) (lv' := [(5, .int (x5 + 1)), (4, .int ((x4 + ((v3 * (m_rows (Int32.toNatClampNeg v9))) - (v3 * (m_rows (Int32.toNatClampNeg v9))) / 1000003 * 1000003)) + 0)), (8, .int v21), (7, .int v6), (6, .int v3), (0, .ref (qa 0)), (1, .int a1), (2, .int a2), (3, .int a3)]) hx hb dX7_waysFrom_175 hl (k := 8) rfl rfl (by decide) rfl (fun ls hl => ?_)
                refine lv_goto (tgt := 6) hx hb dX7_waysFrom_178 (by decide) ?_
                exact ih6 ((x4 + ((v3 * (m_rows (Int32.toNatClampNeg v9))) - (v3 * (m_rows (Int32.toNatClampNeg v9))) / 1000003 * 1000003)) + 0) (x5 + 1) _ _ _ hG hP hS (lv_sub hl [5, 6, 7, 8, 1, 0] rfl)
              · replace hG := wq_t c25 hG
                refine lv_bipush (v := 96) hx hb dX7_waysFrom_150 (by decide) ?_
                refine lv_iload hx hb dX7_waysFrom_152 (lv_at hl 2 rfl) ?_
                refine lv_isub hx hb dX7_waysFrom_154 ?_
                refine lv_iconst (v := 1) hx hb dX7_waysFrom_155 (by decide) ?_
                refine lv_iadd hx hb dX7_waysFrom_156 ?_
                refine lv_aload_n hx hb dX7_waysFrom_157 rfl (lv_at hl 4 rfl) ?_
                refine va_get (D := (dC, dI)) (ci := 7) (v := .ref (qa 10)) (C := RX7) (T := TX7) (N := 19) hx hb hts hinX7 hown hK hP 0 rfl rfl 17 (by decide) k4 (fun _ h9 => h9) rfl dX7_waysFrom_158 ?_
                refine lv_iload hx hb dX7_waysFrom_161 (lv_at hl 0 rfl) ?_
                refine wq_iald (D := (dC, dI)) hx hb hK hP 10 0 rfl rfl h24 (Int32.toNatClampNeg v21) rfl dX7_waysFrom_163 ?_
                refine lv_imul hx hb dX7_waysFrom_164 ?_
                refine lv_ldc (v := 1000003) hx hb hown k2 dX7_waysFrom_165 ?_
                refine lv_irem hx hb dX7_waysFrom_167 (by decide) ?_
                refine lv_goto (tgt := 172) hx hb dX7_waysFrom_168 (by decide) ?_
                refine lv_iadd hx hb dX7_waysFrom_172 ?_
                refine lv_istore (lv' := [(4, .int ((x4 + ((v3 * (m_rows (Int32.toNatClampNeg v9))) - (v3 * (m_rows (Int32.toNatClampNeg v9))) / 1000003 * 1000003)) + ((((96 - v6) + 1) * (m_rows (Int32.toNatClampNeg v21))) - (((96 - v6) + 1) * (m_rows (Int32.toNatClampNeg v21))) / 1000003 * 1000003))), (8, .int v21), (7, .int v6), (6, .int v3), (0, .ref (qa 0)), (1, .int a1), (2, .int a2), (3, .int a3), (5, .int x5)]) hx hb dX7_waysFrom_173 hl (by decide) rfl (fun ls hl => ?_)
                refine lv_iinc (v := (x5 + 1)) (lv' := [(5, .int (x5 + 1)), (4, .int ((x4 + ((v3 * (m_rows (Int32.toNatClampNeg v9))) - (v3 * (m_rows (Int32.toNatClampNeg v9))) / 1000003 * 1000003)) + ((((96 - v6) + 1) * (m_rows (Int32.toNatClampNeg v21))) - (((96 - v6) + 1) * (m_rows (Int32.toNatClampNeg v21))) / 1000003 * 1000003))), (8, .int v21), (7, .int v6), (6, .int v3), (0, .ref (qa 0)), (1, .int a1), (2, .int a2), (3, .int a3)]) hx hb dX7_waysFrom_175 hl (k := 8) rfl rfl (by decide) rfl (fun ls hl => ?_)
                refine lv_goto (tgt := 6) hx hb dX7_waysFrom_178 (by decide) ?_
                exact ih6 ((x4 + ((v3 * (m_rows (Int32.toNatClampNeg v9))) - (v3 * (m_rows (Int32.toNatClampNeg v9))) / 1000003 * 1000003)) + ((((96 - v6) + 1) * (m_rows (Int32.toNatClampNeg v21))) - (((96 - v6) + 1) * (m_rows (Int32.toNatClampNeg v21))) / 1000003 * 1000003)) (x5 + 1) _ _ _ hG hP hS (lv_sub hl [5, 6, 7, 8, 1, 0] rfl)
        · replace hG := wq_t c11 hG
          refine lv_iload hx hb dX7_waysFrom_52 (lv_at hl 7 rfl) ?_
          refine lv_iload hx hb dX7_waysFrom_54 (lv_at hl 2 rfl) ?_
          refine lv_aload_n hx hb dX7_waysFrom_56 rfl (lv_at hl 3 rfl) ?_
          refine va_get (D := (dC, dI)) (ci := 7) (v := .ref (qa 2)) (C := RX7) (T := TX7) (N := 19) hx hb hts hinX7 hown hK hP 0 rfl rfl 3 (by decide) k1 (fun _ h9 => h9) rfl dX7_waysFrom_57 ?_
          refine lv_iconst (v := 5) hx hb dX7_waysFrom_60 (by decide) ?_
          refine wq_iald (D := (dC, dI)) hx hb hK hP 2 0 rfl rfl (wq_lit (by decide)) 5 rfl dX7_waysFrom_61 ?_
          refine lv_icmp_lt (tgt := 79) hx hb dX7_waysFrom_62 (by decide) (fun c26 => ?_) (fun c26 => ?_)
          · replace hG := wq_t c26 hG
            refine lv_iconst (v := 0) hx hb dX7_waysFrom_79 (by decide) ?_
            refine lv_iadd hx hb dX7_waysFrom_80 ?_
            refine lv_istore (lv' := [(4, .int (x4 + 0)), (8, .int v9), (7, .int v6), (6, .int v3), (0, .ref (qa 0)), (1, .int a1), (2, .int a2), (3, .int a3), (5, .int x5)]) hx hb dX7_waysFrom_81 hl (by decide) rfl (fun ls hl => ?_)
            refine lv_goto (tgt := 175) hx hb dX7_waysFrom_83 (by decide) ?_
            refine lv_iinc (v := (x5 + 1)) (lv' := [(5, .int (x5 + 1)), (4, .int (x4 + 0)), (8, .int v9), (7, .int v6), (6, .int v3), (0, .ref (qa 0)), (1, .int a1), (2, .int a2), (3, .int a3)]) hx hb dX7_waysFrom_175 hl (k := 8) rfl rfl (by decide) rfl (fun ls hl => ?_)
            refine lv_goto (tgt := 6) hx hb dX7_waysFrom_178 (by decide) ?_
            exact ih6 (x4 + 0) (x5 + 1) _ _ _ hG hP hS (lv_sub hl [5, 6, 7, 8, 1, 0] rfl)
          · replace hG := wq_f c26 hG
            refine lv_iload hx hb dX7_waysFrom_65 (lv_at hl 2 rfl) ?_
            refine lv_aload_n hx hb dX7_waysFrom_67 rfl (lv_at hl 3 rfl) ?_
            refine va_get (D := (dC, dI)) (ci := 7) (v := .ref (qa 2)) (C := RX7) (T := TX7) (N := 19) hx hb hts hinX7 hown hK hP 0 rfl rfl 3 (by decide) k1 (fun _ h9 => h9) rfl dX7_waysFrom_68 ?_
            refine lv_iconst (v := 5) hx hb dX7_waysFrom_71 (by decide) ?_
            refine wq_iald (D := (dC, dI)) hx hb hK hP 2 0 rfl rfl (wq_lit (by decide)) 5 rfl dX7_waysFrom_72 ?_
            refine lv_isub hx hb dX7_waysFrom_73 ?_
            refine lv_iconst (v := 1) hx hb dX7_waysFrom_74 (by decide) ?_
            refine lv_iadd hx hb dX7_waysFrom_75 ?_
            refine lv_goto (tgt := 80) hx hb dX7_waysFrom_76 (by decide) ?_
            refine lv_iadd hx hb dX7_waysFrom_80 ?_
            refine lv_istore (lv' := [(4, .int (x4 + ((v3 - (m_told 5)) + 1))), (8, .int v9), (7, .int v6), (6, .int v3), (0, .ref (qa 0)), (1, .int a1), (2, .int a2), (3, .int a3), (5, .int x5)]) hx hb dX7_waysFrom_81 hl (by decide) rfl (fun ls hl => ?_)
            refine lv_goto (tgt := 175) hx hb dX7_waysFrom_83 (by decide) ?_
            refine lv_iinc (v := (x5 + 1)) (lv' := [(5, .int (x5 + 1)), (4, .int (x4 + ((v3 - (m_told 5)) + 1))), (8, .int v9), (7, .int v6), (6, .int v3), (0, .ref (qa 0)), (1, .int a1), (2, .int a2), (3, .int a3)]) hx hb dX7_waysFrom_175 hl (k := 8) rfl rfl (by decide) rfl (fun ls hl => ?_)
            refine lv_goto (tgt := 6) hx hb dX7_waysFrom_178 (by decide) ?_
            exact ih6 (x4 + ((v3 - (m_told 5)) + 1)) (x5 + 1) _ _ _ hG hP hS (lv_sub hl [5, 6, 7, 8, 1, 0] rfl)
  unfold gX7_waysFrom at hG
  refine lv_iconst (v := 0) hx hb dX7_waysFrom_0 (by decide) ?_
  refine lv_istore (lv' := [(4, .int 0), (0, .ref (qa 0)), (1, .int a1), (2, .int a2), (3, .int a3)]) hx hb dX7_waysFrom_1 hl (by decide) rfl (fun ls hl => ?_)
  refine lv_iconst (v := 0) hx hb dX7_waysFrom_3 (by decide) ?_
  refine lv_istore (lv' := [(5, .int 0), (4, .int 0), (0, .ref (qa 0)), (1, .int a1), (2, .int a2), (3, .int a3)]) hx hb dX7_waysFrom_4 hl (by decide) rfl (fun ls hl => ?_)
  exact hL6  1000 0 0 _ _ _ hG hP hS (lv_sub hl [2, 3, 4, 5, 1, 0] rfl)

