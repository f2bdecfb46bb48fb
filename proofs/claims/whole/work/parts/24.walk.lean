theorem hdV_X7_keeps : yX7_keeps.cls = RX7 ∧ yX7_keeps.cls ≠ "java/lang/invoke/MethodHandle" ∧ yX7_keeps.cls ≠ "java/lang/invoke/VarHandle" ∧ (parseMethodDescriptor yX7_keeps.desc).map (fun d => d.parameters.length) = some 0 := by decide +kernel
set_option maxHeartbeats 4000000 in
set_option maxRecDepth 100000 in
theorem C_X7_keeps (l : Launch) (dC : Nat → ClassId) (dI : Nat → Nat → Nat) (cI cJ cZ : ClassId) (qa : Nat → Nat) (sz : Nat) (m_trace : Int64) (m_text : Nat → Int32) (m_typed : Int32) (m_told : Nat → Int32) (m_draft : Nat → Int32) (m_s : Nat → Int32) (m_past : Nat → Int32) (m_known : Int32) (m_images : Nat → Int32) (m_kept : Nat → Int32) (m_notes : Nat → Int32) (m_noted : Int32) (m_at : Int32) (m_sort : Int32) (m_start : Int32) (m_value : Int32) (m_steps : Nat → Int32) (m_rows : Nat → Int32) (m_held : Nat → Int32) (r_m_past : Nat → Int32) (r_m_known : Int32) (hG : gX7_keeps m_s m_past m_known = some (r_m_past, r_m_known)) : Met l yX7_keeps wsX7_keeps ({ frames := 0, cells := 0, slots := 0, locals := 0 } : Room) (va_Pc [.ref (qa 0)] (wq_pw (dC, dI) [(cI, .int), (cJ, .long), (cZ, .boolean)] (wcM qa cI cJ cZ m_trace m_text m_typed m_told m_draft m_s m_past m_known m_images m_kept m_notes m_noted m_at m_sort m_start m_value m_steps m_rows m_held) sz)) (wq_Wv (dC, dI) (wcM qa cI cJ cZ m_trace m_text m_typed m_told m_draft m_s r_m_past r_m_known m_images m_kept m_notes m_noted m_at m_sort m_start m_value m_steps m_rows m_held) (va_A (wcM qa cI cJ cZ m_trace m_text m_typed m_told m_draft m_s m_past m_known m_images m_kept m_notes m_noted m_at m_sort m_start m_value m_steps m_rows m_held) sz)) 0 0 (va_A (wcM qa cI cJ cZ m_trace m_text m_typed m_told m_draft m_s m_past m_known m_images m_kept m_notes m_noted m_at m_sort m_start m_value m_steps m_rows m_held) sz) := by
  refine Met.ofW (cc := cX7_keeps) (maxL := 2) (ret := none) (by decide) rfl ?_
  intro p e s m args below meth c s₁ B hml hv
  obtain ⟨rfl, hsz, hP, hK, hD0, hE⟩ := hv
  have hx := B.exec
  have hb := B.bytes
  have hr := B.returns
  have hts := atoms_spec (ws := wsX7_keeps) B.pre
  have hown : s.vm.findClass RX7 = some m.cls := findClass_of_methodNamed B.named
  have hlocks := B.notSynchronized
  subst hsz
  have hD := hD0.self (sz := s.heap.size)
  generalize hAe : va_A (wcM qa cI cJ cZ m_trace m_text m_typed m_told m_draft m_s m_past m_known m_images m_kept m_notes m_noted m_at m_sort m_start m_value m_steps m_rows m_held) s.heap.size = A at hD hE ⊢
  have hA : ∀ q : Nat, s.heap.size ≤ q → A q := fun q h => by rw [← hAe]; exact Or.inr h
  have hS : va_S A s.heap s.heap [] := va_S.rf
  have hinX7 : ∀ w ∈ u_ws RX7 TX7 19, w ∈ wsX7_keeps := by decide +kernel
  have k1 := hts (.fieldLink RX7 95 "DoorMorningsModel" "known" "I") (by decide +kernel)
  have k2 := hts (.fieldLink RX7 22 "DoorMorningsModel" "past" "[I") (by decide +kernel)
  have k3 := hts (.fieldLink RX7 19 "DoorMorningsModel" "s" "[I") (by decide +kernel)
  have hl := lv_entry ([.ref (qa 0)]) (n := 2) (Nat.le_of_ble_eq_true rfl)
  rw [lg_entry_eq]
  generalize (lg_sl ([.ref (qa 0)]) ++ List.replicate (2 - (lg_sl ([.ref (qa 0)])).length) Slot.unset).toArray = ls at hl ⊢
  have hl : lv_has ls 2 [(0, .ref (qa 0))] := hl
  have hL50 : ∀ (z_m_known : Int32) (n : Nat) (x1 : Int32) (z_m_past : Nat → Int32) (H : Heap) (locs : List Loc) (ls : Array Slot), gX7_keeps_L50 m_s z_m_known n x1 z_m_past = some (r_m_past, r_m_known) → va_P (dC, dI) vwCl (wcM qa cI cJ cZ m_trace m_text m_typed m_told m_draft m_s z_m_past z_m_known m_images m_kept m_notes m_noted m_at m_sort m_start m_value m_steps m_rows m_held) H → va_D A (wcM qa cI cJ cZ m_trace m_text m_typed m_told m_draft m_s z_m_past z_m_known m_images m_kept m_notes m_noted m_at m_sort m_start m_value m_steps m_rows m_held) → va_S A s.heap H locs → lv_has ls 2 [(0, .ref (qa 0)), (1, .int x1)] → W p l e (headSpec wsX7_keeps ({ frames := 0, cells := 0, slots := 0, locals := 0 } : Room)).room s m ([.ref (qa 0)] : List Value).toArray below meth c H locs 0 0 (MQ below (wq_Wv (dC, dI) (wcM qa cI cJ cZ m_trace m_text m_typed m_told m_draft m_s r_m_past r_m_known m_images m_kept m_notes m_noted m_at m_sort m_start m_value m_steps m_rows m_held) A) ([.ref (qa 0)] : List Value).toArray s 0 0 A) (F0 m 50 ls []) := by
    intro z_m_known n
    induction n with
    | zero =>
      intro x1 z_m_past H locs ls hG
      exact absurd (show (none : Option ((Nat → Int32) × Int32)) = some (r_m_past, r_m_known) from hG) (by intro h9; cases h9)
    | succ n ih50 =>
      intro x1 z_m_past H locs ls hG hP hD hS hl
      rw [gX7_keeps_L50] at hG
      refine lv_iload_n hx hb dX7_keeps_50 rfl (lv_at hl 1 rfl) ?_
      refine lv_bipush (v := 8) hx hb dX7_keeps_51 (by decide) ?_
      refine lv_icmp_ge (tgt := 82) hx hb dX7_keeps_53 (by decide) (fun c1 => ?_) (fun c1 => ?_)
      · replace hG := wq_t c1 hG
        refine lv_aload_n hx hb dX7_keeps_82 rfl (lv_at hl 0 rfl) ?_
        refine lv_dup hx hb dX7_keeps_83 rfl ?_
        refine va_get (D := (dC, dI)) (ci := 7) (v := .int z_m_known) (C := RX7) (T := TX7) (N := 19) hx hb hts hinX7 hown hK hP 0 rfl rfl 7 (by decide) k1 (fun _ h9 => h9) rfl dX7_keeps_84 ?_
        refine lv_iconst (v := 1) hx hb dX7_keeps_87 (by decide) ?_
        refine lv_iadd hx hb dX7_keeps_88 ?_
        refine va_put (D := (dC, dI)) (ci := 7) (v := .int (z_m_known + 1)) (ty := tyX7 7) (C := RX7) (T := TX7) (N := 19) hx hb hts hinX7 tyX7 tyX7_ok nmX7 hown hK hP hD hS 0 rfl rfl 7 (by decide) k1 (fun _ h9 => h9) rfl (tyX7_ok 7 (by decide)) rfl rfl (Nat.le_of_ble_eq_true rfl) dX7_keeps_89 (fun H locs hP hD hS => ?_)
        replace hP : va_P (dC, dI) vwCl (wcM qa cI cJ cZ m_trace m_text m_typed m_told m_draft m_s z_m_past (z_m_known + 1) m_images m_kept m_notes m_noted m_at m_sort m_start m_value m_steps m_rows m_held) H := hP
        replace hD : va_D A (wcM qa cI cJ cZ m_trace m_text m_typed m_told m_draft m_s z_m_past (z_m_known + 1) m_images m_kept m_notes m_noted m_at m_sort m_start m_value m_steps m_rows m_held) := hD
        obtain ⟨e0, e1⟩ := wq_j2 hG
        subst e0
        subst e1
        exact W.vret hx hb hr (fun t ht hW => ⟨⟨(), rfl, trivial, by rw [ht]; exact hP, hD⟩, hS.F ht⟩) hS.2.2 dX7_keeps_92
      · replace hG := wq_f c1 hG
        refine lv_aload_n hx hb dX7_keeps_56 rfl (lv_at hl 0 rfl) ?_
        refine va_get (D := (dC, dI)) (ci := 7) (v := .ref (qa 5)) (C := RX7) (T := TX7) (N := 19) hx hb hts hinX7 hown hK hP 0 rfl rfl 6 (by decide) k2 (fun _ h9 => h9) rfl dX7_keeps_57 ?_
        refine lv_bipush (v := 8) hx hb dX7_keeps_60 (by decide) ?_
        refine lv_aload_n hx hb dX7_keeps_62 rfl (lv_at hl 0 rfl) ?_
        refine va_get (D := (dC, dI)) (ci := 7) (v := .int z_m_known) (C := RX7) (T := TX7) (N := 19) hx hb hts hinX7 hown hK hP 0 rfl rfl 7 (by decide) k1 (fun _ h9 => h9) rfl dX7_keeps_63 ?_
        refine lv_imul hx hb dX7_keeps_66 ?_
        refine lv_iload_n hx hb dX7_keeps_67 rfl (lv_at hl 1 rfl) ?_
        refine lv_iadd hx hb dX7_keeps_68 ?_
        refine lv_aload_n hx hb dX7_keeps_69 rfl (lv_at hl 0 rfl) ?_
        refine va_get (D := (dC, dI)) (ci := 7) (v := .ref (qa 4)) (C := RX7) (T := TX7) (N := 19) hx hb hts hinX7 hown hK hP 0 rfl rfl 5 (by decide) k3 (fun _ h9 => h9) rfl dX7_keeps_70 ?_
        refine lv_iload_n hx hb dX7_keeps_73 rfl (lv_at hl 1 rfl) ?_
        obtain ⟨h2, hG⟩ := wq_chk_s hG
        refine wq_iald (D := (dC, dI)) hx hb hK hP 4 0 rfl rfl h2 (Int32.toNatClampNeg x1) rfl dX7_keeps_74 ?_
        obtain ⟨h3, hG⟩ := wq_chk_s hG
        refine wq_iast (D := (dC, dI)) hx hb hK hP hD hS 5 0 rfl rfl h3 (Int32.toNatClampNeg ((8 * z_m_known) + x1)) rfl (wcM qa cI cJ cZ m_trace m_text m_typed m_told m_draft m_s (upd z_m_past (Int32.toNatClampNeg ((8 * z_m_known) + x1)) (m_s (Int32.toNatClampNeg x1))) z_m_known m_images m_kept m_notes m_noted m_at m_sort m_start m_value m_steps m_rows m_held) rfl dX7_keeps_75 (fun H locs hP hD hS => ?_)
        refine lv_iinc (v := (x1 + 1)) (lv' := [(1, .int (x1 + 1)), (0, .ref (qa 0))]) hx hb dX7_keeps_76 hl (k := 1) rfl rfl (by decide) rfl (fun ls hl => ?_)
        refine lv_goto (tgt := 50) hx hb dX7_keeps_79 (by decide) ?_
        exact ih50 (x1 + 1) (upd z_m_past (Int32.toNatClampNeg ((8 * z_m_known) + x1)) (m_s (Int32.toNatClampNeg x1))) _ _ _ hG hP hD hS (lv_sub hl [1, 0] rfl)
  have hL11 : ∀ (z_m_known : Int32) (n : Nat) (x1 : Int32) (z_m_past : Nat → Int32) (H : Heap) (locs : List Loc) (ls : Array Slot), gX7_keeps_L11 m_s z_m_known n x1 z_m_past = some (r_m_past, r_m_known) → va_P (dC, dI) vwCl (wcM qa cI cJ cZ m_trace m_text m_typed m_told m_draft m_s z_m_past z_m_known m_images m_kept m_notes m_noted m_at m_sort m_start m_value m_steps m_rows m_held) H → va_D A (wcM qa cI cJ cZ m_trace m_text m_typed m_told m_draft m_s z_m_past z_m_known m_images m_kept m_notes m_noted m_at m_sort m_start m_value m_steps m_rows m_held) → va_S A s.heap H locs → lv_has ls 2 [(0, .ref (qa 0)), (1, .int x1)] → W p l e (headSpec wsX7_keeps ({ frames := 0, cells := 0, slots := 0, locals := 0 } : Room)).room s m ([.ref (qa 0)] : List Value).toArray below meth c H locs 0 0 (MQ below (wq_Wv (dC, dI) (wcM qa cI cJ cZ m_trace m_text m_typed m_told m_draft m_s r_m_past r_m_known m_images m_kept m_notes m_noted m_at m_sort m_start m_value m_steps m_rows m_held) A) ([.ref (qa 0)] : List Value).toArray s 0 0 A) (F0 m 11 ls []) := by
    intro z_m_known n
    induction n with
    | zero =>
      intro x1 z_m_past H locs ls hG
      exact absurd (show (none : Option ((Nat → Int32) × Int32)) = some (r_m_past, r_m_known) from hG) (by intro h9; cases h9)
    | succ n ih11 =>
      intro x1 z_m_past H locs ls hG hP hD hS hl
      rw [gX7_keeps_L11] at hG
      refine lv_iload_n hx hb dX7_keeps_11 rfl (lv_at hl 1 rfl) ?_
      refine lv_bipush (v := 72) hx hb dX7_keeps_12 (by decide) ?_
      refine lv_icmp_ge (tgt := 38) hx hb dX7_keeps_14 (by decide) (fun c4 => ?_) (fun c4 => ?_)
      · replace hG := wq_t c4 hG
        refine lv_aload_n hx hb dX7_keeps_38 rfl (lv_at hl 0 rfl) ?_
        refine lv_dup hx hb dX7_keeps_39 rfl ?_
        refine va_get (D := (dC, dI)) (ci := 7) (v := .int z_m_known) (C := RX7) (T := TX7) (N := 19) hx hb hts hinX7 hown hK hP 0 rfl rfl 7 (by decide) k1 (fun _ h9 => h9) rfl dX7_keeps_40 ?_
        refine lv_iconst (v := 1) hx hb dX7_keeps_43 (by decide) ?_
        refine lv_isub hx hb dX7_keeps_44 ?_
        refine va_put (D := (dC, dI)) (ci := 7) (v := .int (z_m_known - 1)) (ty := tyX7 7) (C := RX7) (T := TX7) (N := 19) hx hb hts hinX7 tyX7 tyX7_ok nmX7 hown hK hP hD hS 0 rfl rfl 7 (by decide) k1 (fun _ h9 => h9) rfl (tyX7_ok 7 (by decide)) rfl rfl (Nat.le_of_ble_eq_true rfl) dX7_keeps_45 (fun H locs hP hD hS => ?_)
        replace hP : va_P (dC, dI) vwCl (wcM qa cI cJ cZ m_trace m_text m_typed m_told m_draft m_s z_m_past (z_m_known - 1) m_images m_kept m_notes m_noted m_at m_sort m_start m_value m_steps m_rows m_held) H := hP
        replace hD : va_D A (wcM qa cI cJ cZ m_trace m_text m_typed m_told m_draft m_s z_m_past (z_m_known - 1) m_images m_kept m_notes m_noted m_at m_sort m_start m_value m_steps m_rows m_held) := hD
        refine lv_iconst (v := 0) hx hb dX7_keeps_48 (by decide) ?_
        refine lv_istore_n (lv' := [(1, .int 0), (0, .ref (qa 0))]) hx hb dX7_keeps_49 rfl hl (by decide) rfl (fun ls hl => ?_)
        exact hL50 (z_m_known - 1) 1000 0 z_m_past _ _ _ hG hP hD hS (lv_sub hl [1, 0] rfl)
      · replace hG := wq_f c4 hG
        refine lv_aload_n hx hb dX7_keeps_17 rfl (lv_at hl 0 rfl) ?_
        refine va_get (D := (dC, dI)) (ci := 7) (v := .ref (qa 5)) (C := RX7) (T := TX7) (N := 19) hx hb hts hinX7 hown hK hP 0 rfl rfl 6 (by decide) k2 (fun _ h9 => h9) rfl dX7_keeps_18 ?_
        refine lv_iload_n hx hb dX7_keeps_21 rfl (lv_at hl 1 rfl) ?_
        refine lv_aload_n hx hb dX7_keeps_22 rfl (lv_at hl 0 rfl) ?_
        refine va_get (D := (dC, dI)) (ci := 7) (v := .ref (qa 5)) (C := RX7) (T := TX7) (N := 19) hx hb hts hinX7 hown hK hP 0 rfl rfl 6 (by decide) k2 (fun _ h9 => h9) rfl dX7_keeps_23 ?_
        refine lv_iload_n hx hb dX7_keeps_26 rfl (lv_at hl 1 rfl) ?_
        refine lv_bipush (v := 8) hx hb dX7_keeps_27 (by decide) ?_
        refine lv_iadd hx hb dX7_keeps_29 ?_
        obtain ⟨h5, hG⟩ := wq_chk_s hG
        refine wq_iald (D := (dC, dI)) hx hb hK hP 5 0 rfl rfl h5 (Int32.toNatClampNeg (x1 + 8)) rfl dX7_keeps_30 ?_
        obtain ⟨h6, hG⟩ := wq_chk_s hG
        refine wq_iast (D := (dC, dI)) hx hb hK hP hD hS 5 0 rfl rfl h6 (Int32.toNatClampNeg x1) rfl (wcM qa cI cJ cZ m_trace m_text m_typed m_told m_draft m_s (upd z_m_past (Int32.toNatClampNeg x1) (z_m_past (Int32.toNatClampNeg (x1 + 8)))) z_m_known m_images m_kept m_notes m_noted m_at m_sort m_start m_value m_steps m_rows m_held) rfl dX7_keeps_31 (fun H locs hP hD hS => ?_)
        refine lv_iinc (v := (x1 + 1)) (lv' := [(1, .int (x1 + 1)), (0, .ref (qa 0))]) hx hb dX7_keeps_32 hl (k := 1) rfl rfl (by decide) rfl (fun ls hl => ?_)
        refine lv_goto (tgt := 11) hx hb dX7_keeps_35 (by decide) ?_
        exact ih11 (x1 + 1) (upd z_m_past (Int32.toNatClampNeg x1) (z_m_past (Int32.toNatClampNeg (x1 + 8)))) _ _ _ hG hP hD hS (lv_sub hl [1, 0] rfl)
  unfold gX7_keeps at hG
  refine lv_aload_n hx hb dX7_keeps_0 rfl (lv_at hl 0 rfl) ?_
  refine va_get (D := (dC, dI)) (ci := 7) (v := .int m_known) (C := RX7) (T := TX7) (N := 19) hx hb hts hinX7 hown hK hP 0 rfl rfl 7 (by decide) k1 (fun _ h9 => h9) rfl dX7_keeps_1 ?_
  refine lv_bipush (v := 10) hx hb dX7_keeps_4 (by decide) ?_
  refine lv_icmp_ne (tgt := 48) hx hb dX7_keeps_6 (by decide) (fun c7 => ?_) (fun c7 => ?_)
  · replace hG := wq_f c7 hG
    refine lv_iconst (v := 0) hx hb dX7_keeps_48 (by decide) ?_
    refine lv_istore_n (lv' := [(1, .int 0), (0, .ref (qa 0))]) hx hb dX7_keeps_49 rfl hl (by decide) rfl (fun ls hl => ?_)
    exact hL50 m_known 1000 0 m_past _ _ _ hG hP hD hS (lv_sub hl [1, 0] rfl)
  · replace hG := wq_t c7 hG
    refine lv_iconst (v := 0) hx hb dX7_keeps_9 (by decide) ?_
    refine lv_istore_n (lv' := [(1, .int 0), (0, .ref (qa 0))]) hx hb dX7_keeps_10 rfl hl (by decide) rfl (fun ls hl => ?_)
    exact hL11 m_known 1000 0 m_past _ _ _ hG hP hD hS (lv_sub hl [1, 0] rfl)

theorem hdS_X7_cries : yX7_cries.cls ≠ "java/lang/invoke/MethodHandle" ∧ yX7_cries.cls ≠ "java/lang/invoke/VarHandle" ∧ (parseMethodDescriptor yX7_cries.desc).map (fun d => d.parameters.length) = some 5 := by decide +kernel
set_option maxHeartbeats 4000000 in
set_option maxRecDepth 100000 in
theorem C_X7_cries (l : Launch) (dC : Nat → ClassId) (dI : Nat → Nat → Nat) (cI cJ cZ : ClassId) (qa : Nat → Nat) (sz : Nat) (a0 : Int32) (a1 : Int32) (a2 : Int32) (a3 : Int32) (a4 : Int32) (r0 : Int32) (hG : gX7_cries a0 a1 a2 a3 a4 = some r0) : Met l yX7_cries wsX7_cries ({ frames := 1, cells := 0, slots := 0, locals := 22 } : Room) (va_Pc [.int a0, .int a1, .int a2, .int a3, .int a4] (wq_pp (dC, dI) [(cI, .int), (cJ, .long), (cZ, .boolean)] ([]) sz)) (wq_Qi r0 wq_tr (va_A [] sz)) 0 0 (va_A [] sz) := by
  refine Met.ofW (cc := cX7_cries) (maxL := 6) (ret := (some .int)) (by decide) rfl ?_
  intro p e s m args below meth c s₁ B hml hv
  obtain ⟨rfl, hsz, hP, hK, hE⟩ := hv
  have hx := B.exec
  have hb := B.bytes
  have hr := B.returns
  have hts := atoms_spec (ws := wsX7_cries) B.pre
  have hown : s.vm.findClass RX7 = some m.cls := findClass_of_methodNamed B.named
  have hlocks := B.notSynchronized
  subst hsz
  generalize hAe : va_A [] s.heap.size = A at hE ⊢
  have hA : ∀ q : Nat, s.heap.size ≤ q → A q := fun q h => by rw [← hAe]; exact Or.inr h
  have hS : va_S A s.heap s.heap [] := va_S.rf
  have hl := lv_entry ([.int a0, .int a1, .int a2, .int a3, .int a4]) (n := 6) (Nat.le_of_ble_eq_true rfl)
  rw [lg_entry_eq]
  generalize (lg_sl ([.int a0, .int a1, .int a2, .int a3, .int a4]) ++ List.replicate (6 - (lg_sl ([.int a0, .int a1, .int a2, .int a3, .int a4])).length) Slot.unset).toArray = ls at hl ⊢
  have hl : lv_has ls 6 [(0, .int a0), (1, .int a1), (2, .int a2), (3, .int a3), (4, .int a4)] := hl
  unfold gX7_cries at hG
  refine lv_iload_n hx hb dX7_cries_0 rfl (lv_at hl 3 rfl) ?_
  refine lv_iconst (v := 2) hx hb dX7_cries_1 (by decide) ?_
  refine lv_iload_n hx hb dX7_cries_2 rfl (lv_at hl 2 rfl) ?_
  refine lv_imul hx hb dX7_cries_3 ?_
  refine lv_icmp_le (tgt := 15) hx hb dX7_cries_4 (by decide) (fun c1 => ?_) (fun c1 => ?_)
  · replace hG := wq_t c1 hG
    refine lv_iconst (v := 0) hx hb dX7_cries_15 (by decide) ?_
    refine lv_istore (lv' := [(5, .int 0), (0, .int a0), (1, .int a1), (2, .int a2), (3, .int a3), (4, .int a4)]) hx hb dX7_cries_16 hl (by decide) rfl (fun ls hl => ?_)
    refine lv_iload_n hx hb dX7_cries_18 rfl (lv_at hl 1 rfl) ?_
    refine lv_iload_n hx hb dX7_cries_19 rfl (lv_at hl 2 rfl) ?_
    refine lv_iload hx hb dX7_cries_20 (lv_at hl 0 rfl) ?_
    refine lv_imul hx hb dX7_cries_22 ?_
    refine lv_iadd hx hb dX7_cries_23 ?_
    refine lv_iload hx hb dX7_cries_24 (lv_at hl 5 rfl) ?_
    refine lv_isub hx hb dX7_cries_26 ?_
    refine lv_iconst (v := 0) hx hb dX7_cries_27 (by decide) ?_
    refine lv_bipush (v := 60) hx hb dX7_cries_28 (by decide) ?_
    obtain ⟨v3, g2, hG⟩ := wq_b1_s hG
    refine wq_ci (v := v3) (B := wq_tr) (va_runS (As := [.int ((a0 + (a1 * 0)) - a4), .int 0, .int 60]) (rest := []) ⟨hx, hb, hml, hown, hts⟩ (C_X7_bound l dC dI cI cJ cZ qa s.heap.size  ((a0 + (a1 * 0)) - a4) 0 60 v3 g2) (va_cwS 3 hts gX7_cries_X7_bound rfl rfl rfl hdS_X7_bound ⟨Nat.le_of_ble_eq_true rfl, Nat.le_of_ble_eq_true rfl⟩) (wq_ppS hK (hP.sub (ws' := []) [] rfl) hE hS hA) rfl rfl hl.1 rfl (lv_room (Nat.le_of_ble_eq_true rfl)) dX7_cries_30 ⟨Nat.zero_le _, Nat.zero_le _⟩) hS hA (fun H locs b4 hk hS => ?_)
    replace hP := wq_kp hP hk
    clear hk
    exact W.iret (v := v3) hx hb hr (fun t ht hW => ⟨⟨v3, (), rfl, ⟨Option.some.inj hG, trivial⟩, trivial⟩, hS.F ht⟩) hS.2.2 dX7_cries_33
  · replace hG := wq_f c1 hG
    refine lv_iload_n hx hb dX7_cries_7 rfl (lv_at hl 3 rfl) ?_
    refine lv_iconst (v := 2) hx hb dX7_cries_8 (by decide) ?_
    refine lv_iload_n hx hb dX7_cries_9 rfl (lv_at hl 2 rfl) ?_
    refine lv_imul hx hb dX7_cries_10 ?_
    refine lv_isub hx hb dX7_cries_11 ?_
    refine lv_goto (tgt := 16) hx hb dX7_cries_12 (by decide) ?_
    refine lv_istore (lv' := [(5, .int (a3 - (2 * a2))), (0, .int a0), (1, .int a1), (2, .int a2), (3, .int a3), (4, .int a4)]) hx hb dX7_cries_16 hl (by decide) rfl (fun ls hl => ?_)
    refine lv_iload_n hx hb dX7_cries_18 rfl (lv_at hl 1 rfl) ?_
    refine lv_iload_n hx hb dX7_cries_19 rfl (lv_at hl 2 rfl) ?_
    refine lv_iload hx hb dX7_cries_20 (lv_at hl 0 rfl) ?_
    refine lv_imul hx hb dX7_cries_22 ?_
    refine lv_iadd hx hb dX7_cries_23 ?_
    refine lv_iload hx hb dX7_cries_24 (lv_at hl 5 rfl) ?_
    refine lv_isub hx hb dX7_cries_26 ?_
    refine lv_iconst (v := 0) hx hb dX7_cries_27 (by decide) ?_
    refine lv_bipush (v := 60) hx hb dX7_cries_28 (by decide) ?_
    obtain ⟨v6, g5, hG⟩ := wq_b1_s hG
    refine wq_ci (v := v6) (B := wq_tr) (va_runS (As := [.int ((a0 + (a1 * (a3 - (2 * a2)))) - a4), .int 0, .int 60]) (rest := []) ⟨hx, hb, hml, hown, hts⟩ (C_X7_bound l dC dI cI cJ cZ qa s.heap.size  ((a0 + (a1 * (a3 - (2 * a2)))) - a4) 0 60 v6 g5) (va_cwS 3 hts gX7_cries_X7_bound rfl rfl rfl hdS_X7_bound ⟨Nat.le_of_ble_eq_true rfl, Nat.le_of_ble_eq_true rfl⟩) (wq_ppS hK (hP.sub (ws' := []) [] rfl) hE hS hA) rfl rfl hl.1 rfl (lv_room (Nat.le_of_ble_eq_true rfl)) dX7_cries_30 ⟨Nat.zero_le _, Nat.zero_le _⟩) hS hA (fun H locs b7 hk hS => ?_)
    replace hP := wq_kp hP hk
    clear hk
    exact W.iret (v := v6) hx hb hr (fun t ht hW => ⟨⟨v6, (), rfl, ⟨Option.some.inj hG, trivial⟩, trivial⟩, hS.F ht⟩) hS.2.2 dX7_cries_33

theorem hdV_X7_criesNow : yX7_criesNow.cls = RX7 ∧ yX7_criesNow.cls ≠ "java/lang/invoke/MethodHandle" ∧ yX7_criesNow.cls ≠ "java/lang/invoke/VarHandle" ∧ (parseMethodDescriptor yX7_criesNow.desc).map (fun d => d.parameters.length) = some 3 := by decide +kernel
set_option maxHeartbeats 4000000 in
set_option maxRecDepth 100000 in
theorem C_X7_criesNow (l : Launch) (dC : Nat → ClassId) (dI : Nat → Nat → Nat) (cI cJ cZ : ClassId) (qa : Nat → Nat) (sz : Nat) (m_trace : Int64) (m_text : Nat → Int32) (m_typed : Int32) (m_told : Nat → Int32) (m_draft : Nat → Int32) (m_s : Nat → Int32) (m_past : Nat → Int32) (m_known : Int32) (m_images : Nat → Int32) (m_kept : Nat → Int32) (m_notes : Nat → Int32) (m_noted : Int32) (m_at : Int32) (m_sort : Int32) (m_start : Int32) (m_value : Int32) (m_steps : Nat → Int32) (m_rows : Nat → Int32) (m_held : Nat → Int32) (a1 : Int32) (a2 : Int32) (a3 : Int32) (r0 : Int32) (hG : gX7_criesNow m_told m_s a1 a2 a3 = some r0) : Met l yX7_criesNow wsX7_criesNow ({ frames := 2, cells := 0, slots := 0, locals := 47 } : Room) (va_Pc [.ref (qa 0), .int a1, .int a2, .int a3] (wq_pp (dC, dI) [(cI, .int), (cJ, .long), (cZ, .boolean)] (wcM qa cI cJ cZ m_trace m_text m_typed m_told m_draft m_s m_past m_known m_images m_kept m_notes m_noted m_at m_sort m_start m_value m_steps m_rows m_held) sz)) (wq_Qi r0 wq_tr (va_A [] sz)) 0 0 (va_A [] sz) := by
  refine Met.ofW (cc := cX7_criesNow) (maxL := 4) (ret := (some .int)) (by decide) rfl ?_
  intro p e s m args below meth c s₁ B hml hv
  obtain ⟨rfl, hsz, hP, hK, hE⟩ := hv
  have hx := B.exec
  have hb := B.bytes
  have hr := B.returns
  have hts := atoms_spec (ws := wsX7_criesNow) B.pre
  have hown : s.vm.findClass RX7 = some m.cls := findClass_of_methodNamed B.named
  have hlocks := B.notSynchronized
  subst hsz
  generalize hAe : va_A [] s.heap.size = A at hE ⊢
  have hA : ∀ q : Nat, s.heap.size ≤ q → A q := fun q h => by rw [← hAe]; exact Or.inr h
  have hS : va_S A s.heap s.heap [] := va_S.rf
  have hinX7 : ∀ w ∈ u_ws RX7 TX7 19, w ∈ wsX7_criesNow := by decide +kernel
  have k1 := hts (.fieldLink RX7 13 "DoorMorningsModel" "told" "[I") (by decide +kernel)
  have k2 := hts (.fieldLink RX7 19 "DoorMorningsModel" "s" "[I") (by decide +kernel)
  have hl := lv_entry ([.ref (qa 0), .int a1, .int a2, .int a3]) (n := 4) (Nat.le_of_ble_eq_true rfl)
  rw [lg_entry_eq]
  generalize (lg_sl ([.ref (qa 0), .int a1, .int a2, .int a3]) ++ List.replicate (4 - (lg_sl ([.ref (qa 0), .int a1, .int a2, .int a3])).length) Slot.unset).toArray = ls at hl ⊢
  have hl : lv_has ls 4 [(0, .ref (qa 0)), (1, .int a1), (2, .int a2), (3, .int a3)] := hl
  unfold gX7_criesNow at hG
  refine lv_aload_n hx hb dX7_criesNow_0 rfl (lv_at hl 0 rfl) ?_
  refine va_get (D := (dC, dI)) (ci := 7) (v := .ref (qa 2)) (C := RX7) (T := TX7) (N := 19) hx hb hts hinX7 hown hK hP 0 rfl rfl 3 (by decide) k1 (fun _ h9 => h9) rfl dX7_criesNow_1 ?_
  refine lv_bipush (v := 8) hx hb dX7_criesNow_4 (by decide) ?_
  refine lv_iload_n hx hb dX7_criesNow_6 rfl (lv_at hl 1 rfl) ?_
  refine lv_iadd hx hb dX7_criesNow_7 ?_
  obtain ⟨h1, hG⟩ := wq_chk_s hG
  refine wq_iald (D := (dC, dI)) hx hb hK hP 2 0 rfl rfl h1 (Int32.toNatClampNeg (8 + a1)) rfl dX7_criesNow_8 ?_
  refine lv_aload_n hx hb dX7_criesNow_9 rfl (lv_at hl 0 rfl) ?_
  refine va_get (D := (dC, dI)) (ci := 7) (v := .ref (qa 2)) (C := RX7) (T := TX7) (N := 19) hx hb hts hinX7 hown hK hP 0 rfl rfl 3 (by decide) k1 (fun _ h9 => h9) rfl dX7_criesNow_10 ?_
  refine lv_iconst (v := 2) hx hb dX7_criesNow_13 (by decide) ?_
  refine wq_iald (D := (dC, dI)) hx hb hK hP 2 0 rfl rfl (wq_lit (by decide)) 2 rfl dX7_criesNow_14 ?_
  refine lv_aload_n hx hb dX7_criesNow_15 rfl (lv_at hl 0 rfl) ?_
  refine va_get (D := (dC, dI)) (ci := 7) (v := .ref (qa 4)) (C := RX7) (T := TX7) (N := 19) hx hb hts hinX7 hown hK hP 0 rfl rfl 5 (by decide) k2 (fun _ h9 => h9) rfl dX7_criesNow_16 ?_
  refine lv_iconst (v := 1) hx hb dX7_criesNow_19 (by decide) ?_
  refine wq_iald (D := (dC, dI)) hx hb hK hP 4 0 rfl rfl (wq_lit (by decide)) 1 rfl dX7_criesNow_20 ?_
  refine lv_iload_n hx hb dX7_criesNow_21 rfl (lv_at hl 2 rfl) ?_
  refine lv_aload_n hx hb dX7_criesNow_22 rfl (lv_at hl 0 rfl) ?_
  refine va_get (D := (dC, dI)) (ci := 7) (v := .ref (qa 4)) (C := RX7) (T := TX7) (N := 19) hx hb hts hinX7 hown hK hP 0 rfl rfl 5 (by decide) k2 (fun _ h9 => h9) rfl dX7_criesNow_23 ?_
  refine lv_iconst (v := 4) hx hb dX7_criesNow_26 (by decide) ?_
  refine lv_iload_n hx hb dX7_criesNow_27 rfl (lv_at hl 3 rfl) ?_
  refine lv_iadd hx hb dX7_criesNow_28 ?_
  obtain ⟨h2, hG⟩ := wq_chk_s hG
  refine wq_iald (D := (dC, dI)) hx hb hK hP 4 0 rfl rfl h2 (Int32.toNatClampNeg (4 + a3)) rfl dX7_criesNow_29 ?_
  obtain ⟨v4, g3, hG⟩ := wq_b1_s hG
  refine wq_ci (v := v4) (B := wq_tr) (va_runS (As := [.int (m_told (Int32.toNatClampNeg (8 + a1))), .int (m_told 2), .int (m_s 1), .int a2, .int (m_s (Int32.toNatClampNeg (4 + a3)))]) (rest := []) ⟨hx, hb, hml, hown, hts⟩ (C_X7_cries l dC dI cI cJ cZ qa s.heap.size  (m_told (Int32.toNatClampNeg (8 + a1))) (m_told 2) (m_s 1) a2 (m_s (Int32.toNatClampNeg (4 + a3))) v4 g3) (va_cwS 5 hts gX7_criesNow_X7_cries rfl rfl rfl hdS_X7_cries ⟨Nat.le_of_ble_eq_true rfl, Nat.le_of_ble_eq_true rfl⟩) (wq_ppS hK (hP.sub (ws' := []) [] rfl) hE hS hA) rfl rfl hl.1 rfl (lv_room (Nat.le_of_ble_eq_true rfl)) dX7_criesNow_30 ⟨Nat.zero_le _, Nat.zero_le _⟩) hS hA (fun H locs b5 hk hS => ?_)
  replace hP := wq_kp hP hk
  clear hk
  exact W.iret (v := v4) hx hb hr (fun t ht hW => ⟨⟨v4, (), rfl, ⟨Option.some.inj hG, trivial⟩, trivial⟩, hS.F ht⟩) hS.2.2 dX7_criesNow_33

theorem hdV_X7_goes : yX7_goes.cls = RX7 ∧ yX7_goes.cls ≠ "java/lang/invoke/MethodHandle" ∧ yX7_goes.cls ≠ "java/lang/invoke/VarHandle" ∧ (parseMethodDescriptor yX7_goes.desc).map (fun d => d.parameters.length) = some 3 := by decide +kernel
set_option maxHeartbeats 4000000 in
set_option maxRecDepth 100000 in
theorem C_X7_goes (l : Launch) (dC : Nat → ClassId) (dI : Nat → Nat → Nat) (cI cJ cZ : ClassId) (qa : Nat → Nat) (sz : Nat) (m_trace : Int64) (m_text : Nat → Int32) (m_typed : Int32) (m_told : Nat → Int32) (m_draft : Nat → Int32) (m_s : Nat → Int32) (m_past : Nat → Int32) (m_known : Int32) (m_images : Nat → Int32) (m_kept : Nat → Int32) (m_notes : Nat → Int32) (m_noted : Int32) (m_at : Int32) (m_sort : Int32) (m_start : Int32) (m_value : Int32) (m_steps : Nat → Int32) (m_rows : Nat → Int32) (m_held : Nat → Int32) (a1 : Int32) (a2 : Int32) (a3 : Int32) (r0 : Int32) (r_m_s : Nat → Int32) (hG : gX7_goes m_told m_s a1 a2 a3 = some (r0, r_m_s)) : Met l yX7_goes wsX7_goes ({ frames := 3, cells := 0, slots := 0, locals := 70 } : Room) (va_Pc [.ref (qa 0), .int a1, .int a2, .int a3] (wq_pw (dC, dI) [(cI, .int), (cJ, .long), (cZ, .boolean)] (wcM qa cI cJ cZ m_trace m_text m_typed m_told m_draft m_s m_past m_known m_images m_kept m_notes m_noted m_at m_sort m_start m_value m_steps m_rows m_held) sz)) (wq_Wi (dC, dI) r0 wq_tr (wcM qa cI cJ cZ m_trace m_text m_typed m_told m_draft r_m_s m_past m_known m_images m_kept m_notes m_noted m_at m_sort m_start m_value m_steps m_rows m_held) (va_A (wcM qa cI cJ cZ m_trace m_text m_typed m_told m_draft m_s m_past m_known m_images m_kept m_notes m_noted m_at m_sort m_start m_value m_steps m_rows m_held) sz)) 0 0 (va_A (wcM qa cI cJ cZ m_trace m_text m_typed m_told m_draft m_s m_past m_known m_images m_kept m_notes m_noted m_at m_sort m_start m_value m_steps m_rows m_held) sz) := by
  refine Met.ofW (cc := cX7_goes) (maxL := 5) (ret := (some .int)) (by decide) rfl ?_
  intro p e s m args below meth c s₁ B hml hv
  obtain ⟨rfl, hsz, hP, hK, hD0, hE⟩ := hv
  have hx := B.exec
  have hb := B.bytes
  have hr := B.returns
  have hts := atoms_spec (ws := wsX7_goes) B.pre
  have hown : s.vm.findClass RX7 = some m.cls := findClass_of_methodNamed B.named
  have hlocks := B.notSynchronized
  subst hsz
  have hD := hD0.self (sz := s.heap.size)
  generalize hAe : va_A (wcM qa cI cJ cZ m_trace m_text m_typed m_told m_draft m_s m_past m_known m_images m_kept m_notes m_noted m_at m_sort m_start m_value m_steps m_rows m_held) s.heap.size = A at hD hE ⊢
  have hA : ∀ q : Nat, s.heap.size ≤ q → A q := fun q h => by rw [← hAe]; exact Or.inr h
  have hS : va_S A s.heap s.heap [] := va_S.rf
  have hinX7 : ∀ w ∈ u_ws RX7 TX7 19, w ∈ wsX7_goes := by decide +kernel
  have k1 := hts (.fieldLink RX7 13 "DoorMorningsModel" "told" "[I") (by decide +kernel)
  have k2 := hts (.fieldLink RX7 19 "DoorMorningsModel" "s" "[I") (by decide +kernel)
  have hl := lv_entry ([.ref (qa 0), .int a1, .int a2, .int a3]) (n := 5) (Nat.le_of_ble_eq_true rfl)
  rw [lg_entry_eq]
  generalize (lg_sl ([.ref (qa 0), .int a1, .int a2, .int a3]) ++ List.replicate (5 - (lg_sl ([.ref (qa 0), .int a1, .int a2, .int a3])).length) Slot.unset).toArray = ls at hl ⊢
  have hl : lv_has ls 5 [(0, .ref (qa 0)), (1, .int a1), (2, .int a2), (3, .int a3)] := hl
  unfold gX7_goes at hG
  refine lv_aload_n hx hb dX7_goes_0 rfl (lv_at hl 0 rfl) ?_
  refine lv_iload_n hx hb dX7_goes_1 rfl (lv_at hl 1 rfl) ?_
  refine lv_iload_n hx hb dX7_goes_2 rfl (lv_at hl 2 rfl) ?_
  refine lv_iload_n hx hb dX7_goes_3 rfl (lv_at hl 3 rfl) ?_
  obtain ⟨v2, g1, hG⟩ := wq_b1_s hG
  refine wq_ci (v := v2) (B := wq_tr) (va_runV (As := [.int a1, .int a2, .int a3]) (rest := []) ⟨hx, hb, hml, hown, hts⟩ (C_X7_criesNow l dC dI cI cJ cZ qa s.heap.size m_trace m_text m_typed m_told m_draft m_s m_past m_known m_images m_kept m_notes m_noted m_at m_sort m_start m_value m_steps m_rows m_held a1 a2 a3 v2 g1) (cwV 3 hts gX7_goes_X7_criesNow rfl rfl rfl hdV_X7_criesNow ⟨Nat.le_of_ble_eq_true rfl, Nat.le_of_ble_eq_true rfl⟩) (wq_ppV hK hP hE hS hA (ci := 7) (q0 := 0) rfl rfl) rfl rfl hl.1 rfl (lv_room (Nat.le_of_ble_eq_true rfl)) dX7_goes_4 ⟨Nat.zero_le _, Nat.zero_le _⟩) hS hA (fun H locs b3 hk hS => ?_)
  replace hP := wq_kp hP hk
  clear hk
  refine lv_istore (lv' := [(4, .int v2), (0, .ref (qa 0)), (1, .int a1), (2, .int a2), (3, .int a3)]) hx hb dX7_goes_7 hl (by decide) rfl (fun ls hl => ?_)
  refine lv_iload hx hb dX7_goes_9 (lv_at hl 0 rfl) ?_
  refine lv_aload_n hx hb dX7_goes_11 rfl (lv_at hl 1 rfl) ?_
  refine va_get (D := (dC, dI)) (ci := 7) (v := .ref (qa 2)) (C := RX7) (T := TX7) (N := 19) hx hb hts hinX7 hown hK hP 0 rfl rfl 3 (by decide) k1 (fun _ h9 => h9) rfl dX7_goes_12 ?_
  refine lv_iconst (v := 3) hx hb dX7_goes_15 (by decide) ?_
  refine wq_iald (D := (dC, dI)) hx hb hK hP 2 0 rfl rfl (wq_lit (by decide)) 3 rfl dX7_goes_16 ?_
  refine lv_icmp_gt (tgt := 101) hx hb dX7_goes_17 (by decide) (fun c4 => ?_) (fun c4 => ?_)
  · replace hG := wq_t c4 hG
    refine lv_iload hx hb dX7_goes_101 (lv_at hl 0 rfl) ?_
    refine lv_aload_n hx hb dX7_goes_103 rfl (lv_at hl 1 rfl) ?_
    refine va_get (D := (dC, dI)) (ci := 7) (v := .ref (qa 2)) (C := RX7) (T := TX7) (N := 19) hx hb hts hinX7 hown hK hP 0 rfl rfl 3 (by decide) k1 (fun _ h9 => h9) rfl dX7_goes_104 ?_
    refine lv_iconst (v := 4) hx hb dX7_goes_107 (by decide) ?_
    refine wq_iald (D := (dC, dI)) hx hb hK hP 2 0 rfl rfl (wq_lit (by decide)) 4 rfl dX7_goes_108 ?_
    refine lv_icmp_lt (tgt := 156) hx hb dX7_goes_109 (by decide) (fun c5 => ?_) (fun c5 => ?_)
    · replace hG := wq_t c5 hG
      refine lv_aload_n hx hb dX7_goes_156 rfl (lv_at hl 1 rfl) ?_
      refine va_get (D := (dC, dI)) (ci := 7) (v := .ref (qa 4)) (C := RX7) (T := TX7) (N := 19) hx hb hts hinX7 hown hK hP 0 rfl rfl 5 (by decide) k2 (fun _ h9 => h9) rfl dX7_goes_157 ?_
      refine lv_iconst (v := 0) hx hb dX7_goes_160 (by decide) ?_
      refine lv_dup2_11 hx hb dX7_goes_161 rfl rfl ?_
      refine wq_iald (D := (dC, dI)) hx hb hK hP 4 0 rfl rfl (wq_lit (by decide)) 0 rfl dX7_goes_162 ?_
      refine lv_iconst (v := 1) hx hb dX7_goes_163 (by decide) ?_
      refine lv_iadd hx hb dX7_goes_164 ?_
      refine wq_iast (D := (dC, dI)) hx hb hK hP hD hS 4 0 rfl rfl (wq_lit (by decide)) 0 rfl (wcM qa cI cJ cZ m_trace m_text m_typed m_told m_draft (upd m_s 0 ((m_s 0) + 1)) m_past m_known m_images m_kept m_notes m_noted m_at m_sort m_start m_value m_steps m_rows m_held) rfl dX7_goes_165 (fun H locs hP hD hS => ?_)
      refine lv_iload hx hb dX7_goes_166 (lv_at hl 0 rfl) ?_
      obtain ⟨e0, e1⟩ := wq_j2 hG
      subst e0
      subst e1
      exact W.iret hx hb hr (fun t ht hW => ⟨⟨_, (), rfl, ⟨rfl, trivial⟩, by rw [ht]; exact hP, hD⟩, hS.F ht⟩) hS.2.2 dX7_goes_168
    · replace hG := wq_f c5 hG
      refine lv_aload_n hx hb dX7_goes_112 rfl (lv_at hl 1 rfl) ?_
      refine va_get (D := (dC, dI)) (ci := 7) (v := .ref (qa 4)) (C := RX7) (T := TX7) (N := 19) hx hb hts hinX7 hown hK hP 0 rfl rfl 5 (by decide) k2 (fun _ h9 => h9) rfl dX7_goes_113 ?_
      refine lv_iconst (v := 1) hx hb dX7_goes_116 (by decide) ?_
      refine lv_aload_n hx hb dX7_goes_117 rfl (lv_at hl 1 rfl) ?_
      refine va_get (D := (dC, dI)) (ci := 7) (v := .ref (qa 4)) (C := RX7) (T := TX7) (N := 19) hx hb hts hinX7 hown hK hP 0 rfl rfl 5 (by decide) k2 (fun _ h9 => h9) rfl dX7_goes_118 ?_
      refine lv_iconst (v := 1) hx hb dX7_goes_121 (by decide) ?_
      refine wq_iald (D := (dC, dI)) hx hb hK hP 4 0 rfl rfl (wq_lit (by decide)) 1 rfl dX7_goes_122 ?_
      refine lv_iconst (v := 2) hx hb dX7_goes_123 (by decide) ?_
      refine lv_isub hx hb dX7_goes_124 ?_
      refine lv_iconst (v := 0) hx hb dX7_goes_125 (by decide) ?_
      refine lv_bipush (v := 24) hx hb dX7_goes_126 (by decide) ?_
      obtain ⟨v7, g6, hG⟩ := wq_b1_s hG
      refine wq_ci (v := v7) (B := wq_tr) (va_runS (As := [.int ((m_s 1) - 2), .int 0, .int 24]) (rest := [.int 1, .ref (qa 4)]) ⟨hx, hb, hml, hown, hts⟩ (C_X7_bound l dC dI cI cJ cZ qa H.size  ((m_s 1) - 2) 0 24 v7 g6) (va_cwS 3 hts gX7_goes_X7_bound rfl rfl rfl hdS_X7_bound ⟨Nat.le_of_ble_eq_true rfl, Nat.le_of_ble_eq_true rfl⟩) (wq_ppS hK (hP.sub (ws' := []) [] rfl) hE hS hA) rfl rfl hl.1 rfl (lv_room (Nat.le_of_ble_eq_true rfl)) dX7_goes_128 ⟨Nat.zero_le _, Nat.zero_le _⟩) hS hA (fun H locs b8 hk hS => ?_)
      replace hP := wq_kp hP hk
      clear hk
      refine wq_iast (D := (dC, dI)) hx hb hK hP hD hS 4 0 rfl rfl (wq_lit (by decide)) 1 rfl (wcM qa cI cJ cZ m_trace m_text m_typed m_told m_draft (upd m_s 1 v7) m_past m_known m_images m_kept m_notes m_noted m_at m_sort m_start m_value m_steps m_rows m_held) rfl dX7_goes_131 (fun H locs hP hD hS => ?_)
      refine lv_aload_n hx hb dX7_goes_132 rfl (lv_at hl 1 rfl) ?_
      refine va_get (D := (dC, dI)) (ci := 7) (v := .ref (qa 4)) (C := RX7) (T := TX7) (N := 19) hx hb hts hinX7 hown hK hP 0 rfl rfl 5 (by decide) k2 (fun _ h9 => h9) rfl dX7_goes_133 ?_
      refine lv_iconst (v := 4) hx hb dX7_goes_136 (by decide) ?_
      refine lv_iload_n hx hb dX7_goes_137 rfl (lv_at hl 4 rfl) ?_
      refine lv_iadd hx hb dX7_goes_138 ?_
      refine lv_aload_n hx hb dX7_goes_139 rfl (lv_at hl 1 rfl) ?_
      refine va_get (D := (dC, dI)) (ci := 7) (v := .ref (qa 4)) (C := RX7) (T := TX7) (N := 19) hx hb hts hinX7 hown hK hP 0 rfl rfl 5 (by decide) k2 (fun _ h9 => h9) rfl dX7_goes_140 ?_
      refine lv_iconst (v := 4) hx hb dX7_goes_143 (by decide) ?_
      refine lv_iload_n hx hb dX7_goes_144 rfl (lv_at hl 4 rfl) ?_
      refine lv_iadd hx hb dX7_goes_145 ?_
      obtain ⟨h9, hG⟩ := wq_chk_s hG
      refine wq_iald (D := (dC, dI)) hx hb hK hP 4 0 rfl rfl h9 (Int32.toNatClampNeg (4 + a3)) rfl dX7_goes_146 ?_
      refine lv_iconst (v := 1) hx hb dX7_goes_147 (by decide) ?_
      refine lv_isub hx hb dX7_goes_148 ?_
      refine lv_iconst (v := 0) hx hb dX7_goes_149 (by decide) ?_
      refine lv_bipush (v := 9) hx hb dX7_goes_150 (by decide) ?_
      obtain ⟨v11, g10, hG⟩ := wq_b1_s hG
      refine wq_ci (v := v11) (B := wq_tr) (va_runS (As := [.int (((upd m_s 1 v7) (Int32.toNatClampNeg (4 + a3))) - 1), .int 0, .int 9]) (rest := [.int (4 + a3), .ref (qa 4)]) ⟨hx, hb, hml, hown, hts⟩ (C_X7_bound l dC dI cI cJ cZ qa H.size  (((upd m_s 1 v7) (Int32.toNatClampNeg (4 + a3))) - 1) 0 9 v11 g10) (va_cwS 3 hts gX7_goes_X7_bound rfl rfl rfl hdS_X7_bound ⟨Nat.le_of_ble_eq_true rfl, Nat.le_of_ble_eq_true rfl⟩) (wq_ppS hK (hP.sub (ws' := []) [] rfl) hE hS hA) rfl rfl hl.1 rfl (lv_room (Nat.le_of_ble_eq_true rfl)) dX7_goes_152 ⟨Nat.zero_le _, Nat.zero_le _⟩) hS hA (fun H locs b12 hk hS => ?_)
      replace hP := wq_kp hP hk
      clear hk
      refine wq_iast (D := (dC, dI)) hx hb hK hP hD hS 4 0 rfl rfl h9 (Int32.toNatClampNeg (4 + a3)) rfl (wcM qa cI cJ cZ m_trace m_text m_typed m_told m_draft (upd (upd m_s 1 v7) (Int32.toNatClampNeg (4 + a3)) v11) m_past m_known m_images m_kept m_notes m_noted m_at m_sort m_start m_value m_steps m_rows m_held) rfl dX7_goes_155 (fun H locs hP hD hS => ?_)
      refine lv_aload_n hx hb dX7_goes_156 rfl (lv_at hl 1 rfl) ?_
      refine va_get (D := (dC, dI)) (ci := 7) (v := .ref (qa 4)) (C := RX7) (T := TX7) (N := 19) hx hb hts hinX7 hown hK hP 0 rfl rfl 5 (by decide) k2 (fun _ h9 => h9) rfl dX7_goes_157 ?_
      refine lv_iconst (v := 0) hx hb dX7_goes_160 (by decide) ?_
      refine lv_dup2_11 hx hb dX7_goes_161 rfl rfl ?_
      refine wq_iald (D := (dC, dI)) hx hb hK hP 4 0 rfl rfl (wq_lit (by decide)) 0 rfl dX7_goes_162 ?_
      refine lv_iconst (v := 1) hx hb dX7_goes_163 (by decide) ?_
      refine lv_iadd hx hb dX7_goes_164 ?_
      refine wq_iast (D := (dC, dI)) hx hb hK hP hD hS 4 0 rfl rfl (wq_lit (by decide)) 0 rfl (wcM qa cI cJ cZ m_trace m_text m_typed m_told m_draft (upd (upd (upd m_s 1 v7) (Int32.toNatClampNeg (4 + a3)) v11) 0 (((upd (upd m_s 1 v7) (Int32.toNatClampNeg (4 + a3)) v11) 0) + 1)) m_past m_known m_images m_kept m_notes m_noted m_at m_sort m_start m_value m_steps m_rows m_held) rfl dX7_goes_165 (fun H locs hP hD hS => ?_)
      refine lv_iload hx hb dX7_goes_166 (lv_at hl 0 rfl) ?_
      obtain ⟨e0, e1⟩ := wq_j2 hG
      subst e0
      subst e1
      exact W.iret hx hb hr (fun t ht hW => ⟨⟨_, (), rfl, ⟨rfl, trivial⟩, by rw [ht]; exact hP, hD⟩, hS.F ht⟩) hS.2.2 dX7_goes_168
  · replace hG := wq_f c4 hG
    refine lv_aload_n hx hb dX7_goes_20 rfl (lv_at hl 1 rfl) ?_
    refine va_get (D := (dC, dI)) (ci := 7) (v := .ref (qa 4)) (C := RX7) (T := TX7) (N := 19) hx hb hts hinX7 hown hK hP 0 rfl rfl 5 (by decide) k2 (fun _ h9 => h9) rfl dX7_goes_21 ?_
    refine lv_iconst (v := 1) hx hb dX7_goes_24 (by decide) ?_
    refine lv_aload_n hx hb dX7_goes_25 rfl (lv_at hl 1 rfl) ?_
    refine va_get (D := (dC, dI)) (ci := 7) (v := .ref (qa 4)) (C := RX7) (T := TX7) (N := 19) hx hb hts hinX7 hown hK hP 0 rfl rfl 5 (by decide) k2 (fun _ h9 => h9) rfl dX7_goes_26 ?_
    refine lv_iconst (v := 1) hx hb dX7_goes_29 (by decide) ?_
    refine wq_iald (D := (dC, dI)) hx hb hK hP 4 0 rfl rfl (wq_lit (by decide)) 1 rfl dX7_goes_30 ?_
    refine lv_aload_n hx hb dX7_goes_31 rfl (lv_at hl 1 rfl) ?_
    refine va_get (D := (dC, dI)) (ci := 7) (v := .ref (qa 2)) (C := RX7) (T := TX7) (N := 19) hx hb hts hinX7 hown hK hP 0 rfl rfl 3 (by decide) k1 (fun _ h9 => h9) rfl dX7_goes_32 ?_
    refine lv_bipush (v := 13) hx hb dX7_goes_35 (by decide) ?_
    refine lv_iload_n hx hb dX7_goes_37 rfl (lv_at hl 2 rfl) ?_
    refine lv_iadd hx hb dX7_goes_38 ?_
    obtain ⟨h13, hG⟩ := wq_chk_s hG
    refine wq_iald (D := (dC, dI)) hx hb hK hP 2 0 rfl rfl h13 (Int32.toNatClampNeg (13 + a1)) rfl dX7_goes_39 ?_
    refine lv_iadd hx hb dX7_goes_40 ?_
    refine lv_iconst (v := 0) hx hb dX7_goes_41 (by decide) ?_
    refine lv_bipush (v := 24) hx hb dX7_goes_42 (by decide) ?_
    obtain ⟨v15, g14, hG⟩ := wq_b1_s hG
    refine wq_ci (v := v15) (B := wq_tr) (va_runS (As := [.int ((m_s 1) + (m_told (Int32.toNatClampNeg (13 + a1)))), .int 0, .int 24]) (rest := [.int 1, .ref (qa 4)]) ⟨hx, hb, hml, hown, hts⟩ (C_X7_bound l dC dI cI cJ cZ qa H.size  ((m_s 1) + (m_told (Int32.toNatClampNeg (13 + a1)))) 0 24 v15 g14) (va_cwS 3 hts gX7_goes_X7_bound rfl rfl rfl hdS_X7_bound ⟨Nat.le_of_ble_eq_true rfl, Nat.le_of_ble_eq_true rfl⟩) (wq_ppS hK (hP.sub (ws' := []) [] rfl) hE hS hA) rfl rfl hl.1 rfl (lv_room (Nat.le_of_ble_eq_true rfl)) dX7_goes_44 ⟨Nat.zero_le _, Nat.zero_le _⟩) hS hA (fun H locs b16 hk hS => ?_)
    replace hP := wq_kp hP hk
    clear hk
    refine wq_iast (D := (dC, dI)) hx hb hK hP hD hS 4 0 rfl rfl (wq_lit (by decide)) 1 rfl (wcM qa cI cJ cZ m_trace m_text m_typed m_told m_draft (upd m_s 1 v15) m_past m_known m_images m_kept m_notes m_noted m_at m_sort m_start m_value m_steps m_rows m_held) rfl dX7_goes_47 (fun H locs hP hD hS => ?_)
    refine lv_aload_n hx hb dX7_goes_48 rfl (lv_at hl 1 rfl) ?_
    refine va_get (D := (dC, dI)) (ci := 7) (v := .ref (qa 4)) (C := RX7) (T := TX7) (N := 19) hx hb hts hinX7 hown hK hP 0 rfl rfl 5 (by decide) k2 (fun _ h9 => h9) rfl dX7_goes_49 ?_
    refine lv_iconst (v := 4) hx hb dX7_goes_52 (by decide) ?_
    refine lv_iload_n hx hb dX7_goes_53 rfl (lv_at hl 4 rfl) ?_
    refine lv_iadd hx hb dX7_goes_54 ?_
    refine lv_aload_n hx hb dX7_goes_55 rfl (lv_at hl 1 rfl) ?_
    refine va_get (D := (dC, dI)) (ci := 7) (v := .ref (qa 4)) (C := RX7) (T := TX7) (N := 19) hx hb hts hinX7 hown hK hP 0 rfl rfl 5 (by decide) k2 (fun _ h9 => h9) rfl dX7_goes_56 ?_
    refine lv_iconst (v := 4) hx hb dX7_goes_59 (by decide) ?_
    refine lv_iload_n hx hb dX7_goes_60 rfl (lv_at hl 4 rfl) ?_
    refine lv_iadd hx hb dX7_goes_61 ?_
    obtain ⟨h17, hG⟩ := wq_chk_s hG
    refine wq_iald (D := (dC, dI)) hx hb hK hP 4 0 rfl rfl h17 (Int32.toNatClampNeg (4 + a3)) rfl dX7_goes_62 ?_
    refine lv_iconst (v := 1) hx hb dX7_goes_63 (by decide) ?_
    refine lv_iadd hx hb dX7_goes_64 ?_
    refine lv_iconst (v := 0) hx hb dX7_goes_65 (by decide) ?_
    refine lv_bipush (v := 9) hx hb dX7_goes_66 (by decide) ?_
    obtain ⟨v19, g18, hG⟩ := wq_b1_s hG
    refine wq_ci (v := v19) (B := wq_tr) (va_runS (As := [.int (((upd m_s 1 v15) (Int32.toNatClampNeg (4 + a3))) + 1), .int 0, .int 9]) (rest := [.int (4 + a3), .ref (qa 4)]) ⟨hx, hb, hml, hown, hts⟩ (C_X7_bound l dC dI cI cJ cZ qa H.size  (((upd m_s 1 v15) (Int32.toNatClampNeg (4 + a3))) + 1) 0 9 v19 g18) (va_cwS 3 hts gX7_goes_X7_bound rfl rfl rfl hdS_X7_bound ⟨Nat.le_of_ble_eq_true rfl, Nat.le_of_ble_eq_true rfl⟩) (wq_ppS hK (hP.sub (ws' := []) [] rfl) hE hS hA) rfl rfl hl.1 rfl (lv_room (Nat.le_of_ble_eq_true rfl)) dX7_goes_68 ⟨Nat.zero_le _, Nat.zero_le _⟩) hS hA (fun H locs b20 hk hS => ?_)
    replace hP := wq_kp hP hk
    clear hk
    refine wq_iast (D := (dC, dI)) hx hb hK hP hD hS 4 0 rfl rfl h17 (Int32.toNatClampNeg (4 + a3)) rfl (wcM qa cI cJ cZ m_trace m_text m_typed m_told m_draft (upd (upd m_s 1 v15) (Int32.toNatClampNeg (4 + a3)) v19) m_past m_known m_images m_kept m_notes m_noted m_at m_sort m_start m_value m_steps m_rows m_held) rfl dX7_goes_71 (fun H locs hP hD hS => ?_)
    refine lv_aload_n hx hb dX7_goes_72 rfl (lv_at hl 1 rfl) ?_
    refine va_get (D := (dC, dI)) (ci := 7) (v := .ref (qa 4)) (C := RX7) (T := TX7) (N := 19) hx hb hts hinX7 hown hK hP 0 rfl rfl 5 (by decide) k2 (fun _ h9 => h9) rfl dX7_goes_73 ?_
    refine lv_iconst (v := 2) hx hb dX7_goes_76 (by decide) ?_
    refine lv_iload_n hx hb dX7_goes_77 rfl (lv_at hl 3 rfl) ?_
    refine lv_aload_n hx hb dX7_goes_78 rfl (lv_at hl 1 rfl) ?_
    refine va_get (D := (dC, dI)) (ci := 7) (v := .ref (qa 2)) (C := RX7) (T := TX7) (N := 19) hx hb hts hinX7 hown hK hP 0 rfl rfl 3 (by decide) k1 (fun _ h9 => h9) rfl dX7_goes_79 ?_
    refine lv_iconst (v := 5) hx hb dX7_goes_82 (by decide) ?_
    refine wq_iald (D := (dC, dI)) hx hb hK hP 2 0 rfl rfl (wq_lit (by decide)) 5 rfl dX7_goes_83 ?_
    refine lv_icmp_lt (tgt := 91) hx hb dX7_goes_84 (by decide) (fun c21 => ?_) (fun c21 => ?_)
    · replace hG := wq_t c21 hG
      refine lv_aload_n hx hb dX7_goes_91 rfl (lv_at hl 1 rfl) ?_
      refine va_get (D := (dC, dI)) (ci := 7) (v := .ref (qa 4)) (C := RX7) (T := TX7) (N := 19) hx hb hts hinX7 hown hK hP 0 rfl rfl 5 (by decide) k2 (fun _ h9 => h9) rfl dX7_goes_92 ?_
      refine lv_iconst (v := 2) hx hb dX7_goes_95 (by decide) ?_
      refine wq_iald (D := (dC, dI)) hx hb hK hP 4 0 rfl rfl (wq_lit (by decide)) 2 rfl dX7_goes_96 ?_
      refine wq_iast (D := (dC, dI)) hx hb hK hP hD hS 4 0 rfl rfl (wq_lit (by decide)) 2 rfl (wcM qa cI cJ cZ m_trace m_text m_typed m_told m_draft (upd (upd (upd m_s 1 v15) (Int32.toNatClampNeg (4 + a3)) v19) 2 ((upd (upd m_s 1 v15) (Int32.toNatClampNeg (4 + a3)) v19) 2)) m_past m_known m_images m_kept m_notes m_noted m_at m_sort m_start m_value m_steps m_rows m_held) rfl dX7_goes_97 (fun H locs hP hD hS => ?_)
      refine lv_goto (tgt := 156) hx hb dX7_goes_98 (by decide) ?_
      refine lv_aload_n hx hb dX7_goes_156 rfl (lv_at hl 1 rfl) ?_
      refine va_get (D := (dC, dI)) (ci := 7) (v := .ref (qa 4)) (C := RX7) (T := TX7) (N := 19) hx hb hts hinX7 hown hK hP 0 rfl rfl 5 (by decide) k2 (fun _ h9 => h9) rfl dX7_goes_157 ?_
      refine lv_iconst (v := 0) hx hb dX7_goes_160 (by decide) ?_
      refine lv_dup2_11 hx hb dX7_goes_161 rfl rfl ?_
      refine wq_iald (D := (dC, dI)) hx hb hK hP 4 0 rfl rfl (wq_lit (by decide)) 0 rfl dX7_goes_162 ?_
      refine lv_iconst (v := 1) hx hb dX7_goes_163 (by decide) ?_
      refine lv_iadd hx hb dX7_goes_164 ?_
      refine wq_iast (D := (dC, dI)) hx hb hK hP hD hS 4 0 rfl rfl (wq_lit (by decide)) 0 rfl (wcM qa cI cJ cZ m_trace m_text m_typed m_told m_draft (upd (upd (upd (upd m_s 1 v15) (Int32.toNatClampNeg (4 + a3)) v19) 2 ((upd (upd m_s 1 v15) (Int32.toNatClampNeg (4 + a3)) v19) 2)) 0 (((upd (upd (upd m_s 1 v15) (Int32.toNatClampNeg (4 + a3)) v19) 2 ((upd (upd m_s 1 v15) (Int32.toNatClampNeg (4 + a3)) v19) 2)) 0) + 1)) m_past m_known m_images m_kept m_notes m_noted m_at m_sort m_start m_value m_steps m_rows m_held) rfl dX7_goes_165 (fun H locs hP hD hS => ?_)
      refine lv_iload hx hb dX7_goes_166 (lv_at hl 0 rfl) ?_
      obtain ⟨e0, e1⟩ := wq_j2 hG
      subst e0
      subst e1
      exact W.iret hx hb hr (fun t ht hW => ⟨⟨_, (), rfl, ⟨rfl, trivial⟩, by rw [ht]; exact hP, hD⟩, hS.F ht⟩) hS.2.2 dX7_goes_168
    · replace hG := wq_f c21 hG
      refine lv_iconst (v := 1) hx hb dX7_goes_87 (by decide) ?_
      refine lv_goto (tgt := 97) hx hb dX7_goes_88 (by decide) ?_
      refine wq_iast (D := (dC, dI)) hx hb hK hP hD hS 4 0 rfl rfl (wq_lit (by decide)) 2 rfl (wcM qa cI cJ cZ m_trace m_text m_typed m_told m_draft (upd (upd (upd m_s 1 v15) (Int32.toNatClampNeg (4 + a3)) v19) 2 1) m_past m_known m_images m_kept m_notes m_noted m_at m_sort m_start m_value m_steps m_rows m_held) rfl dX7_goes_97 (fun H locs hP hD hS => ?_)
      refine lv_goto (tgt := 156) hx hb dX7_goes_98 (by decide) ?_
      refine lv_aload_n hx hb dX7_goes_156 rfl (lv_at hl 1 rfl) ?_
      refine va_get (D := (dC, dI)) (ci := 7) (v := .ref (qa 4)) (C := RX7) (T := TX7) (N := 19) hx hb hts hinX7 hown hK hP 0 rfl rfl 5 (by decide) k2 (fun _ h9 => h9) rfl dX7_goes_157 ?_
      refine lv_iconst (v := 0) hx hb dX7_goes_160 (by decide) ?_
      refine lv_dup2_11 hx hb dX7_goes_161 rfl rfl ?_
      refine wq_iald (D := (dC, dI)) hx hb hK hP 4 0 rfl rfl (wq_lit (by decide)) 0 rfl dX7_goes_162 ?_
      refine lv_iconst (v := 1) hx hb dX7_goes_163 (by decide) ?_
      refine lv_iadd hx hb dX7_goes_164 ?_
      refine wq_iast (D := (dC, dI)) hx hb hK hP hD hS 4 0 rfl rfl (wq_lit (by decide)) 0 rfl (wcM qa cI cJ cZ m_trace m_text m_typed m_told m_draft (upd (upd (upd (upd m_s 1 v15) (Int32.toNatClampNeg (4 + a3)) v19) 2 1) 0 (((upd (upd (upd m_s 1 v15) (Int32.toNatClampNeg (4 + a3)) v19) 2 1) 0) + 1)) m_past m_known m_images m_kept m_notes m_noted m_at m_sort m_start m_value m_steps m_rows m_held) rfl dX7_goes_165 (fun H locs hP hD hS => ?_)
      refine lv_iload hx hb dX7_goes_166 (lv_at hl 0 rfl) ?_
      obtain ⟨e0, e1⟩ := wq_j2 hG
      subst e0
      subst e1
      exact W.iret hx hb hr (fun t ht hW => ⟨⟨_, (), rfl, ⟨rfl, trivial⟩, by rw [ht]; exact hP, hD⟩, hS.F ht⟩) hS.2.2 dX7_goes_168

theorem hdV_X7_isMorning : yX7_isMorning.cls = RX7 ∧ yX7_isMorning.cls ≠ "java/lang/invoke/MethodHandle" ∧ yX7_isMorning.cls ≠ "java/lang/invoke/VarHandle" ∧ (parseMethodDescriptor yX7_isMorning.desc).map (fun d => d.parameters.length) = some 3 := by decide +kernel
set_option maxHeartbeats 4000000 in
set_option maxRecDepth 100000 in
theorem C_X7_isMorning (l : Launch) (dC : Nat → ClassId) (dI : Nat → Nat → Nat) (cI cJ cZ : ClassId) (qa : Nat → Nat) (sz : Nat) (m_trace : Int64) (m_text : Nat → Int32) (m_typed : Int32) (m_told : Nat → Int32) (m_draft : Nat → Int32) (m_s : Nat → Int32) (m_past : Nat → Int32) (m_known : Int32) (m_images : Nat → Int32) (m_kept : Nat → Int32) (m_notes : Nat → Int32) (m_noted : Int32) (m_at : Int32) (m_sort : Int32) (m_start : Int32) (m_value : Int32) (m_steps : Nat → Int32) (m_rows : Nat → Int32) (m_held : Nat → Int32) (a1 : Int32) (a2 : Int32) (a3 : Int32) (r0 : Int32) (hG : gX7_isMorning m_told a1 a2 a3 = some r0) : Met l yX7_isMorning wsX7_isMorning ({ frames := 2, cells := 0, slots := 0, locals := 43 } : Room) (va_Pc [.ref (qa 0), .int a1, .int a2, .int a3] (wq_pp (dC, dI) [(cI, .int), (cJ, .long), (cZ, .boolean)] (wcM qa cI cJ cZ m_trace m_text m_typed m_told m_draft m_s m_past m_known m_images m_kept m_notes m_noted m_at m_sort m_start m_value m_steps m_rows m_held) sz)) (wq_Qi r0 wq_Z1 (va_A [] sz)) 0 0 (va_A [] sz) := by
  refine Met.ofW (cc := cX7_isMorning) (maxL := 4) (ret := (some .boolean)) (by decide) rfl ?_
  intro p e s m args below meth c s₁ B hml hv
  obtain ⟨rfl, hsz, hP, hK, hE⟩ := hv
  have hx := B.exec
  have hb := B.bytes
  have hr := B.returns
  have hts := atoms_spec (ws := wsX7_isMorning) B.pre
  have hown : s.vm.findClass RX7 = some m.cls := findClass_of_methodNamed B.named
  have hlocks := B.notSynchronized
  subst hsz
  generalize hAe : va_A [] s.heap.size = A at hE ⊢
  have hA : ∀ q : Nat, s.heap.size ≤ q → A q := fun q h => by rw [← hAe]; exact Or.inr h
  have hS : va_S A s.heap s.heap [] := va_S.rf
  have hl := lv_entry ([.ref (qa 0), .int a1, .int a2, .int a3]) (n := 4) (Nat.le_of_ble_eq_true rfl)
  rw [lg_entry_eq]
  generalize (lg_sl ([.ref (qa 0), .int a1, .int a2, .int a3]) ++ List.replicate (4 - (lg_sl ([.ref (qa 0), .int a1, .int a2, .int a3])).length) Slot.unset).toArray = ls at hl ⊢
  have hl : lv_has ls 4 [(0, .ref (qa 0)), (1, .int a1), (2, .int a2), (3, .int a3)] := hl
  unfold gX7_isMorning at hG
  refine lv_aload_n hx hb dX7_isMorning_0 rfl (lv_at hl 0 rfl) ?_
  refine lv_iload_n hx hb dX7_isMorning_1 rfl (lv_at hl 1 rfl) ?_
  obtain ⟨v2, g1, hG⟩ := wq_b1_s hG
  refine wq_ci (v := v2) (B := wq_Z1) (va_runV (As := [.int a1]) (rest := []) ⟨hx, hb, hml, hown, hts⟩ (C_X7_isGoodbye l dC dI cI cJ cZ qa s.heap.size m_trace m_text m_typed m_told m_draft m_s m_past m_known m_images m_kept m_notes m_noted m_at m_sort m_start m_value m_steps m_rows m_held a1 v2 g1) (cwV 1 hts gX7_isMorning_X7_isGoodbye rfl rfl rfl hdV_X7_isGoodbye ⟨Nat.le_of_ble_eq_true rfl, Nat.le_of_ble_eq_true rfl⟩) (wq_ppV hK hP hE hS hA (ci := 7) (q0 := 0) rfl rfl) rfl rfl hl.1 rfl (lv_room (Nat.le_of_ble_eq_true rfl)) dX7_isMorning_2 ⟨Nat.zero_le _, Nat.zero_le _⟩) hS hA (fun H locs b3 hk hS => ?_)
  replace hP := wq_kp hP hk
  clear hk
  refine lv_if_eq (tgt := 30) hx hb dX7_isMorning_5 (by decide) (fun c4 => ?_) (fun c4 => ?_)
  · replace hG := wq_t c4 hG
    refine lv_iconst (v := 0) hx hb dX7_isMorning_30 (by decide) ?_
    exact W.zret (v := 0) hx hb hr (wq_Z1_n (Or.inl rfl)) (fun t ht hW => ⟨⟨0, (), rfl, ⟨Option.some.inj hG, (Or.inl rfl)⟩, trivial⟩, hS.F ht⟩) hS.2.2 dX7_isMorning_31
  · replace hG := wq_f c4 hG
    refine lv_iload_n hx hb dX7_isMorning_8 rfl (lv_at hl 2 rfl) ?_
    refine lv_iconst (v := 1) hx hb dX7_isMorning_9 (by decide) ?_
    refine lv_bipush (v := 96) hx hb dX7_isMorning_10 (by decide) ?_
    obtain ⟨v6, g5, hG⟩ := wq_b1_s hG
    refine wq_ci (v := v6) (B := wq_Z1) (va_runS (As := [.int a2, .int 1, .int 96]) (rest := []) ⟨hx, hb, hml, hown, hts⟩ (C_X7_in l dC dI cI cJ cZ qa H.size  a2 1 96 v6 g5) (va_cwS 3 hts gX7_isMorning_X7_in rfl rfl rfl hdS_X7_in ⟨Nat.le_of_ble_eq_true rfl, Nat.le_of_ble_eq_true rfl⟩) (wq_ppS hK (hP.sub (ws' := []) [] rfl) hE hS hA) rfl rfl hl.1 rfl (lv_room (Nat.le_of_ble_eq_true rfl)) dX7_isMorning_12 ⟨Nat.zero_le _, Nat.zero_le _⟩) hS hA (fun H locs b7 hk hS => ?_)
    replace hP := wq_kp hP hk
    clear hk
    refine lv_if_eq (tgt := 30) hx hb dX7_isMorning_15 (by decide) (fun c8 => ?_) (fun c8 => ?_)
    · replace hG := wq_t c8 hG
      refine lv_iconst (v := 0) hx hb dX7_isMorning_30 (by decide) ?_
      exact W.zret (v := 0) hx hb hr (wq_Z1_n (Or.inl rfl)) (fun t ht hW => ⟨⟨0, (), rfl, ⟨Option.some.inj hG, (Or.inl rfl)⟩, trivial⟩, hS.F ht⟩) hS.2.2 dX7_isMorning_31
    · replace hG := wq_f c8 hG
      refine lv_aload_n hx hb dX7_isMorning_18 rfl (lv_at hl 0 rfl) ?_
      refine lv_iload_n hx hb dX7_isMorning_19 rfl (lv_at hl 3 rfl) ?_
      obtain ⟨v10, g9, hG⟩ := wq_b1_s hG
      refine wq_ci (v := v10) (B := wq_Z1) (va_runV (As := [.int a3]) (rest := []) ⟨hx, hb, hml, hown, hts⟩ (C_X7_isWoman l dC dI cI cJ cZ qa H.size m_trace m_text m_typed m_told m_draft m_s m_past m_known m_images m_kept m_notes m_noted m_at m_sort m_start m_value m_steps m_rows m_held a3 v10 g9) (cwV 1 hts gX7_isMorning_X7_isWoman rfl rfl rfl hdV_X7_isWoman ⟨Nat.le_of_ble_eq_true rfl, Nat.le_of_ble_eq_true rfl⟩) (wq_ppV hK hP hE hS hA (ci := 7) (q0 := 0) rfl rfl) rfl rfl hl.1 rfl (lv_room (Nat.le_of_ble_eq_true rfl)) dX7_isMorning_20 ⟨Nat.zero_le _, Nat.zero_le _⟩) hS hA (fun H locs b11 hk hS => ?_)
      replace hP := wq_kp hP hk
      clear hk
      refine lv_if_eq (tgt := 30) hx hb dX7_isMorning_23 (by decide) (fun c12 => ?_) (fun c12 => ?_)
      · replace hG := wq_t c12 hG
        refine lv_iconst (v := 0) hx hb dX7_isMorning_30 (by decide) ?_
        exact W.zret (v := 0) hx hb hr (wq_Z1_n (Or.inl rfl)) (fun t ht hW => ⟨⟨0, (), rfl, ⟨Option.some.inj hG, (Or.inl rfl)⟩, trivial⟩, hS.F ht⟩) hS.2.2 dX7_isMorning_31
      · replace hG := wq_f c12 hG
        refine lv_iconst (v := 1) hx hb dX7_isMorning_26 (by decide) ?_
        refine lv_goto (tgt := 31) hx hb dX7_isMorning_27 (by decide) ?_
        exact W.zret (v := 1) hx hb hr (wq_Z1_n (Or.inr rfl)) (fun t ht hW => ⟨⟨1, (), rfl, ⟨Option.some.inj hG, (Or.inr rfl)⟩, trivial⟩, hS.F ht⟩) hS.2.2 dX7_isMorning_31

theorem hdV_X7_morning : yX7_morning.cls = RX7 ∧ yX7_morning.cls ≠ "java/lang/invoke/MethodHandle" ∧ yX7_morning.cls ≠ "java/lang/invoke/VarHandle" ∧ (parseMethodDescriptor yX7_morning.desc).map (fun d => d.parameters.length) = some 3 := by decide +kernel
set_option maxHeartbeats 4000000 in
set_option maxRecDepth 100000 in
theorem C_X7_morning (l : Launch) (dC : Nat → ClassId) (dI : Nat → Nat → Nat) (cI cJ cZ : ClassId) (qa : Nat → Nat) (sz : Nat) (m_trace : Int64) (m_text : Nat → Int32) (m_typed : Int32) (m_told : Nat → Int32) (m_draft : Nat → Int32) (m_s : Nat → Int32) (m_past : Nat → Int32) (m_known : Int32) (m_images : Nat → Int32) (m_kept : Nat → Int32) (m_notes : Nat → Int32) (m_noted : Int32) (m_at : Int32) (m_sort : Int32) (m_start : Int32) (m_value : Int32) (m_steps : Nat → Int32) (m_rows : Nat → Int32) (m_held : Nat → Int32) (a1 : Int32) (a2 : Int32) (a3 : Int32) (r0 : Int32) (r_m_s : Nat → Int32) (r_m_past : Nat → Int32) (r_m_known : Int32) (hG : gX7_morning m_told m_s m_past m_known a1 a2 a3 = some (r0, r_m_s, r_m_past, r_m_known)) : Met l yX7_morning wsX7_morning ({ frames := 4, cells := 0, slots := 0, locals := 94 } : Room) (va_Pc [.ref (qa 0), .int a1, .int a2, .int a3] (wq_pw (dC, dI) [(cI, .int), (cJ, .long), (cZ, .boolean)] (wcM qa cI cJ cZ m_trace m_text m_typed m_told m_draft m_s m_past m_known m_images m_kept m_notes m_noted m_at m_sort m_start m_value m_steps m_rows m_held) sz)) (wq_Wi (dC, dI) r0 wq_tr (wcM qa cI cJ cZ m_trace m_text m_typed m_told m_draft r_m_s r_m_past r_m_known m_images m_kept m_notes m_noted m_at m_sort m_start m_value m_steps m_rows m_held) (va_A (wcM qa cI cJ cZ m_trace m_text m_typed m_told m_draft m_s m_past m_known m_images m_kept m_notes m_noted m_at m_sort m_start m_value m_steps m_rows m_held) sz)) 0 0 (va_A (wcM qa cI cJ cZ m_trace m_text m_typed m_told m_draft m_s m_past m_known m_images m_kept m_notes m_noted m_at m_sort m_start m_value m_steps m_rows m_held) sz) := by
  refine Met.ofW (cc := cX7_morning) (maxL := 4) (ret := (some .int)) (by decide) rfl ?_
  intro p e s m args below meth c s₁ B hml hv
  obtain ⟨rfl, hsz, hP, hK, hD0, hE⟩ := hv
  have hx := B.exec
  have hb := B.bytes
  have hr := B.returns
  have hts := atoms_spec (ws := wsX7_morning) B.pre
  have hown : s.vm.findClass RX7 = some m.cls := findClass_of_methodNamed B.named
  have hlocks := B.notSynchronized
  subst hsz
  have hD := hD0.self (sz := s.heap.size)
  generalize hAe : va_A (wcM qa cI cJ cZ m_trace m_text m_typed m_told m_draft m_s m_past m_known m_images m_kept m_notes m_noted m_at m_sort m_start m_value m_steps m_rows m_held) s.heap.size = A at hD hE ⊢
  have hA : ∀ q : Nat, s.heap.size ≤ q → A q := fun q h => by rw [← hAe]; exact Or.inr h
  have hS : va_S A s.heap s.heap [] := va_S.rf
  have hinX7 : ∀ w ∈ u_ws RX7 TX7 19, w ∈ wsX7_morning := by decide +kernel
  have k1 := hts (.fieldLink RX7 19 "DoorMorningsModel" "s" "[I") (by decide +kernel)
  have hl := lv_entry ([.ref (qa 0), .int a1, .int a2, .int a3]) (n := 4) (Nat.le_of_ble_eq_true rfl)
  rw [lg_entry_eq]
  generalize (lg_sl ([.ref (qa 0), .int a1, .int a2, .int a3]) ++ List.replicate (4 - (lg_sl ([.ref (qa 0), .int a1, .int a2, .int a3])).length) Slot.unset).toArray = ls at hl ⊢
  have hl : lv_has ls 4 [(0, .ref (qa 0)), (1, .int a1), (2, .int a2), (3, .int a3)] := hl
  unfold gX7_morning at hG
  refine lv_aload_n hx hb dX7_morning_0 rfl (lv_at hl 0 rfl) ?_
  refine lv_iload_n hx hb dX7_morning_1 rfl (lv_at hl 1 rfl) ?_
  refine lv_iload_n hx hb dX7_morning_2 rfl (lv_at hl 2 rfl) ?_
  refine lv_iload_n hx hb dX7_morning_3 rfl (lv_at hl 3 rfl) ?_
  obtain ⟨v2, g1, hG⟩ := wq_b1_s hG
  refine wq_ci (v := v2) (B := wq_Z1) (va_runV (As := [.int a1, .int a2, .int a3]) (rest := []) ⟨hx, hb, hml, hown, hts⟩ (C_X7_isMorning l dC dI cI cJ cZ qa s.heap.size m_trace m_text m_typed m_told m_draft m_s m_past m_known m_images m_kept m_notes m_noted m_at m_sort m_start m_value m_steps m_rows m_held a1 a2 a3 v2 g1) (cwV 3 hts gX7_morning_X7_isMorning rfl rfl rfl hdV_X7_isMorning ⟨Nat.le_of_ble_eq_true rfl, Nat.le_of_ble_eq_true rfl⟩) (wq_ppV hK hP hE hS hA (ci := 7) (q0 := 0) rfl rfl) rfl rfl hl.1 rfl (lv_room (Nat.le_of_ble_eq_true rfl)) dX7_morning_4 ⟨Nat.zero_le _, Nat.zero_le _⟩) hS hA (fun H locs b3 hk hS => ?_)
  replace hP := wq_kp hP hk
  clear hk
  refine lv_if_ne (tgt := 12) hx hb dX7_morning_7 (by decide) (fun c4 => ?_) (fun c4 => ?_)
  · replace hG := wq_f c4 hG
    refine lv_aload_n hx hb dX7_morning_12 rfl (lv_at hl 0 rfl) ?_
    refine lv_iload_n hx hb dX7_morning_13 rfl (lv_at hl 3 rfl) ?_
    obtain ⟨v6, g5, hG⟩ := wq_b1_s hG
    refine wq_ci (v := v6) (B := wq_Z1) (va_runV (As := [.int a3]) (rest := []) ⟨hx, hb, hml, hown, hts⟩ (C_X7_isIll l dC dI cI cJ cZ qa H.size m_trace m_text m_typed m_told m_draft m_s m_past m_known m_images m_kept m_notes m_noted m_at m_sort m_start m_value m_steps m_rows m_held a3 v6 g5) (cwV 1 hts gX7_morning_X7_isIll rfl rfl rfl hdV_X7_isIll ⟨Nat.le_of_ble_eq_true rfl, Nat.le_of_ble_eq_true rfl⟩) (wq_ppV hK hP hE hS hA (ci := 7) (q0 := 0) rfl rfl) rfl rfl hl.1 rfl (lv_room (Nat.le_of_ble_eq_true rfl)) dX7_morning_14 ⟨Nat.zero_le _, Nat.zero_le _⟩) hS hA (fun H locs b7 hk hS => ?_)
    replace hP := wq_kp hP hk
    clear hk
    refine lv_if_ne (tgt := 32) hx hb dX7_morning_17 (by decide) (fun c8 => ?_) (fun c8 => ?_)
    · replace hG := wq_f c8 hG
      refine lv_bipush (v := (-2)) hx hb dX7_morning_32 (by decide) ?_
      obtain ⟨e0, e1, e2, e3⟩ := wq_j4 hG
      subst e0
      subst e1
      subst e2
      subst e3
      exact W.iret hx hb hr (fun t ht hW => ⟨⟨_, (), rfl, ⟨rfl, trivial⟩, by rw [ht]; exact hP, hD⟩, hS.F ht⟩) hS.2.2 dX7_morning_34
    · replace hG := wq_t c8 hG
      refine lv_aload_n hx hb dX7_morning_20 rfl (lv_at hl 0 rfl) ?_
      refine va_get (D := (dC, dI)) (ci := 7) (v := .ref (qa 4)) (C := RX7) (T := TX7) (N := 19) hx hb hts hinX7 hown hK hP 0 rfl rfl 5 (by decide) k1 (fun _ h9 => h9) rfl dX7_morning_21 ?_
      refine lv_iconst (v := 0) hx hb dX7_morning_24 (by decide) ?_
      refine wq_iald (D := (dC, dI)) hx hb hK hP 4 0 rfl rfl (wq_lit (by decide)) 0 rfl dX7_morning_25 ?_
      refine lv_sipush (v := 999) hx hb dX7_morning_26 (by decide) ?_
      refine lv_icmp_ne (tgt := 35) hx hb dX7_morning_29 (by decide) (fun c9 => ?_) (fun c9 => ?_)
      · replace hG := wq_f c9 hG
        refine lv_aload_n hx hb dX7_morning_35 rfl (lv_at hl 0 rfl) ?_
        obtain ⟨w11, w12, g10, hG⟩ := wq_b2_s hG
        have hFc := va_free (wc := wcM qa cI cJ cZ m_trace m_text m_typed m_told m_draft m_s m_past m_known m_images m_kept m_notes m_noted m_at m_sort m_start m_value m_steps m_rows m_held) hD hS hA [0, 1, 2, 3, 4, 5, 6, 7, 8, 9, 10, 11] rfl
        refine wq_dv (D := (dC, dI)) (wr := []) (w1 := wcM qa cI cJ cZ m_trace m_text m_typed m_told m_draft m_s w11 w12 m_images m_kept m_notes m_noted m_at m_sort m_start m_value m_steps m_rows m_held) (w2 := wcM qa cI cJ cZ m_trace m_text m_typed m_told m_draft m_s w11 w12 m_images m_kept m_notes m_noted m_at m_sort m_start m_value m_steps m_rows m_held) (va_runV (As := []) (rest := []) ⟨hx, hb, hml, hown, hts⟩ (C_X7_keeps l dC dI cI cJ cZ qa H.size m_trace m_text m_typed m_told m_draft m_s m_past m_known m_images m_kept m_notes m_noted m_at m_sort m_start m_value m_steps m_rows m_held  w11 w12 g10) (cwV 0 hts gX7_morning_X7_keeps rfl rfl rfl hdV_X7_keeps ⟨Nat.le_of_ble_eq_true rfl, Nat.le_of_ble_eq_true rfl⟩) (wq_pwV hK hP hD hE hS hFc (ci := 7) (q0 := 0) rfl rfl) rfl rfl hl.1 rfl (lv_room (Nat.le_of_ble_eq_true rfl)) dX7_morning_36 ⟨Nat.zero_le _, Nat.zero_le _⟩) hP hD hS hFc [0, 1, 2, 3, 4, 5, 6, 7, 8, 9, 10, 11] [] [0, 1, 2, 3, 4, 5, 6, 7, 8, 9, 10, 11] rfl rfl (by decide) (by decide) (by decide) rfl (fun H locs hP hD hS => ?_)
        clear hFc
        refine lv_aload_n hx hb dX7_morning_39 rfl (lv_at hl 0 rfl) ?_
        refine lv_iload_n hx hb dX7_morning_40 rfl (lv_at hl 1 rfl) ?_
        refine lv_iload_n hx hb dX7_morning_41 rfl (lv_at hl 2 rfl) ?_
        refine lv_iload_n hx hb dX7_morning_42 rfl (lv_at hl 3 rfl) ?_
        obtain ⟨v14, w15, g13, hG⟩ := wq_b2_s hG
        have hFc := va_free (wc := wcM qa cI cJ cZ m_trace m_text m_typed m_told m_draft m_s w11 w12 m_images m_kept m_notes m_noted m_at m_sort m_start m_value m_steps m_rows m_held) hD hS hA [0, 1, 2, 3, 4, 5, 6, 7, 8, 9, 10, 11] rfl
        refine wq_di (D := (dC, dI)) (v := v14) (B := wq_tr) (wr := []) (w1 := wcM qa cI cJ cZ m_trace m_text m_typed m_told m_draft w15 w11 w12 m_images m_kept m_notes m_noted m_at m_sort m_start m_value m_steps m_rows m_held) (w2 := wcM qa cI cJ cZ m_trace m_text m_typed m_told m_draft w15 w11 w12 m_images m_kept m_notes m_noted m_at m_sort m_start m_value m_steps m_rows m_held) (va_runV (As := [.int a1, .int a2, .int a3]) (rest := []) ⟨hx, hb, hml, hown, hts⟩ (C_X7_goes l dC dI cI cJ cZ qa H.size m_trace m_text m_typed m_told m_draft m_s w11 w12 m_images m_kept m_notes m_noted m_at m_sort m_start m_value m_steps m_rows m_held a1 a2 a3 v14 w15 g13) (cwV 3 hts gX7_morning_X7_goes rfl rfl rfl hdV_X7_goes ⟨Nat.le_of_ble_eq_true rfl, Nat.le_of_ble_eq_true rfl⟩) (wq_pwV hK hP hD hE hS hFc (ci := 7) (q0 := 0) rfl rfl) rfl rfl hl.1 rfl (lv_room (Nat.le_of_ble_eq_true rfl)) dX7_morning_43 ⟨Nat.zero_le _, Nat.zero_le _⟩) hP hD hS hFc [0, 1, 2, 3, 4, 5, 6, 7, 8, 9, 10, 11] [] [0, 1, 2, 3, 4, 5, 6, 7, 8, 9, 10, 11] rfl rfl (by decide) (by decide) (by decide) rfl (fun H locs b16 hP hD hS => ?_)
        clear hFc
        obtain ⟨e0, e1, e2, e3⟩ := wq_j4 hG
        subst e0
        subst e1
        subst e2
        subst e3
        exact W.iret hx hb hr (fun t ht hW => ⟨⟨_, (), rfl, ⟨rfl, trivial⟩, by rw [ht]; exact hP, hD⟩, hS.F ht⟩) hS.2.2 dX7_morning_46
      · replace hG := wq_t c9 hG
        refine lv_bipush (v := (-2)) hx hb dX7_morning_32 (by decide) ?_
        obtain ⟨e0, e1, e2, e3⟩ := wq_j4 hG
        subst e0
        subst e1
        subst e2
        subst e3
        exact W.iret hx hb hr (fun t ht hW => ⟨⟨_, (), rfl, ⟨rfl, trivial⟩, by rw [ht]; exact hP, hD⟩, hS.F ht⟩) hS.2.2 dX7_morning_34
  · replace hG := wq_t c4 hG
    refine lv_iconst (v := (-1)) hx hb dX7_morning_10 (by decide) ?_
    obtain ⟨e0, e1, e2, e3⟩ := wq_j4 hG
    subst e0
    subst e1
    subst e2
    subst e3
    exact W.iret hx hb hr (fun t ht hW => ⟨⟨_, (), rfl, ⟨rfl, trivial⟩, by rw [ht]; exact hP, hD⟩, hS.F ht⟩) hS.2.2 dX7_morning_11

theorem hdV_X7_home : yX7_home.cls = RX7 ∧ yX7_home.cls ≠ "java/lang/invoke/MethodHandle" ∧ yX7_home.cls ≠ "java/lang/invoke/VarHandle" ∧ (parseMethodDescriptor yX7_home.desc).map (fun d => d.parameters.length) = some 1 := by decide +kernel
set_option maxHeartbeats 4000000 in
set_option maxRecDepth 100000 in
theorem C_X7_home (l : Launch) (dC : Nat → ClassId) (dI : Nat → Nat → Nat) (cI cJ cZ : ClassId) (qa : Nat → Nat) (sz : Nat) (m_trace : Int64) (m_text : Nat → Int32) (m_typed : Int32) (m_told : Nat → Int32) (m_draft : Nat → Int32) (m_s : Nat → Int32) (m_past : Nat → Int32) (m_known : Int32) (m_images : Nat → Int32) (m_kept : Nat → Int32) (m_notes : Nat → Int32) (m_noted : Int32) (m_at : Int32) (m_sort : Int32) (m_start : Int32) (m_value : Int32) (m_steps : Nat → Int32) (m_rows : Nat → Int32) (m_held : Nat → Int32) (a1 : Int32) (r0 : Int32) (r_m_s : Nat → Int32) (r_m_past : Nat → Int32) (r_m_known : Int32) (hG : gX7_home m_s m_past m_known a1 = some (r0, r_m_s, r_m_past, r_m_known)) : Met l yX7_home wsX7_home ({ frames := 1, cells := 0, slots := 0, locals := 22 } : Room) (va_Pc [.ref (qa 0), .int a1] (wq_pw (dC, dI) [(cI, .int), (cJ, .long), (cZ, .boolean)] (wcM qa cI cJ cZ m_trace m_text m_typed m_told m_draft m_s m_past m_known m_images m_kept m_notes m_noted m_at m_sort m_start m_value m_steps m_rows m_held) sz)) (wq_Wi (dC, dI) r0 wq_tr (wcM qa cI cJ cZ m_trace m_text m_typed m_told m_draft r_m_s r_m_past r_m_known m_images m_kept m_notes m_noted m_at m_sort m_start m_value m_steps m_rows m_held) (va_A (wcM qa cI cJ cZ m_trace m_text m_typed m_told m_draft m_s m_past m_known m_images m_kept m_notes m_noted m_at m_sort m_start m_value m_steps m_rows m_held) sz)) 0 0 (va_A (wcM qa cI cJ cZ m_trace m_text m_typed m_told m_draft m_s m_past m_known m_images m_kept m_notes m_noted m_at m_sort m_start m_value m_steps m_rows m_held) sz) := by
  refine Met.ofW (cc := cX7_home) (maxL := 2) (ret := (some .int)) (by decide) rfl ?_
  intro p e s m args below meth c s₁ B hml hv
  obtain ⟨rfl, hsz, hP, hK, hD0, hE⟩ := hv
  have hx := B.exec
  have hb := B.bytes
  have hr := B.returns
  have hts := atoms_spec (ws := wsX7_home) B.pre
  have hown : s.vm.findClass RX7 = some m.cls := findClass_of_methodNamed B.named
  have hlocks := B.notSynchronized
  subst hsz
  have hD := hD0.self (sz := s.heap.size)
  generalize hAe : va_A (wcM qa cI cJ cZ m_trace m_text m_typed m_told m_draft m_s m_past m_known m_images m_kept m_notes m_noted m_at m_sort m_start m_value m_steps m_rows m_held) s.heap.size = A at hD hE ⊢
  have hA : ∀ q : Nat, s.heap.size ≤ q → A q := fun q h => by rw [← hAe]; exact Or.inr h
  have hS : va_S A s.heap s.heap [] := va_S.rf
  have hinX7 : ∀ w ∈ u_ws RX7 TX7 19, w ∈ wsX7_home := by decide +kernel
  have k1 := hts (.fieldLink RX7 19 "DoorMorningsModel" "s" "[I") (by decide +kernel)
  have hl := lv_entry ([.ref (qa 0), .int a1]) (n := 2) (Nat.le_of_ble_eq_true rfl)
  rw [lg_entry_eq]
  generalize (lg_sl ([.ref (qa 0), .int a1]) ++ List.replicate (2 - (lg_sl ([.ref (qa 0), .int a1])).length) Slot.unset).toArray = ls at hl ⊢
  have hl : lv_has ls 2 [(0, .ref (qa 0)), (1, .int a1)] := hl
  unfold gX7_home at hG
  refine lv_iload_n hx hb dX7_home_0 rfl (lv_at hl 1 rfl) ?_
  refine lv_iconst (v := 1) hx hb dX7_home_1 (by decide) ?_
  refine lv_bipush (v := 9) hx hb dX7_home_2 (by decide) ?_
  obtain ⟨v2, g1, hG⟩ := wq_b1_s hG
  refine wq_ci (v := v2) (B := wq_Z1) (va_runS (As := [.int a1, .int 1, .int 9]) (rest := []) ⟨hx, hb, hml, hown, hts⟩ (C_X7_in l dC dI cI cJ cZ qa s.heap.size  a1 1 9 v2 g1) (va_cwS 3 hts gX7_home_X7_in rfl rfl rfl hdS_X7_in ⟨Nat.le_of_ble_eq_true rfl, Nat.le_of_ble_eq_true rfl⟩) (wq_ppS hK (hP.sub (ws' := []) [] rfl) hE hS hA) rfl rfl hl.1 rfl (lv_room (Nat.le_of_ble_eq_true rfl)) dX7_home_4 ⟨Nat.zero_le _, Nat.zero_le _⟩) hS hA (fun H locs b3 hk hS => ?_)
  replace hP := wq_kp hP hk
  clear hk
  refine lv_if_ne (tgt := 12) hx hb dX7_home_7 (by decide) (fun c4 => ?_) (fun c4 => ?_)
  · replace hG := wq_f c4 hG
    refine lv_aload_n hx hb dX7_home_12 rfl (lv_at hl 0 rfl) ?_
    refine va_get (D := (dC, dI)) (ci := 7) (v := .ref (qa 4)) (C := RX7) (T := TX7) (N := 19) hx hb hts hinX7 hown hK hP 0 rfl rfl 5 (by decide) k1 (fun _ h9 => h9) rfl dX7_home_13 ?_
    refine lv_iconst (v := 0) hx hb dX7_home_16 (by decide) ?_
    refine wq_iald (D := (dC, dI)) hx hb hK hP 4 0 rfl rfl (wq_lit (by decide)) 0 rfl dX7_home_17 ?_
    refine lv_iload_n hx hb dX7_home_18 rfl (lv_at hl 1 rfl) ?_
    refine lv_iadd hx hb dX7_home_19 ?_
    refine lv_sipush (v := 999) hx hb dX7_home_20 (by decide) ?_
    refine lv_icmp_le (tgt := 29) hx hb dX7_home_23 (by decide) (fun c5 => ?_) (fun c5 => ?_)
    · replace hG := wq_t c5 hG
      refine lv_aload_n hx hb dX7_home_29 rfl (lv_at hl 0 rfl) ?_
      obtain ⟨w7, w8, g6, hG⟩ := wq_b2_s hG
      have hFc := va_free (wc := wcM qa cI cJ cZ m_trace m_text m_typed m_told m_draft m_s m_past m_known m_images m_kept m_notes m_noted m_at m_sort m_start m_value m_steps m_rows m_held) hD hS hA [0, 1, 2, 3, 4, 5, 6, 7, 8, 9, 10, 11] rfl
      refine wq_dv (D := (dC, dI)) (wr := []) (w1 := wcM qa cI cJ cZ m_trace m_text m_typed m_told m_draft m_s w7 w8 m_images m_kept m_notes m_noted m_at m_sort m_start m_value m_steps m_rows m_held) (w2 := wcM qa cI cJ cZ m_trace m_text m_typed m_told m_draft m_s w7 w8 m_images m_kept m_notes m_noted m_at m_sort m_start m_value m_steps m_rows m_held) (va_runV (As := []) (rest := []) ⟨hx, hb, hml, hown, hts⟩ (C_X7_keeps l dC dI cI cJ cZ qa H.size m_trace m_text m_typed m_told m_draft m_s m_past m_known m_images m_kept m_notes m_noted m_at m_sort m_start m_value m_steps m_rows m_held  w7 w8 g6) (cwV 0 hts gX7_home_X7_keeps rfl rfl rfl hdV_X7_keeps ⟨Nat.le_of_ble_eq_true rfl, Nat.le_of_ble_eq_true rfl⟩) (wq_pwV hK hP hD hE hS hFc (ci := 7) (q0 := 0) rfl rfl) rfl rfl hl.1 rfl (lv_room (Nat.le_of_ble_eq_true rfl)) dX7_home_30 ⟨Nat.zero_le _, Nat.zero_le _⟩) hP hD hS hFc [0, 1, 2, 3, 4, 5, 6, 7, 8, 9, 10, 11] [] [0, 1, 2, 3, 4, 5, 6, 7, 8, 9, 10, 11] rfl rfl (by decide) (by decide) (by decide) rfl (fun H locs hP hD hS => ?_)
      clear hFc
      refine lv_aload_n hx hb dX7_home_33 rfl (lv_at hl 0 rfl) ?_
      refine va_get (D := (dC, dI)) (ci := 7) (v := .ref (qa 4)) (C := RX7) (T := TX7) (N := 19) hx hb hts hinX7 hown hK hP 0 rfl rfl 5 (by decide) k1 (fun _ h9 => h9) rfl dX7_home_34 ?_
      refine lv_iconst (v := 0) hx hb dX7_home_37 (by decide) ?_
      refine lv_dup2_11 hx hb dX7_home_38 rfl rfl ?_
      refine wq_iald (D := (dC, dI)) hx hb hK hP 4 0 rfl rfl (wq_lit (by decide)) 0 rfl dX7_home_39 ?_
      refine lv_iload_n hx hb dX7_home_40 rfl (lv_at hl 1 rfl) ?_
      refine lv_iadd hx hb dX7_home_41 ?_
      refine wq_iast (D := (dC, dI)) hx hb hK hP hD hS 4 0 rfl rfl (wq_lit (by decide)) 0 rfl (wcM qa cI cJ cZ m_trace m_text m_typed m_told m_draft (upd m_s 0 ((m_s 0) + a1)) w7 w8 m_images m_kept m_notes m_noted m_at m_sort m_start m_value m_steps m_rows m_held) rfl dX7_home_42 (fun H locs hP hD hS => ?_)
      refine lv_aload_n hx hb dX7_home_43 rfl (lv_at hl 0 rfl) ?_
      refine va_get (D := (dC, dI)) (ci := 7) (v := .ref (qa 4)) (C := RX7) (T := TX7) (N := 19) hx hb hts hinX7 hown hK hP 0 rfl rfl 5 (by decide) k1 (fun _ h9 => h9) rfl dX7_home_44 ?_
      refine lv_iconst (v := 1) hx hb dX7_home_47 (by decide) ?_
      refine lv_aload_n hx hb dX7_home_48 rfl (lv_at hl 0 rfl) ?_
      refine va_get (D := (dC, dI)) (ci := 7) (v := .ref (qa 4)) (C := RX7) (T := TX7) (N := 19) hx hb hts hinX7 hown hK hP 0 rfl rfl 5 (by decide) k1 (fun _ h9 => h9) rfl dX7_home_49 ?_
      refine lv_iconst (v := 1) hx hb dX7_home_52 (by decide) ?_
      refine wq_iald (D := (dC, dI)) hx hb hK hP 4 0 rfl rfl (wq_lit (by decide)) 1 rfl dX7_home_53 ?_
      refine lv_iload_n hx hb dX7_home_54 rfl (lv_at hl 1 rfl) ?_
      refine lv_isub hx hb dX7_home_55 ?_
      refine lv_iconst (v := 0) hx hb dX7_home_56 (by decide) ?_
      refine lv_bipush (v := 24) hx hb dX7_home_57 (by decide) ?_
      obtain ⟨v10, g9, hG⟩ := wq_b1_s hG
      refine wq_ci (v := v10) (B := wq_tr) (va_runS (As := [.int (((upd m_s 0 ((m_s 0) + a1)) 1) - a1), .int 0, .int 24]) (rest := [.int 1, .ref (qa 4)]) ⟨hx, hb, hml, hown, hts⟩ (C_X7_bound l dC dI cI cJ cZ qa H.size  (((upd m_s 0 ((m_s 0) + a1)) 1) - a1) 0 24 v10 g9) (va_cwS 3 hts gX7_home_X7_bound rfl rfl rfl hdS_X7_bound ⟨Nat.le_of_ble_eq_true rfl, Nat.le_of_ble_eq_true rfl⟩) (wq_ppS hK (hP.sub (ws' := []) [] rfl) hE hS hA) rfl rfl hl.1 rfl (lv_room (Nat.le_of_ble_eq_true rfl)) dX7_home_59 ⟨Nat.zero_le _, Nat.zero_le _⟩) hS hA (fun H locs b11 hk hS => ?_)
      replace hP := wq_kp hP hk
      clear hk
      refine wq_iast (D := (dC, dI)) hx hb hK hP hD hS 4 0 rfl rfl (wq_lit (by decide)) 1 rfl (wcM qa cI cJ cZ m_trace m_text m_typed m_told m_draft (upd (upd m_s 0 ((m_s 0) + a1)) 1 v10) w7 w8 m_images m_kept m_notes m_noted m_at m_sort m_start m_value m_steps m_rows m_held) rfl dX7_home_62 (fun H locs hP hD hS => ?_)
      refine lv_aload_n hx hb dX7_home_63 rfl (lv_at hl 0 rfl) ?_
      refine va_get (D := (dC, dI)) (ci := 7) (v := .ref (qa 4)) (C := RX7) (T := TX7) (N := 19) hx hb hts hinX7 hown hK hP 0 rfl rfl 5 (by decide) k1 (fun _ h9 => h9) rfl dX7_home_64 ?_
      refine lv_iconst (v := 1) hx hb dX7_home_67 (by decide) ?_
      refine wq_iald (D := (dC, dI)) hx hb hK hP 4 0 rfl rfl (wq_lit (by decide)) 1 rfl dX7_home_68 ?_
      obtain ⟨e0, e1, e2, e3⟩ := wq_j4 hG
      subst e0
      subst e1
      subst e2
      subst e3
      exact W.iret hx hb hr (fun t ht hW => ⟨⟨_, (), rfl, ⟨rfl, trivial⟩, by rw [ht]; exact hP, hD⟩, hS.F ht⟩) hS.2.2 dX7_home_69
    · replace hG := wq_f c5 hG
      refine lv_bipush (v := (-2)) hx hb dX7_home_26 (by decide) ?_
      obtain ⟨e0, e1, e2, e3⟩ := wq_j4 hG
      subst e0
      subst e1
      subst e2
      subst e3
      exact W.iret hx hb hr (fun t ht hW => ⟨⟨_, (), rfl, ⟨rfl, trivial⟩, by rw [ht]; exact hP, hD⟩, hS.F ht⟩) hS.2.2 dX7_home_28
  · replace hG := wq_t c4 hG
    refine lv_iconst (v := (-1)) hx hb dX7_home_10 (by decide) ?_
    obtain ⟨e0, e1, e2, e3⟩ := wq_j4 hG
    subst e0
    subst e1
    subst e2
    subst e3
    exact W.iret hx hb hr (fun t ht hW => ⟨⟨_, (), rfl, ⟨rfl, trivial⟩, by rw [ht]; exact hP, hD⟩, hS.F ht⟩) hS.2.2 dX7_home_11

theorem hdV_X7_falls : yX7_falls.cls = RX7 ∧ yX7_falls.cls ≠ "java/lang/invoke/MethodHandle" ∧ yX7_falls.cls ≠ "java/lang/invoke/VarHandle" ∧ (parseMethodDescriptor yX7_falls.desc).map (fun d => d.parameters.length) = some 2 := by decide +kernel
set_option maxHeartbeats 4000000 in
set_option maxRecDepth 100000 in
theorem C_X7_falls (l : Launch) (dC : Nat → ClassId) (dI : Nat → Nat → Nat) (cI cJ cZ : ClassId) (qa : Nat → Nat) (sz : Nat) (m_trace : Int64) (m_text : Nat → Int32) (m_typed : Int32) (m_told : Nat → Int32) (m_draft : Nat → Int32) (m_s : Nat → Int32) (m_past : Nat → Int32) (m_known : Int32) (m_images : Nat → Int32) (m_kept : Nat → Int32) (m_notes : Nat → Int32) (m_noted : Int32) (m_at : Int32) (m_sort : Int32) (m_start : Int32) (m_value : Int32) (m_steps : Nat → Int32) (m_rows : Nat → Int32) (m_held : Nat → Int32) (a1 : Int32) (a2 : Int32) (r0 : Int32) (r_m_s : Nat → Int32) (r_m_past : Nat → Int32) (r_m_known : Int32) (hG : gX7_falls m_told m_s m_past m_known a1 a2 = some (r0, r_m_s, r_m_past, r_m_known)) : Met l yX7_falls wsX7_falls ({ frames := 2, cells := 0, slots := 0, locals := 43 } : Room) (va_Pc [.ref (qa 0), .int a1, .int a2] (wq_pw (dC, dI) [(cI, .int), (cJ, .long), (cZ, .boolean)] (wcM qa cI cJ cZ m_trace m_text m_typed m_told m_draft m_s m_past m_known m_images m_kept m_notes m_noted m_at m_sort m_start m_value m_steps m_rows m_held) sz)) (wq_Wi (dC, dI) r0 wq_tr (wcM qa cI cJ cZ m_trace m_text m_typed m_told m_draft r_m_s r_m_past r_m_known m_images m_kept m_notes m_noted m_at m_sort m_start m_value m_steps m_rows m_held) (va_A (wcM qa cI cJ cZ m_trace m_text m_typed m_told m_draft m_s m_past m_known m_images m_kept m_notes m_noted m_at m_sort m_start m_value m_steps m_rows m_held) sz)) 0 0 (va_A (wcM qa cI cJ cZ m_trace m_text m_typed m_told m_draft m_s m_past m_known m_images m_kept m_notes m_noted m_at m_sort m_start m_value m_steps m_rows m_held) sz) := by
  refine Met.ofW (cc := cX7_falls) (maxL := 3) (ret := (some .int)) (by decide) rfl ?_
  intro p e s m args below meth c s₁ B hml hv
  obtain ⟨rfl, hsz, hP, hK, hD0, hE⟩ := hv
  have hx := B.exec
  have hb := B.bytes
  have hr := B.returns
  have hts := atoms_spec (ws := wsX7_falls) B.pre
  have hown : s.vm.findClass RX7 = some m.cls := findClass_of_methodNamed B.named
  have hlocks := B.notSynchronized
  subst hsz
  have hD := hD0.self (sz := s.heap.size)
  generalize hAe : va_A (wcM qa cI cJ cZ m_trace m_text m_typed m_told m_draft m_s m_past m_known m_images m_kept m_notes m_noted m_at m_sort m_start m_value m_steps m_rows m_held) s.heap.size = A at hD hE ⊢
  have hA : ∀ q : Nat, s.heap.size ≤ q → A q := fun q h => by rw [← hAe]; exact Or.inr h
  have hS : va_S A s.heap s.heap [] := va_S.rf
  have hinX7 : ∀ w ∈ u_ws RX7 TX7 19, w ∈ wsX7_falls := by decide +kernel
  have k1 := hts (.fieldLink RX7 19 "DoorMorningsModel" "s" "[I") (by decide +kernel)
  have hl := lv_entry ([.ref (qa 0), .int a1, .int a2]) (n := 3) (Nat.le_of_ble_eq_true rfl)
  rw [lg_entry_eq]
  generalize (lg_sl ([.ref (qa 0), .int a1, .int a2]) ++ List.replicate (3 - (lg_sl ([.ref (qa 0), .int a1, .int a2])).length) Slot.unset).toArray = ls at hl ⊢
  have hl : lv_has ls 3 [(0, .ref (qa 0)), (1, .int a1), (2, .int a2)] := hl
  unfold gX7_falls at hG
  refine lv_aload_n hx hb dX7_falls_0 rfl (lv_at hl 0 rfl) ?_
  refine lv_iload_n hx hb dX7_falls_1 rfl (lv_at hl 1 rfl) ?_
  obtain ⟨v2, g1, hG⟩ := wq_b1_s hG
  refine wq_ci (v := v2) (B := wq_Z1) (va_runV (As := [.int a1]) (rest := []) ⟨hx, hb, hml, hown, hts⟩ (C_X7_isWoman l dC dI cI cJ cZ qa s.heap.size m_trace m_text m_typed m_told m_draft m_s m_past m_known m_images m_kept m_notes m_noted m_at m_sort m_start m_value m_steps m_rows m_held a1 v2 g1) (cwV 1 hts gX7_falls_X7_isWoman rfl rfl rfl hdV_X7_isWoman ⟨Nat.le_of_ble_eq_true rfl, Nat.le_of_ble_eq_true rfl⟩) (wq_ppV hK hP hE hS hA (ci := 7) (q0 := 0) rfl rfl) rfl rfl hl.1 rfl (lv_room (Nat.le_of_ble_eq_true rfl)) dX7_falls_2 ⟨Nat.zero_le _, Nat.zero_le _⟩) hS hA (fun H locs b3 hk hS => ?_)
  replace hP := wq_kp hP hk
  clear hk
  refine lv_if_eq (tgt := 17) hx hb dX7_falls_5 (by decide) (fun c4 => ?_) (fun c4 => ?_)
  · replace hG := wq_t c4 hG
    refine lv_iconst (v := (-1)) hx hb dX7_falls_17 (by decide) ?_
    obtain ⟨e0, e1, e2, e3⟩ := wq_j4 hG
    subst e0
    subst e1
    subst e2
    subst e3
    exact W.iret hx hb hr (fun t ht hW => ⟨⟨_, (), rfl, ⟨rfl, trivial⟩, by rw [ht]; exact hP, hD⟩, hS.F ht⟩) hS.2.2 dX7_falls_18
  · replace hG := wq_f c4 hG
    refine lv_iload_n hx hb dX7_falls_8 rfl (lv_at hl 2 rfl) ?_
    refine lv_iconst (v := 0) hx hb dX7_falls_9 (by decide) ?_
    refine lv_iconst (v := 1) hx hb dX7_falls_10 (by decide) ?_
    obtain ⟨v6, g5, hG⟩ := wq_b1_s hG
    refine wq_ci (v := v6) (B := wq_Z1) (va_runS (As := [.int a2, .int 0, .int 1]) (rest := []) ⟨hx, hb, hml, hown, hts⟩ (C_X7_in l dC dI cI cJ cZ qa H.size  a2 0 1 v6 g5) (va_cwS 3 hts gX7_falls_X7_in rfl rfl rfl hdS_X7_in ⟨Nat.le_of_ble_eq_true rfl, Nat.le_of_ble_eq_true rfl⟩) (wq_ppS hK (hP.sub (ws' := []) [] rfl) hE hS hA) rfl rfl hl.1 rfl (lv_room (Nat.le_of_ble_eq_true rfl)) dX7_falls_11 ⟨Nat.zero_le _, Nat.zero_le _⟩) hS hA (fun H locs b7 hk hS => ?_)
    replace hP := wq_kp hP hk
    clear hk
    refine lv_if_ne (tgt := 19) hx hb dX7_falls_14 (by decide) (fun c8 => ?_) (fun c8 => ?_)
    · replace hG := wq_f c8 hG
      refine lv_aload_n hx hb dX7_falls_19 rfl (lv_at hl 0 rfl) ?_
      refine va_get (D := (dC, dI)) (ci := 7) (v := .ref (qa 4)) (C := RX7) (T := TX7) (N := 19) hx hb hts hinX7 hown hK hP 0 rfl rfl 5 (by decide) k1 (fun _ h9 => h9) rfl dX7_falls_20 ?_
      refine lv_iconst (v := 3) hx hb dX7_falls_23 (by decide) ?_
      refine wq_iald (D := (dC, dI)) hx hb hK hP 4 0 rfl rfl (wq_lit (by decide)) 3 rfl dX7_falls_24 ?_
      refine lv_iload_n hx hb dX7_falls_25 rfl (lv_at hl 1 rfl) ?_
      refine lv_ishr hx hb dX7_falls_26 ?_
      refine lv_iconst (v := 1) hx hb dX7_falls_27 (by decide) ?_
      refine lv_iand hx hb dX7_falls_28 ?_
      refine lv_iload_n hx hb dX7_falls_29 rfl (lv_at hl 2 rfl) ?_
      refine lv_icmp_ne (tgt := 36) hx hb dX7_falls_30 (by decide) (fun c9 => ?_) (fun c9 => ?_)
      · replace hG := wq_f c9 hG
        refine lv_aload_n hx hb dX7_falls_36 rfl (lv_at hl 0 rfl) ?_
        obtain ⟨w11, w12, g10, hG⟩ := wq_b2_s hG
        have hFc := va_free (wc := wcM qa cI cJ cZ m_trace m_text m_typed m_told m_draft m_s m_past m_known m_images m_kept m_notes m_noted m_at m_sort m_start m_value m_steps m_rows m_held) hD hS hA [0, 1, 2, 3, 4, 5, 6, 7, 8, 9, 10, 11] rfl
        refine wq_dv (D := (dC, dI)) (wr := []) (w1 := wcM qa cI cJ cZ m_trace m_text m_typed m_told m_draft m_s w11 w12 m_images m_kept m_notes m_noted m_at m_sort m_start m_value m_steps m_rows m_held) (w2 := wcM qa cI cJ cZ m_trace m_text m_typed m_told m_draft m_s w11 w12 m_images m_kept m_notes m_noted m_at m_sort m_start m_value m_steps m_rows m_held) (va_runV (As := []) (rest := []) ⟨hx, hb, hml, hown, hts⟩ (C_X7_keeps l dC dI cI cJ cZ qa H.size m_trace m_text m_typed m_told m_draft m_s m_past m_known m_images m_kept m_notes m_noted m_at m_sort m_start m_value m_steps m_rows m_held  w11 w12 g10) (cwV 0 hts gX7_falls_X7_keeps rfl rfl rfl hdV_X7_keeps ⟨Nat.le_of_ble_eq_true rfl, Nat.le_of_ble_eq_true rfl⟩) (wq_pwV hK hP hD hE hS hFc (ci := 7) (q0 := 0) rfl rfl) rfl rfl hl.1 rfl (lv_room (Nat.le_of_ble_eq_true rfl)) dX7_falls_37 ⟨Nat.zero_le _, Nat.zero_le _⟩) hP hD hS hFc [0, 1, 2, 3, 4, 5, 6, 7, 8, 9, 10, 11] [] [0, 1, 2, 3, 4, 5, 6, 7, 8, 9, 10, 11] rfl rfl (by decide) (by decide) (by decide) rfl (fun H locs hP hD hS => ?_)
        clear hFc
        refine lv_aload_n hx hb dX7_falls_40 rfl (lv_at hl 0 rfl) ?_
        refine va_get (D := (dC, dI)) (ci := 7) (v := .ref (qa 4)) (C := RX7) (T := TX7) (N := 19) hx hb hts hinX7 hown hK hP 0 rfl rfl 5 (by decide) k1 (fun _ h9 => h9) rfl dX7_falls_41 ?_
        refine lv_iconst (v := 3) hx hb dX7_falls_44 (by decide) ?_
        refine lv_dup2_11 hx hb dX7_falls_45 rfl rfl ?_
        refine wq_iald (D := (dC, dI)) hx hb hK hP 4 0 rfl rfl (wq_lit (by decide)) 3 rfl dX7_falls_46 ?_
        refine lv_iconst (v := 1) hx hb dX7_falls_47 (by decide) ?_
        refine lv_iload_n hx hb dX7_falls_48 rfl (lv_at hl 1 rfl) ?_
        refine lv_ishl hx hb dX7_falls_49 ?_
        refine lv_ixor hx hb dX7_falls_50 ?_
        refine wq_iast (D := (dC, dI)) hx hb hK hP hD hS 4 0 rfl rfl (wq_lit (by decide)) 3 rfl (wcM qa cI cJ cZ m_trace m_text m_typed m_told m_draft (upd m_s 3 ((m_s 3) ^^^ (1 <<< (a1 &&& 31)))) w11 w12 m_images m_kept m_notes m_noted m_at m_sort m_start m_value m_steps m_rows m_held) rfl dX7_falls_51 (fun H locs hP hD hS => ?_)
        refine lv_aload_n hx hb dX7_falls_52 rfl (lv_at hl 0 rfl) ?_
        refine va_get (D := (dC, dI)) (ci := 7) (v := .ref (qa 4)) (C := RX7) (T := TX7) (N := 19) hx hb hts hinX7 hown hK hP 0 rfl rfl 5 (by decide) k1 (fun _ h9 => h9) rfl dX7_falls_53 ?_
        refine lv_iconst (v := 3) hx hb dX7_falls_56 (by decide) ?_
        refine wq_iald (D := (dC, dI)) hx hb hK hP 4 0 rfl rfl (wq_lit (by decide)) 3 rfl dX7_falls_57 ?_
        obtain ⟨v14, g13, hG⟩ := wq_b1_s hG
        refine wq_ci (v := v14) (B := wq_tr) (va_runS (As := [.int ((upd m_s 3 ((m_s 3) ^^^ (1 <<< (a1 &&& 31)))) 3)]) (rest := []) ⟨hx, hb, hml, hown, hts⟩ (C_X7_ones l dC dI cI cJ cZ qa H.size  ((upd m_s 3 ((m_s 3) ^^^ (1 <<< (a1 &&& 31)))) 3) v14 g13) (va_cwS 1 hts gX7_falls_X7_ones rfl rfl rfl hdS_X7_ones ⟨Nat.le_of_ble_eq_true rfl, Nat.le_of_ble_eq_true rfl⟩) (wq_ppS hK (hP.sub (ws' := []) [] rfl) hE hS hA) rfl rfl hl.1 rfl (lv_room (Nat.le_of_ble_eq_true rfl)) dX7_falls_58 ⟨Nat.zero_le _, Nat.zero_le _⟩) hS hA (fun H locs b15 hk hS => ?_)
        replace hP := wq_kp hP hk
        clear hk
        obtain ⟨e0, e1, e2, e3⟩ := wq_j4 hG
        subst e0
        subst e1
        subst e2
        subst e3
        exact W.iret hx hb hr (fun t ht hW => ⟨⟨_, (), rfl, ⟨rfl, trivial⟩, by rw [ht]; exact hP, hD⟩, hS.F ht⟩) hS.2.2 dX7_falls_61
      · replace hG := wq_t c9 hG
        refine lv_bipush (v := (-2)) hx hb dX7_falls_33 (by decide) ?_
        obtain ⟨e0, e1, e2, e3⟩ := wq_j4 hG
        subst e0
        subst e1
        subst e2
        subst e3
        exact W.iret hx hb hr (fun t ht hW => ⟨⟨_, (), rfl, ⟨rfl, trivial⟩, by rw [ht]; exact hP, hD⟩, hS.F ht⟩) hS.2.2 dX7_falls_35
    · replace hG := wq_t c8 hG
      refine lv_iconst (v := (-1)) hx hb dX7_falls_17 (by decide) ?_
      obtain ⟨e0, e1, e2, e3⟩ := wq_j4 hG
      subst e0
      subst e1
      subst e2
      subst e3
      exact W.iret hx hb hr (fun t ht hW => ⟨⟨_, (), rfl, ⟨rfl, trivial⟩, by rw [ht]; exact hP, hD⟩, hS.F ht⟩) hS.2.2 dX7_falls_18

