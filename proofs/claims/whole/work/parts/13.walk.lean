theorem hdV_X5_hasWoman : yX5_hasWoman.cls = RX5 ∧ yX5_hasWoman.cls ≠ "java/lang/invoke/MethodHandle" ∧ yX5_hasWoman.cls ≠ "java/lang/invoke/VarHandle" ∧ (parseMethodDescriptor yX5_hasWoman.desc).map (fun d => d.parameters.length) = some 1 := by decide +kernel
set_option maxHeartbeats 4000000 in
set_option maxRecDepth 100000 in
theorem C_X5_hasWoman (l : Launch) (dC : Nat → ClassId) (dI : Nat → Nat → Nat) (cI cJ cZ : ClassId) (qa : Nat → Nat) (sz : Nat) (t_tears : Nat → Int32) (t_gains : Nat → Int32) (t_likings : Nat → Int32) (t_settings : Nat → Int32) (t_goodbyes : Int32) (t_women : Int32) (a1 : Int32) (r0 : Int32) (hG : gX5_hasWoman t_women a1 = some r0) : Met l yX5_hasWoman wsX5_hasWoman ({ frames := 0, cells := 0, slots := 0, locals := 0 } : Room) (va_Pc [.ref (qa 16), .int a1] (wq_pp (dC, dI) [(cI, .int), (cJ, .long), (cZ, .boolean)] (wcT qa cI cJ cZ t_tears t_gains t_likings t_settings t_goodbyes t_women) sz)) (wq_Qi r0 wq_Z1 (va_A [] sz)) 0 0 (va_A [] sz) := by
  refine Met.ofW (cc := cX5_hasWoman) (maxL := 2) (ret := (some .boolean)) (by decide) rfl ?_
  intro p e s m args below meth c s₁ B hml hv
  obtain ⟨rfl, hsz, hP, hK, hE⟩ := hv
  have hx := B.exec
  have hb := B.bytes
  have hr := B.returns
  have hts := atoms_spec (ws := wsX5_hasWoman) B.pre
  have hown : s.vm.findClass RX5 = some m.cls := findClass_of_methodNamed B.named
  have hlocks := B.notSynchronized
  subst hsz
  generalize hAe : va_A [] s.heap.size = A at hE ⊢
  have hA : ∀ q : Nat, s.heap.size ≤ q → A q := fun q h => by rw [← hAe]; exact Or.inr h
  have hS : va_S A s.heap s.heap [] := va_S.rf
  have hinX5 : ∀ w ∈ u_ws RX5 TX5 6, w ∈ wsX5_hasWoman := by decide +kernel
  have k1 := hts (.fieldLink RX5 36 "DoorMornings$Told" "women" "I") (by decide +kernel)
  have hl := lv_entry ([.ref (qa 16), .int a1]) (n := 2) (Nat.le_of_ble_eq_true rfl)
  rw [lg_entry_eq]
  generalize (lg_sl ([.ref (qa 16), .int a1]) ++ List.replicate (2 - (lg_sl ([.ref (qa 16), .int a1])).length) Slot.unset).toArray = ls at hl ⊢
  have hl : lv_has ls 2 [(0, .ref (qa 16)), (1, .int a1)] := hl
  unfold gX5_hasWoman at hG
  refine lv_iload_n hx hb dX5_hasWoman_0 rfl (lv_at hl 1 rfl) ?_
  refine lv_if_lt (tgt := 21) hx hb dX5_hasWoman_1 (by decide) (fun c1 => ?_) (fun c1 => ?_)
  · replace hG := wq_t c1 hG
    refine lv_iconst (v := 0) hx hb dX5_hasWoman_21 (by decide) ?_
    exact W.zret (v := 0) hx hb hr (wq_Z1_n (Or.inl rfl)) (fun t ht hW => ⟨⟨0, (), rfl, ⟨Option.some.inj hG, (Or.inl rfl)⟩, trivial⟩, hS.F ht⟩) hS.2.2 dX5_hasWoman_22
  · replace hG := wq_f c1 hG
    refine lv_iload_n hx hb dX5_hasWoman_4 rfl (lv_at hl 1 rfl) ?_
    refine lv_aload_n hx hb dX5_hasWoman_5 rfl (lv_at hl 0 rfl) ?_
    refine va_get (D := (dC, dI)) (ci := 5) (v := .int t_women) (C := RX5) (T := TX5) (N := 6) hx hb hts hinX5 hown hK hP 0 rfl rfl 5 (by decide) k1 (fun _ h9 => h9) rfl dX5_hasWoman_6 ?_
    refine lv_icmp_ge (tgt := 21) hx hb dX5_hasWoman_9 (by decide) (fun c2 => ?_) (fun c2 => ?_)
    · replace hG := wq_t c2 hG
      refine lv_iconst (v := 0) hx hb dX5_hasWoman_21 (by decide) ?_
      exact W.zret (v := 0) hx hb hr (wq_Z1_n (Or.inl rfl)) (fun t ht hW => ⟨⟨0, (), rfl, ⟨Option.some.inj hG, (Or.inl rfl)⟩, trivial⟩, hS.F ht⟩) hS.2.2 dX5_hasWoman_22
    · replace hG := wq_f c2 hG
      refine lv_iload_n hx hb dX5_hasWoman_12 rfl (lv_at hl 1 rfl) ?_
      refine lv_iconst (v := 4) hx hb dX5_hasWoman_13 (by decide) ?_
      refine lv_icmp_ge (tgt := 21) hx hb dX5_hasWoman_14 (by decide) (fun c3 => ?_) (fun c3 => ?_)
      · replace hG := wq_t c3 hG
        refine lv_iconst (v := 0) hx hb dX5_hasWoman_21 (by decide) ?_
        exact W.zret (v := 0) hx hb hr (wq_Z1_n (Or.inl rfl)) (fun t ht hW => ⟨⟨0, (), rfl, ⟨Option.some.inj hG, (Or.inl rfl)⟩, trivial⟩, hS.F ht⟩) hS.2.2 dX5_hasWoman_22
      · replace hG := wq_f c3 hG
        refine lv_iconst (v := 1) hx hb dX5_hasWoman_17 (by decide) ?_
        refine lv_goto (tgt := 22) hx hb dX5_hasWoman_18 (by decide) ?_
        exact W.zret (v := 1) hx hb hr (wq_Z1_n (Or.inr rfl)) (fun t ht hW => ⟨⟨1, (), rfl, ⟨Option.some.inj hG, (Or.inr rfl)⟩, trivial⟩, hS.F ht⟩) hS.2.2 dX5_hasWoman_22

theorem hdV_X5_likingAtFirst : yX5_likingAtFirst.cls = RX5 ∧ yX5_likingAtFirst.cls ≠ "java/lang/invoke/MethodHandle" ∧ yX5_likingAtFirst.cls ≠ "java/lang/invoke/VarHandle" ∧ (parseMethodDescriptor yX5_likingAtFirst.desc).map (fun d => d.parameters.length) = some 1 := by decide +kernel
set_option maxHeartbeats 4000000 in
set_option maxRecDepth 100000 in
theorem C_X5_likingAtFirst (l : Launch) (dC : Nat → ClassId) (dI : Nat → Nat → Nat) (cI cJ cZ : ClassId) (qa : Nat → Nat) (sz : Nat) (t_tears : Nat → Int32) (t_gains : Nat → Int32) (t_likings : Nat → Int32) (t_settings : Nat → Int32) (t_goodbyes : Int32) (t_women : Int32) (a1 : Int32) (r0 : Int32) (hG : gX5_likingAtFirst t_likings t_women a1 = some r0) : Met l yX5_likingAtFirst wsX5_likingAtFirst ({ frames := 1, cells := 0, slots := 0, locals := 21 } : Room) (va_Pc [.ref (qa 16), .int a1] (wq_pp (dC, dI) [(cI, .int), (cJ, .long), (cZ, .boolean)] (wcT qa cI cJ cZ t_tears t_gains t_likings t_settings t_goodbyes t_women) sz)) (wq_Qi r0 wq_tr (va_A [] sz)) 0 0 (va_A [] sz) := by
  refine Met.ofW (cc := cX5_likingAtFirst) (maxL := 2) (ret := (some .int)) (by decide) rfl ?_
  intro p e s m args below meth c s₁ B hml hv
  obtain ⟨rfl, hsz, hP, hK, hE⟩ := hv
  have hx := B.exec
  have hb := B.bytes
  have hr := B.returns
  have hts := atoms_spec (ws := wsX5_likingAtFirst) B.pre
  have hown : s.vm.findClass RX5 = some m.cls := findClass_of_methodNamed B.named
  have hlocks := B.notSynchronized
  subst hsz
  generalize hAe : va_A [] s.heap.size = A at hE ⊢
  have hA : ∀ q : Nat, s.heap.size ≤ q → A q := fun q h => by rw [← hAe]; exact Or.inr h
  have hS : va_S A s.heap s.heap [] := va_S.rf
  have hinX5 : ∀ w ∈ u_ws RX5 TX5 6, w ∈ wsX5_likingAtFirst := by decide +kernel
  have k1 := hts (.fieldLink RX5 18 "DoorMornings$Told" "likings" "[I") (by decide +kernel)
  have hl := lv_entry ([.ref (qa 16), .int a1]) (n := 2) (Nat.le_of_ble_eq_true rfl)
  rw [lg_entry_eq]
  generalize (lg_sl ([.ref (qa 16), .int a1]) ++ List.replicate (2 - (lg_sl ([.ref (qa 16), .int a1])).length) Slot.unset).toArray = ls at hl ⊢
  have hl : lv_has ls 2 [(0, .ref (qa 16)), (1, .int a1)] := hl
  unfold gX5_likingAtFirst at hG
  refine lv_aload_n hx hb dX5_likingAtFirst_0 rfl (lv_at hl 0 rfl) ?_
  refine lv_iload_n hx hb dX5_likingAtFirst_1 rfl (lv_at hl 1 rfl) ?_
  obtain ⟨v2, g1, hG⟩ := wq_b1_s hG
  refine wq_ci (v := v2) (B := wq_Z1) (va_runV (As := [.int a1]) (rest := []) ⟨hx, hb, hml, hown, hts⟩ (C_X5_hasWoman l dC dI cI cJ cZ qa s.heap.size t_tears t_gains t_likings t_settings t_goodbyes t_women a1 v2 g1) (cwV 1 hts gX5_likingAtFirst_X5_hasWoman rfl rfl rfl hdV_X5_hasWoman ⟨Nat.le_of_ble_eq_true rfl, Nat.le_of_ble_eq_true rfl⟩) (wq_ppV hK hP hE hS hA (ci := 5) (q0 := 0) rfl rfl) rfl rfl hl.1 rfl (lv_room (Nat.le_of_ble_eq_true rfl)) dX5_likingAtFirst_2 ⟨Nat.zero_le _, Nat.zero_le _⟩) hS hA (fun H locs b3 hk hS => ?_)
  replace hP := wq_kp hP hk
  clear hk
  refine lv_if_eq (tgt := 17) hx hb dX5_likingAtFirst_5 (by decide) (fun c4 => ?_) (fun c4 => ?_)
  · replace hG := wq_t c4 hG
    refine lv_iconst (v := 0) hx hb dX5_likingAtFirst_17 (by decide) ?_
    exact W.iret (v := 0) hx hb hr (fun t ht hW => ⟨⟨0, (), rfl, ⟨Option.some.inj hG, trivial⟩, trivial⟩, hS.F ht⟩) hS.2.2 dX5_likingAtFirst_18
  · replace hG := wq_f c4 hG
    refine lv_aload_n hx hb dX5_likingAtFirst_8 rfl (lv_at hl 0 rfl) ?_
    refine va_get (D := (dC, dI)) (ci := 5) (v := .ref (qa 19)) (C := RX5) (T := TX5) (N := 6) hx hb hts hinX5 hown hK hP 0 rfl rfl 2 (by decide) k1 (fun _ h9 => h9) rfl dX5_likingAtFirst_9 ?_
    refine lv_iload_n hx hb dX5_likingAtFirst_12 rfl (lv_at hl 1 rfl) ?_
    obtain ⟨h5, hG⟩ := wq_chk_s hG
    refine wq_iald (D := (dC, dI)) hx hb hK hP 3 0 rfl rfl h5 (Int32.toNatClampNeg a1) rfl dX5_likingAtFirst_13 ?_
    refine lv_goto (tgt := 18) hx hb dX5_likingAtFirst_14 (by decide) ?_
    exact W.iret (v := (t_likings (Int32.toNatClampNeg a1))) hx hb hr (fun t ht hW => ⟨⟨(t_likings (Int32.toNatClampNeg a1)), (), rfl, ⟨Option.some.inj hG, trivial⟩, trivial⟩, hS.F ht⟩) hS.2.2 dX5_likingAtFirst_18

theorem hdV_X0_startAnew : yX0_startAnew.cls = RX0 ∧ yX0_startAnew.cls ≠ "java/lang/invoke/MethodHandle" ∧ yX0_startAnew.cls ≠ "java/lang/invoke/VarHandle" ∧ (parseMethodDescriptor yX0_startAnew.desc).map (fun d => d.parameters.length) = some 1 := by decide +kernel
set_option maxHeartbeats 4000000 in
set_option maxRecDepth 100000 in
theorem C_X0_startAnew (l : Launch) (dC : Nat → ClassId) (dI : Nat → Nat → Nat) (cI cJ cZ : ClassId) (qa : Nat → Nat) (sz : Nat) (n_likings : Nat → Int32) (n_day : Int32) (n_trust : Int32) (n_ill : Int32) (n_done : Int32) (t_tears : Nat → Int32) (t_gains : Nat → Int32) (t_likings : Nat → Int32) (t_settings : Nat → Int32) (t_goodbyes : Int32) (t_women : Int32) (r_n_likings : Nat → Int32) (r_n_day : Int32) (r_n_trust : Int32) (r_n_ill : Int32) (r_n_done : Int32) (hG : gX0_startAnew n_likings n_day n_trust n_ill n_done t_likings t_women = some (r_n_likings, r_n_day, r_n_trust, r_n_ill, r_n_done)) : Met l yX0_startAnew wsX0_startAnew ({ frames := 2, cells := 0, slots := 0, locals := 42 } : Room) (va_Pc [.ref (qa 3), .ref (qa 16)] (wq_pw (dC, dI) [(cI, .int), (cJ, .long), (cZ, .boolean)] (wcNT qa cI cJ cZ n_likings n_day n_trust n_ill n_done t_tears t_gains t_likings t_settings t_goodbyes t_women) sz)) (wq_Wv (dC, dI) (wcNT qa cI cJ cZ r_n_likings r_n_day r_n_trust r_n_ill r_n_done t_tears t_gains t_likings t_settings t_goodbyes t_women) (va_A (wcNT qa cI cJ cZ n_likings n_day n_trust n_ill n_done t_tears t_gains t_likings t_settings t_goodbyes t_women) sz)) 0 0 (va_A (wcNT qa cI cJ cZ n_likings n_day n_trust n_ill n_done t_tears t_gains t_likings t_settings t_goodbyes t_women) sz) := by
  refine Met.ofW (cc := cX0_startAnew) (maxL := 3) (ret := none) (by decide) rfl ?_
  intro p e s m args below meth c s₁ B hml hv
  obtain ⟨rfl, hsz, hP, hK, hD0, hE⟩ := hv
  have hx := B.exec
  have hb := B.bytes
  have hr := B.returns
  have hts := atoms_spec (ws := wsX0_startAnew) B.pre
  have hown : s.vm.findClass RX0 = some m.cls := findClass_of_methodNamed B.named
  have hlocks := B.notSynchronized
  subst hsz
  have hD := hD0.self (sz := s.heap.size)
  generalize hAe : va_A (wcNT qa cI cJ cZ n_likings n_day n_trust n_ill n_done t_tears t_gains t_likings t_settings t_goodbyes t_women) s.heap.size = A at hD hE ⊢
  have hA : ∀ q : Nat, s.heap.size ≤ q → A q := fun q h => by rw [← hAe]; exact Or.inr h
  have hS : va_S A s.heap s.heap [] := va_S.rf
  have hinX0 : ∀ w ∈ u_ws RX0 TX0 5, w ∈ wsX0_startAnew := by decide +kernel
  have k1 := hts (.fieldLink RX0 15 "DoorMornings$Now" "day" "I") (by decide +kernel)
  have k2 := hts (.fieldLink RX0 19 "DoorMornings$Now" "trust" "I") (by decide +kernel)
  have k3 := hts (.fieldLink RX0 22 "DoorMornings$Now" "ill" "I") (by decide +kernel)
  have k4 := hts (.fieldLink RX0 25 "DoorMornings$Now" "done" "Z") (by decide +kernel)
  have k5 := hts (.fieldLink RX0 9 "DoorMornings$Now" "likings" "[I") (by decide +kernel)
  have hl := lv_entry ([.ref (qa 3), .ref (qa 16)]) (n := 3) (Nat.le_of_ble_eq_true rfl)
  rw [lg_entry_eq]
  generalize (lg_sl ([.ref (qa 3), .ref (qa 16)]) ++ List.replicate (3 - (lg_sl ([.ref (qa 3), .ref (qa 16)])).length) Slot.unset).toArray = ls at hl ⊢
  have hl : lv_has ls 3 [(0, .ref (qa 3)), (1, .ref (qa 16))] := hl
  have hL2 : ∀ (z_n_day : Int32) (z_n_trust : Int32) (z_n_ill : Int32) (z_n_done : Int32) (n : Nat) (x2 : Int32) (z_n_likings : Nat → Int32) (H : Heap) (locs : List Loc) (ls : Array Slot), gX0_startAnew_L2 z_n_day z_n_trust z_n_ill z_n_done t_likings t_women n x2 z_n_likings = some (r_n_likings, r_n_day, r_n_trust, r_n_ill, r_n_done) → va_P (dC, dI) vwCl (wcNT qa cI cJ cZ z_n_likings z_n_day z_n_trust z_n_ill z_n_done t_tears t_gains t_likings t_settings t_goodbyes t_women) H → va_D A (wcNT qa cI cJ cZ z_n_likings z_n_day z_n_trust z_n_ill z_n_done t_tears t_gains t_likings t_settings t_goodbyes t_women) → va_S A s.heap H locs → lv_has ls 3 [(0, .ref (qa 3)), (1, .ref (qa 16)), (2, .int x2)] → W p l e (headSpec wsX0_startAnew ({ frames := 2, cells := 0, slots := 0, locals := 42 } : Room)).room s m ([.ref (qa 3), .ref (qa 16)] : List Value).toArray below meth c H locs 0 0 (MQ below (wq_Wv (dC, dI) (wcNT qa cI cJ cZ r_n_likings r_n_day r_n_trust r_n_ill r_n_done t_tears t_gains t_likings t_settings t_goodbyes t_women) A) ([.ref (qa 3), .ref (qa 16)] : List Value).toArray s 0 0 A) (F0 m 2 ls []) := by
    intro z_n_day z_n_trust z_n_ill z_n_done n
    induction n with
    | zero =>
      intro x2 z_n_likings H locs ls hG
      exact absurd (show (none : Option ((Nat → Int32) × Int32 × Int32 × Int32 × Int32)) = some (r_n_likings, r_n_day, r_n_trust, r_n_ill, r_n_done) from hG) (by intro h9; cases h9)
    | succ n ih2 =>
      intro x2 z_n_likings H locs ls hG hP hD hS hl
      rw [gX0_startAnew_L2] at hG
      refine lv_iload_n hx hb dX0_startAnew_2 rfl (lv_at hl 2 rfl) ?_
      refine lv_iconst (v := 4) hx hb dX0_startAnew_3 (by decide) ?_
      refine lv_icmp_ge (tgt := 24) hx hb dX0_startAnew_4 (by decide) (fun c1 => ?_) (fun c1 => ?_)
      · replace hG := wq_t c1 hG
        refine lv_aload_n hx hb dX0_startAnew_24 rfl (lv_at hl 0 rfl) ?_
        refine lv_iconst (v := 0) hx hb dX0_startAnew_25 (by decide) ?_
        refine va_put (D := (dC, dI)) (ci := 0) (v := .int 0) (ty := tyX0 1) (C := RX0) (T := TX0) (N := 5) hx hb hts hinX0 tyX0 tyX0_ok nmX0 hown hK hP hD hS 0 rfl rfl 1 (by decide) k1 (fun _ h9 => h9) rfl (tyX0_ok 1 (by decide)) rfl rfl (Nat.le_of_ble_eq_true rfl) dX0_startAnew_26 (fun H locs hP hD hS => ?_)
        replace hP : va_P (dC, dI) vwCl (wcNT qa cI cJ cZ z_n_likings 0 z_n_trust z_n_ill z_n_done t_tears t_gains t_likings t_settings t_goodbyes t_women) H := hP
        replace hD : va_D A (wcNT qa cI cJ cZ z_n_likings 0 z_n_trust z_n_ill z_n_done t_tears t_gains t_likings t_settings t_goodbyes t_women) := hD
        refine lv_aload_n hx hb dX0_startAnew_29 rfl (lv_at hl 0 rfl) ?_
        refine lv_iconst (v := 0) hx hb dX0_startAnew_30 (by decide) ?_
        refine va_put (D := (dC, dI)) (ci := 0) (v := .int 0) (ty := tyX0 2) (C := RX0) (T := TX0) (N := 5) hx hb hts hinX0 tyX0 tyX0_ok nmX0 hown hK hP hD hS 0 rfl rfl 2 (by decide) k2 (fun _ h9 => h9) rfl (tyX0_ok 2 (by decide)) rfl rfl (Nat.le_of_ble_eq_true rfl) dX0_startAnew_31 (fun H locs hP hD hS => ?_)
        replace hP : va_P (dC, dI) vwCl (wcNT qa cI cJ cZ z_n_likings 0 0 z_n_ill z_n_done t_tears t_gains t_likings t_settings t_goodbyes t_women) H := hP
        replace hD : va_D A (wcNT qa cI cJ cZ z_n_likings 0 0 z_n_ill z_n_done t_tears t_gains t_likings t_settings t_goodbyes t_women) := hD
        refine lv_aload_n hx hb dX0_startAnew_34 rfl (lv_at hl 0 rfl) ?_
        refine lv_iconst (v := 0) hx hb dX0_startAnew_35 (by decide) ?_
        refine va_put (D := (dC, dI)) (ci := 0) (v := .int 0) (ty := tyX0 3) (C := RX0) (T := TX0) (N := 5) hx hb hts hinX0 tyX0 tyX0_ok nmX0 hown hK hP hD hS 0 rfl rfl 3 (by decide) k3 (fun _ h9 => h9) rfl (tyX0_ok 3 (by decide)) rfl rfl (Nat.le_of_ble_eq_true rfl) dX0_startAnew_36 (fun H locs hP hD hS => ?_)
        replace hP : va_P (dC, dI) vwCl (wcNT qa cI cJ cZ z_n_likings 0 0 0 z_n_done t_tears t_gains t_likings t_settings t_goodbyes t_women) H := hP
        replace hD : va_D A (wcNT qa cI cJ cZ z_n_likings 0 0 0 z_n_done t_tears t_gains t_likings t_settings t_goodbyes t_women) := hD
        refine lv_aload_n hx hb dX0_startAnew_39 rfl (lv_at hl 0 rfl) ?_
        refine lv_iconst (v := 0) hx hb dX0_startAnew_40 (by decide) ?_
        refine va_put (D := (dC, dI)) (ci := 0) (v := .int 0) (ty := tyX0 4) (C := RX0) (T := TX0) (N := 5) hx hb hts hinX0 tyX0 tyX0_ok nmX0 hown hK hP hD hS 0 rfl rfl 4 (by decide) k4 (fun _ h9 => h9) rfl (tyX0_ok 4 (by decide)) rfl rfl (Nat.le_of_ble_eq_true rfl) dX0_startAnew_41 (fun H locs hP hD hS => ?_)
        replace hP : va_P (dC, dI) vwCl (wcNT qa cI cJ cZ z_n_likings 0 0 0 0 t_tears t_gains t_likings t_settings t_goodbyes t_women) H := hP
        replace hD : va_D A (wcNT qa cI cJ cZ z_n_likings 0 0 0 0 t_tears t_gains t_likings t_settings t_goodbyes t_women) := hD
        obtain ⟨e0, e1, e2, e3, e4⟩ := wq_j5 hG
        subst e0
        subst e1
        subst e2
        subst e3
        subst e4
        exact W.vret hx hb hr (fun t ht hW => ⟨⟨(), rfl, trivial, by rw [ht]; exact hP, hD⟩, hS.F ht⟩) hS.2.2 dX0_startAnew_44
      · replace hG := wq_f c1 hG
        refine lv_aload_n hx hb dX0_startAnew_7 rfl (lv_at hl 0 rfl) ?_
        refine va_get (D := (dC, dI)) (ci := 0) (v := .ref (qa 4)) (C := RX0) (T := TX0) (N := 5) hx hb hts hinX0 hown hK hP 0 rfl rfl 0 (by decide) k5 (fun _ h9 => h9) rfl dX0_startAnew_8 ?_
        refine lv_iload_n hx hb dX0_startAnew_11 rfl (lv_at hl 2 rfl) ?_
        refine lv_aload_n hx hb dX0_startAnew_12 rfl (lv_at hl 1 rfl) ?_
        refine lv_iload_n hx hb dX0_startAnew_13 rfl (lv_at hl 2 rfl) ?_
        obtain ⟨v3, g2, hG⟩ := wq_b1_s hG
        refine wq_ci (v := v3) (B := wq_tr) (va_runV (As := [.int x2]) (rest := [.int x2, .ref (qa 4)]) ⟨hx, hb, hml, hown, hts⟩ (C_X5_likingAtFirst l dC dI cI cJ cZ qa H.size t_tears t_gains t_likings t_settings t_goodbyes t_women x2 v3 g2) (cwV 1 hts gX0_startAnew_X5_likingAtFirst rfl rfl rfl hdV_X5_likingAtFirst ⟨Nat.le_of_ble_eq_true rfl, Nat.le_of_ble_eq_true rfl⟩) (wq_ppV hK (hP.sub (ws' := wcT qa cI cJ cZ t_tears t_gains t_likings t_settings t_goodbyes t_women) [2, 3, 4, 5, 6] rfl) hE hS hA (ci := 5) (q0 := 0) rfl rfl) rfl rfl hl.1 rfl (lv_room (Nat.le_of_ble_eq_true rfl)) dX0_startAnew_14 ⟨Nat.zero_le _, Nat.zero_le _⟩) hS hA (fun H locs b4 hk hS => ?_)
        replace hP := wq_kp hP hk
        clear hk
        obtain ⟨h5, hG⟩ := wq_chk_s hG
        refine wq_iast (D := (dC, dI)) hx hb hK hP hD hS 1 0 rfl rfl h5 (Int32.toNatClampNeg x2) rfl (wcNT qa cI cJ cZ (upd z_n_likings (Int32.toNatClampNeg x2) v3) z_n_day z_n_trust z_n_ill z_n_done t_tears t_gains t_likings t_settings t_goodbyes t_women) rfl dX0_startAnew_17 (fun H locs hP hD hS => ?_)
        refine lv_iinc (v := (x2 + 1)) (lv' := [(2, .int (x2 + 1)), (0, .ref (qa 3)), (1, .ref (qa 16))]) hx hb dX0_startAnew_18 hl (k := 2) rfl rfl (by decide) rfl (fun ls hl => ?_)
        refine lv_goto (tgt := 2) hx hb dX0_startAnew_21 (by decide) ?_
        exact ih2 (x2 + 1) (upd z_n_likings (Int32.toNatClampNeg x2) v3) _ _ _ hG hP hD hS (lv_sub hl [1, 2, 0] rfl)
  unfold gX0_startAnew at hG
  refine lv_iconst (v := 0) hx hb dX0_startAnew_0 (by decide) ?_
  refine lv_istore_n (lv' := [(2, .int 0), (0, .ref (qa 3)), (1, .ref (qa 16))]) hx hb dX0_startAnew_1 rfl hl (by decide) rfl (fun ls hl => ?_)
  exact hL2 n_day n_trust n_ill n_done 1000 0 n_likings _ _ _ hG hP hD hS (lv_sub hl [1, 2, 0] rfl)

theorem hdV_X2_empty : yX2_empty.cls = RX2 ∧ yX2_empty.cls ≠ "java/lang/invoke/MethodHandle" ∧ yX2_empty.cls ≠ "java/lang/invoke/VarHandle" ∧ (parseMethodDescriptor yX2_empty.desc).map (fun d => d.parameters.length) = some 0 := by decide +kernel
set_option maxHeartbeats 4000000 in
set_option maxRecDepth 100000 in
theorem C_X2_empty (l : Launch) (dC : Nat → ClassId) (dI : Nat → Nat → Nat) (cI cJ cZ : ClassId) (qa : Nat → Nat) (sz : Nat) (p_befores : Nat → Int64) (p_known : Int32) (r_p_known : Int32) (hG : gX2_empty p_known = some r_p_known) : Met l yX2_empty wsX2_empty ({ frames := 0, cells := 0, slots := 0, locals := 0 } : Room) (va_Pc [.ref (qa 5)] (wq_pw (dC, dI) [(cI, .int), (cJ, .long), (cZ, .boolean)] (wcP qa cI cJ cZ p_befores p_known) sz)) (wq_Wv (dC, dI) (wcP qa cI cJ cZ p_befores r_p_known) (va_A (wcP qa cI cJ cZ p_befores p_known) sz)) 0 0 (va_A (wcP qa cI cJ cZ p_befores p_known) sz) := by
  refine Met.ofW (cc := cX2_empty) (maxL := 1) (ret := none) (by decide) rfl ?_
  intro p e s m args below meth c s₁ B hml hv
  obtain ⟨rfl, hsz, hP, hK, hD0, hE⟩ := hv
  have hx := B.exec
  have hb := B.bytes
  have hr := B.returns
  have hts := atoms_spec (ws := wsX2_empty) B.pre
  have hown : s.vm.findClass RX2 = some m.cls := findClass_of_methodNamed B.named
  have hlocks := B.notSynchronized
  subst hsz
  have hD := hD0.self (sz := s.heap.size)
  generalize hAe : va_A (wcP qa cI cJ cZ p_befores p_known) s.heap.size = A at hD hE ⊢
  have hA : ∀ q : Nat, s.heap.size ≤ q → A q := fun q h => by rw [← hAe]; exact Or.inr h
  have hS : va_S A s.heap s.heap [] := va_S.rf
  have hinX2 : ∀ w ∈ u_ws RX2 TX2 2, w ∈ wsX2_empty := by decide +kernel
  have k1 := hts (.fieldLink RX2 15 "DoorMornings$Past" "known" "I") (by decide +kernel)
  have hl := lv_entry ([.ref (qa 5)]) (n := 1) (Nat.le_of_ble_eq_true rfl)
  rw [lg_entry_eq]
  generalize (lg_sl ([.ref (qa 5)]) ++ List.replicate (1 - (lg_sl ([.ref (qa 5)])).length) Slot.unset).toArray = ls at hl ⊢
  have hl : lv_has ls 1 [(0, .ref (qa 5))] := hl
  unfold gX2_empty at hG
  refine lv_aload_n hx hb dX2_empty_0 rfl (lv_at hl 0 rfl) ?_
  refine lv_iconst (v := 0) hx hb dX2_empty_1 (by decide) ?_
  refine va_put (D := (dC, dI)) (ci := 2) (v := .int 0) (ty := tyX2 1) (C := RX2) (T := TX2) (N := 2) hx hb hts hinX2 tyX2 tyX2_ok nmX2 hown hK hP hD hS 0 rfl rfl 1 (by decide) k1 (fun _ h9 => h9) rfl (tyX2_ok 1 (by decide)) rfl rfl (Nat.le_of_ble_eq_true rfl) dX2_empty_2 (fun H locs hP hD hS => ?_)
  replace hP : va_P (dC, dI) vwCl (wcP qa cI cJ cZ p_befores 0) H := hP
  replace hD : va_D A (wcP qa cI cJ cZ p_befores 0) := hD
  have e0 := Option.some.inj hG
  subst e0
  exact W.vret hx hb hr (fun t ht hW => ⟨⟨(), rfl, trivial, by rw [ht]; exact hP, hD⟩, hS.F ht⟩) hS.2.2 dX2_empty_5

theorem hdV_X3_empty : yX3_empty.cls = RX3 ∧ yX3_empty.cls ≠ "java/lang/invoke/MethodHandle" ∧ yX3_empty.cls ≠ "java/lang/invoke/VarHandle" ∧ (parseMethodDescriptor yX3_empty.desc).map (fun d => d.parameters.length) = some 0 := by decide +kernel
set_option maxHeartbeats 4000000 in
set_option maxRecDepth 100000 in
theorem C_X3_empty (l : Launch) (dC : Nat → ClassId) (dI : Nat → Nat → Nat) (cI cJ cZ : ClassId) (qa : Nat → Nat) (sz : Nat) (h_tll : Nat → Int32) (h_beyond : Nat → Int32) (h_minutes : Nat → Int32) (h_size : Int32) (r0 : Int32) (r_h_size : Int32) (hG : gX3_empty h_size = some (r0, r_h_size)) : Met l yX3_empty wsX3_empty ({ frames := 0, cells := 0, slots := 0, locals := 0 } : Room) (va_Pc [.ref (qa 7)] (wq_pw (dC, dI) [(cI, .int), (cJ, .long), (cZ, .boolean)] (wcS qa cI cJ cZ h_tll h_beyond h_minutes h_size) sz)) (wq_Wi (dC, dI) r0 wq_tr (wcS qa cI cJ cZ h_tll h_beyond h_minutes r_h_size) (va_A (wcS qa cI cJ cZ h_tll h_beyond h_minutes h_size) sz)) 0 0 (va_A (wcS qa cI cJ cZ h_tll h_beyond h_minutes h_size) sz) := by
  refine Met.ofW (cc := cX3_empty) (maxL := 2) (ret := (some .int)) (by decide) rfl ?_
  intro p e s m args below meth c s₁ B hml hv
  obtain ⟨rfl, hsz, hP, hK, hD0, hE⟩ := hv
  have hx := B.exec
  have hb := B.bytes
  have hr := B.returns
  have hts := atoms_spec (ws := wsX3_empty) B.pre
  have hown : s.vm.findClass RX3 = some m.cls := findClass_of_methodNamed B.named
  have hlocks := B.notSynchronized
  subst hsz
  have hD := hD0.self (sz := s.heap.size)
  generalize hAe : va_A (wcS qa cI cJ cZ h_tll h_beyond h_minutes h_size) s.heap.size = A at hD hE ⊢
  have hA : ∀ q : Nat, s.heap.size ≤ q → A q := fun q h => by rw [← hAe]; exact Or.inr h
  have hS : va_S A s.heap s.heap [] := va_S.rf
  have hinX3 : ∀ w ∈ u_ws RX3 TX3 4, w ∈ wsX3_empty := by decide +kernel
  have k1 := hts (.fieldLink RX3 21 "DoorMornings$Shown" "size" "I") (by decide +kernel)
  have hl := lv_entry ([.ref (qa 7)]) (n := 2) (Nat.le_of_ble_eq_true rfl)
  rw [lg_entry_eq]
  generalize (lg_sl ([.ref (qa 7)]) ++ List.replicate (2 - (lg_sl ([.ref (qa 7)])).length) Slot.unset).toArray = ls at hl ⊢
  have hl : lv_has ls 2 [(0, .ref (qa 7))] := hl
  unfold gX3_empty at hG
  refine lv_aload_n hx hb dX3_empty_0 rfl (lv_at hl 0 rfl) ?_
  refine va_get (D := (dC, dI)) (ci := 3) (v := .int h_size) (C := RX3) (T := TX3) (N := 4) hx hb hts hinX3 hown hK hP 0 rfl rfl 3 (by decide) k1 (fun _ h9 => h9) rfl dX3_empty_1 ?_
  refine lv_istore_n (lv' := [(1, .int h_size), (0, .ref (qa 7))]) hx hb dX3_empty_4 rfl hl (by decide) rfl (fun ls hl => ?_)
  refine lv_aload_n hx hb dX3_empty_5 rfl (lv_at hl 1 rfl) ?_
  refine lv_iconst (v := 0) hx hb dX3_empty_6 (by decide) ?_
  refine va_put (D := (dC, dI)) (ci := 3) (v := .int 0) (ty := tyX3 3) (C := RX3) (T := TX3) (N := 4) hx hb hts hinX3 tyX3 tyX3_ok nmX3 hown hK hP hD hS 0 rfl rfl 3 (by decide) k1 (fun _ h9 => h9) rfl (tyX3_ok 3 (by decide)) rfl rfl (Nat.le_of_ble_eq_true rfl) dX3_empty_7 (fun H locs hP hD hS => ?_)
  replace hP : va_P (dC, dI) vwCl (wcS qa cI cJ cZ h_tll h_beyond h_minutes 0) H := hP
  replace hD : va_D A (wcS qa cI cJ cZ h_tll h_beyond h_minutes 0) := hD
  refine lv_iload_n hx hb dX3_empty_10 rfl (lv_at hl 0 rfl) ?_
  obtain ⟨e0, e1⟩ := wq_j2 hG
  subst e0
  subst e1
  exact W.iret hx hb hr (fun t ht hW => ⟨⟨_, (), rfl, ⟨rfl, trivial⟩, by rw [ht]; exact hP, hD⟩, hS.F ht⟩) hS.2.2 dX3_empty_11

theorem hdV_X6_nursery : yX6_nursery.cls = RX6 ∧ yX6_nursery.cls ≠ "java/lang/invoke/MethodHandle" ∧ yX6_nursery.cls ≠ "java/lang/invoke/VarHandle" ∧ (parseMethodDescriptor yX6_nursery.desc).map (fun d => d.parameters.length) = some 0 := by decide +kernel
set_option maxHeartbeats 4000000 in
set_option maxRecDepth 100000 in
theorem C_X6_nursery (l : Launch) (dC : Nat → ClassId) (dI : Nat → Nat → Nat) (cI cJ cZ : ClassId) (qa : Nat → Nat) (sz : Nat) (r_images : Nat → Int64) (r_asked : Int64) (x_letters : Nat → Int32) (x_size : Int32) (x_place : Int32) (x_fault : Int32) (x_stold : Int32) (n_likings : Nat → Int32) (n_day : Int32) (n_trust : Int32) (n_ill : Int32) (n_done : Int32) (p_befores : Nat → Int64) (p_known : Int32) (h_tll : Nat → Int32) (h_beyond : Nat → Int32) (h_minutes : Nat → Int32) (h_size : Int32) (o_fewest : Nat → Int32) (o_rows : Nat → Int32) (o_first : Nat → Int32) (o_stands : Int32) (t_tears : Nat → Int32) (t_gains : Nat → Int32) (t_likings : Nat → Int32) (t_settings : Nat → Int32) (t_goodbyes : Int32) (t_women : Int32) (d_tears : Nat → Int32) (d_gains : Nat → Int32) (d_likings : Nat → Int32) (d_settings : Nat → Int32) (d_goodbyes : Int32) (d_women : Int32) (r0 : Int32) (r_r_images : Nat → Int64) (r_x_size : Int32) (r_x_place : Int32) (r_x_fault : Int32) (r_x_stold : Int32) (r_n_likings : Nat → Int32) (r_n_day : Int32) (r_n_trust : Int32) (r_n_ill : Int32) (r_n_done : Int32) (r_p_known : Int32) (r_h_size : Int32) (r_o_stands : Int32) (r_t_tears : Nat → Int32) (r_t_gains : Nat → Int32) (r_t_likings : Nat → Int32) (r_t_settings : Nat → Int32) (r_t_goodbyes : Int32) (r_t_women : Int32) (r_d_tears : Nat → Int32) (r_d_gains : Nat → Int32) (r_d_likings : Nat → Int32) (r_d_settings : Nat → Int32) (r_d_goodbyes : Int32) (r_d_women : Int32) (hG : gX6_nursery r_images x_letters x_size x_place x_fault x_stold n_likings n_day n_trust n_ill n_done p_known h_size o_stands t_tears t_gains t_likings t_settings t_goodbyes t_women d_tears d_gains d_likings d_settings d_goodbyes d_women = some (r0, r_r_images, r_x_size, r_x_place, r_x_fault, r_x_stold, r_n_likings, r_n_day, r_n_trust, r_n_ill, r_n_done, r_p_known, r_h_size, r_o_stands, r_t_tears, r_t_gains, r_t_likings, r_t_settings, r_t_goodbyes, r_t_women, r_d_tears, r_d_gains, r_d_likings, r_d_settings, r_d_goodbyes, r_d_women)) : Met l yX6_nursery wsX6_nursery ({ frames := 6, cells := 0, slots := 0, locals := 134 } : Room) (va_Pc [.ref (qa 0)] (wq_pw (dC, dI) [(cI, .int), (cJ, .long), (cZ, .boolean)] (wcRXNPSOTD qa cI cJ cZ r_images r_asked x_letters x_size x_place x_fault x_stold n_likings n_day n_trust n_ill n_done p_befores p_known h_tll h_beyond h_minutes h_size o_fewest o_rows o_first o_stands t_tears t_gains t_likings t_settings t_goodbyes t_women d_tears d_gains d_likings d_settings d_goodbyes d_women) sz)) (va_Qi (fun (r : Int32) (u : Nat → Nat) => r = r0 ∧ u 0 = qa 0) (fun u t => va_P (dC, dI) vwCl (wcRXNPSOTD u cI cJ cZ r_r_images r_asked x_letters r_x_size r_x_place r_x_fault r_x_stold r_n_likings r_n_day r_n_trust r_n_ill r_n_done p_befores r_p_known h_tll h_beyond h_minutes r_h_size o_fewest o_rows o_first r_o_stands r_t_tears r_t_gains r_t_likings r_t_settings r_t_goodbyes r_t_women r_d_tears r_d_gains r_d_likings r_d_settings r_d_goodbyes r_d_women) t.heap ∧ va_D (va_A (wcRXNPSOTD qa cI cJ cZ r_images r_asked x_letters x_size x_place x_fault x_stold n_likings n_day n_trust n_ill n_done p_befores p_known h_tll h_beyond h_minutes h_size o_fewest o_rows o_first o_stands t_tears t_gains t_likings t_settings t_goodbyes t_women d_tears d_gains d_likings d_settings d_goodbyes d_women) sz) (wcRXNPSOTD u cI cJ cZ r_r_images r_asked x_letters r_x_size r_x_place r_x_fault r_x_stold r_n_likings r_n_day r_n_trust r_n_ill r_n_done p_befores r_p_known h_tll h_beyond h_minutes r_h_size o_fewest o_rows o_first r_o_stands r_t_tears r_t_gains r_t_likings r_t_settings r_t_goodbyes r_t_women r_d_tears r_d_gains r_d_likings r_d_settings r_d_goodbyes r_d_women)) (va_A (wcRXNPSOTD qa cI cJ cZ r_images r_asked x_letters x_size x_place x_fault x_stold n_likings n_day n_trust n_ill n_done p_befores p_known h_tll h_beyond h_minutes h_size o_fewest o_rows o_first o_stands t_tears t_gains t_likings t_settings t_goodbyes t_women d_tears d_gains d_likings d_settings d_goodbyes d_women) sz)) 0 0 (va_A (wcRXNPSOTD qa cI cJ cZ r_images r_asked x_letters x_size x_place x_fault x_stold n_likings n_day n_trust n_ill n_done p_befores p_known h_tll h_beyond h_minutes h_size o_fewest o_rows o_first o_stands t_tears t_gains t_likings t_settings t_goodbyes t_women d_tears d_gains d_likings d_settings d_goodbyes d_women) sz) := by
  refine Met.ofW (cc := cX6_nursery) (maxL := 4) (ret := (some .int)) (by decide) rfl ?_
  intro p e s m args below meth c s₁ B hml hv
  obtain ⟨rfl, hsz, hP, hK, hD0, hE⟩ := hv
  have hx := B.exec
  have hb := B.bytes
  have hr := B.returns
  have hts := atoms_spec (ws := wsX6_nursery) B.pre
  have hown : s.vm.findClass RX6 = some m.cls := findClass_of_methodNamed B.named
  have hlocks := B.notSynchronized
  subst hsz
  have hD := hD0.self (sz := s.heap.size)
  generalize hAe : va_A (wcRXNPSOTD qa cI cJ cZ r_images r_asked x_letters x_size x_place x_fault x_stold n_likings n_day n_trust n_ill n_done p_befores p_known h_tll h_beyond h_minutes h_size o_fewest o_rows o_first o_stands t_tears t_gains t_likings t_settings t_goodbyes t_women d_tears d_gains d_likings d_settings d_goodbyes d_women) s.heap.size = A at hD hE ⊢
  have hA : ∀ q : Nat, s.heap.size ≤ q → A q := fun q h => by rw [← hAe]; exact Or.inr h
  have hS : va_S A s.heap s.heap [] := va_S.rf
  have hinX6 : ∀ w ∈ u_ws RX6 TX6 9, w ∈ wsX6_nursery := by decide +kernel
  have hinX1 : ∀ w ∈ u_ws RX1 TX1 4, w ∈ wsX6_nursery := by decide +kernel
  have k1 := hts (.fieldLink RX6 46 "DoorMornings" "images" "[J") (by decide +kernel)
  have k2 := hts (.constantLong RX6 44 (-1)) (by decide +kernel)
  have k3 := hts (.fieldLink RX6 10 "DoorMornings" "text" "LDoorMornings$Text;") (by decide +kernel)
  have k4 := hts (.fieldLink RX6 57 "DoorMornings" "draft" "LDoorMornings$Told;") (by decide +kernel)
  have k5 := hts (.fieldLink RX6 53 "DoorMornings" "told" "LDoorMornings$Told;") (by decide +kernel)
  have k6 := hts (.fieldLink RX6 19 "DoorMornings" "today" "LDoorMornings$Now;") (by decide +kernel)
  have k7 := hts (.fieldLink RX6 26 "DoorMornings" "past" "LDoorMornings$Past;") (by decide +kernel)
  have k8 := hts (.fieldLink RX6 33 "DoorMornings" "shown" "LDoorMornings$Shown;") (by decide +kernel)
  have k9 := hts (.fieldLink RX6 40 "DoorMornings" "outlook" "LDoorMornings$Outlook;") (by decide +kernel)
  have k10 := hts (.fieldLink RX6 83 "DoorMornings$Outlook" "stands" "Z") (by decide +kernel)
  have hl := lv_entry ([.ref (qa 0)]) (n := 4) (Nat.le_of_ble_eq_true rfl)
  rw [lg_entry_eq]
  generalize (lg_sl ([.ref (qa 0)]) ++ List.replicate (4 - (lg_sl ([.ref (qa 0)])).length) Slot.unset).toArray = ls at hl ⊢
  have hl : lv_has ls 4 [(0, .ref (qa 0))] := hl
  have hL80 : ∀ (z_x_size : Int32) (z_x_place : Int32) (z_x_fault : Int32) (z_x_stold : Int32) (z_n_likings : Nat → Int32) (z_n_day : Int32) (z_n_trust : Int32) (z_n_ill : Int32) (z_n_done : Int32) (z_p_known : Int32) (z_h_size : Int32) (z_o_stands : Int32) (z_t_tears : Nat → Int32) (z_t_gains : Nat → Int32) (z_t_likings : Nat → Int32) (z_t_settings : Nat → Int32) (z_t_goodbyes : Int32) (z_t_women : Int32) (z_d_tears : Nat → Int32) (z_d_gains : Nat → Int32) (z_d_likings : Nat → Int32) (z_d_settings : Nat → Int32) (z_d_goodbyes : Int32) (z_d_women : Int32) (x1 : Int32) (n : Nat) (x3 : Int32) (z_r_images : Nat → Int64) (H : Heap) (locs : List Loc) (ls : Array Slot), gX6_nursery_L80 z_x_size z_x_place z_x_fault z_x_stold z_n_likings z_n_day z_n_trust z_n_ill z_n_done z_p_known z_h_size z_o_stands z_t_tears z_t_gains z_t_likings z_t_settings z_t_goodbyes z_t_women z_d_tears z_d_gains z_d_likings z_d_settings z_d_goodbyes z_d_women x1 n x3 z_r_images = some (r0, r_r_images, r_x_size, r_x_place, r_x_fault, r_x_stold, r_n_likings, r_n_day, r_n_trust, r_n_ill, r_n_done, r_p_known, r_h_size, r_o_stands, r_t_tears, r_t_gains, r_t_likings, r_t_settings, r_t_goodbyes, r_t_women, r_d_tears, r_d_gains, r_d_likings, r_d_settings, r_d_goodbyes, r_d_women) → va_P (dC, dI) vwCl (wcRXNPSOTD (wq_sw qa) cI cJ cZ z_r_images r_asked x_letters z_x_size z_x_place z_x_fault z_x_stold z_n_likings z_n_day z_n_trust z_n_ill z_n_done p_befores z_p_known h_tll h_beyond h_minutes z_h_size o_fewest o_rows o_first z_o_stands z_t_tears z_t_gains z_t_likings z_t_settings z_t_goodbyes z_t_women z_d_tears z_d_gains z_d_likings z_d_settings z_d_goodbyes z_d_women) H → va_D A (wcRXNPSOTD (wq_sw qa) cI cJ cZ z_r_images r_asked x_letters z_x_size z_x_place z_x_fault z_x_stold z_n_likings z_n_day z_n_trust z_n_ill z_n_done p_befores z_p_known h_tll h_beyond h_minutes z_h_size o_fewest o_rows o_first z_o_stands z_t_tears z_t_gains z_t_likings z_t_settings z_t_goodbyes z_t_women z_d_tears z_d_gains z_d_likings z_d_settings z_d_goodbyes z_d_women) → va_S A s.heap H locs → lv_has ls 4 [(0, .ref (qa 0)), (1, .int x1), (3, .int x3)] → W p l e (headSpec wsX6_nursery ({ frames := 6, cells := 0, slots := 0, locals := 134 } : Room)).room s m ([.ref (qa 0)] : List Value).toArray below meth c H locs 0 0 (MQ below (va_Qi (fun (r : Int32) (u : Nat → Nat) => r = r0 ∧ u 0 = qa 0) (fun u t => va_P (dC, dI) vwCl (wcRXNPSOTD u cI cJ cZ r_r_images r_asked x_letters r_x_size r_x_place r_x_fault r_x_stold r_n_likings r_n_day r_n_trust r_n_ill r_n_done p_befores r_p_known h_tll h_beyond h_minutes r_h_size o_fewest o_rows o_first r_o_stands r_t_tears r_t_gains r_t_likings r_t_settings r_t_goodbyes r_t_women r_d_tears r_d_gains r_d_likings r_d_settings r_d_goodbyes r_d_women) t.heap ∧ va_D A (wcRXNPSOTD u cI cJ cZ r_r_images r_asked x_letters r_x_size r_x_place r_x_fault r_x_stold r_n_likings r_n_day r_n_trust r_n_ill r_n_done p_befores r_p_known h_tll h_beyond h_minutes r_h_size o_fewest o_rows o_first r_o_stands r_t_tears r_t_gains r_t_likings r_t_settings r_t_goodbyes r_t_women r_d_tears r_d_gains r_d_likings r_d_settings r_d_goodbyes r_d_women)) A) ([.ref (qa 0)] : List Value).toArray s 0 0 A) (F0 m 80 ls []) := by
    intro z_x_size z_x_place z_x_fault z_x_stold z_n_likings z_n_day z_n_trust z_n_ill z_n_done z_p_known z_h_size z_o_stands z_t_tears z_t_gains z_t_likings z_t_settings z_t_goodbyes z_t_women z_d_tears z_d_gains z_d_likings z_d_settings z_d_goodbyes z_d_women x1 n
    induction n with
    | zero =>
      intro x3 z_r_images H locs ls hG
      exact absurd (show (none : Option (Int32 × (Nat → Int64) × Int32 × Int32 × Int32 × Int32 × (Nat → Int32) × Int32 × Int32 × Int32 × Int32 × Int32 × Int32 × Int32 × (Nat → Int32) × (Nat → Int32) × (Nat → Int32) × (Nat → Int32) × Int32 × Int32 × (Nat → Int32) × (Nat → Int32) × (Nat → Int32) × (Nat → Int32) × Int32 × Int32)) = some (r0, r_r_images, r_x_size, r_x_place, r_x_fault, r_x_stold, r_n_likings, r_n_day, r_n_trust, r_n_ill, r_n_done, r_p_known, r_h_size, r_o_stands, r_t_tears, r_t_gains, r_t_likings, r_t_settings, r_t_goodbyes, r_t_women, r_d_tears, r_d_gains, r_d_likings, r_d_settings, r_d_goodbyes, r_d_women) from hG) (by intro h9; cases h9)
    | succ n ih80 =>
      intro x3 z_r_images H locs ls hG hP hD hS hl
      rw [gX6_nursery_L80] at hG
      refine lv_iload_n hx hb dX6_nursery_80 rfl (lv_at hl 2 rfl) ?_
      refine lv_iconst (v := 2) hx hb dX6_nursery_81 (by decide) ?_
      refine lv_icmp_ge (tgt := 100) hx hb dX6_nursery_82 (by decide) (fun c1 => ?_) (fun c1 => ?_)
      · replace hG := wq_t c1 hG
        refine lv_iload_n hx hb dX6_nursery_100 rfl (lv_at hl 1 rfl) ?_
        obtain ⟨e0, e1, e2, e3, e4, e5, e6, e7, e8, e9, e10, e11, e12, e13, e14, e15, e16, e17, e18, e19, e20, e21, e22, e23, e24, e25⟩ := wq_j26 hG
        subst e0
        subst e1
        subst e2
        subst e3
        subst e4
        subst e5
        subst e6
        subst e7
        subst e8
        subst e9
        subst e10
        subst e11
        subst e12
        subst e13
        subst e14
        subst e15
        subst e16
        subst e17
        subst e18
        subst e19
        subst e20
        subst e21
        subst e22
        subst e23
        subst e24
        subst e25
        exact W.iret hx hb hr (fun t ht hW => ⟨⟨_, (wq_sw qa), rfl, ⟨rfl, rfl⟩, by rw [ht]; exact hP, hD⟩, hS.F ht⟩) hS.2.2 dX6_nursery_101
      · replace hG := wq_f c1 hG
        refine lv_aload_n hx hb dX6_nursery_85 rfl (lv_at hl 0 rfl) ?_
        refine va_get (D := (dC, dI)) (ci := 6) (v := .ref ((wq_sw qa) 15)) (C := RX6) (T := TX6) (N := 9) hx hb hts hinX6 hown hK hP 0 rfl rfl 5 (by decide) k1 (fun _ h9 => h9) rfl dX6_nursery_86 ?_
        refine lv_iload_n hx hb dX6_nursery_89 rfl (lv_at hl 2 rfl) ?_
        refine lv_ldc2 (v := (-1)) hx hb hown k2 dX6_nursery_90 ?_
        obtain ⟨h2, hG⟩ := wq_chk_s hG
        refine wq_last (D := (dC, dI)) hx hb hK hP hD hS 1 1 rfl rfl h2 (Int32.toNatClampNeg x3) rfl (wcRXNPSOTD (wq_sw qa) cI cJ cZ (vp_updL z_r_images (Int32.toNatClampNeg x3) (-1)) r_asked x_letters z_x_size z_x_place z_x_fault z_x_stold z_n_likings z_n_day z_n_trust z_n_ill z_n_done p_befores z_p_known h_tll h_beyond h_minutes z_h_size o_fewest o_rows o_first z_o_stands z_t_tears z_t_gains z_t_likings z_t_settings z_t_goodbyes z_t_women z_d_tears z_d_gains z_d_likings z_d_settings z_d_goodbyes z_d_women) rfl dX6_nursery_93 (fun H locs hP hD hS => ?_)
        refine lv_iinc (v := (x3 + 1)) (lv' := [(3, .int (x3 + 1)), (0, .ref (qa 0)), (1, .int x1)]) hx hb dX6_nursery_94 hl (k := 2) rfl rfl (by decide) rfl (fun ls hl => ?_)
        refine lv_goto (tgt := 80) hx hb dX6_nursery_97 (by decide) ?_
        exact ih80 (x3 + 1) (vp_updL z_r_images (Int32.toNatClampNeg x3) (-1)) _ _ _ hG hP hD hS (lv_sub hl [1, 2, 0] rfl)
  unfold gX6_nursery at hG
  refine lv_aload_n hx hb dX6_nursery_0 rfl (lv_at hl 0 rfl) ?_
  refine va_get (D := (dC, dI)) (ci := 6) (v := .ref (qa 1)) (C := RX6) (T := TX6) (N := 9) hx hb hts hinX6 hown hK hP 0 rfl rfl 0 (by decide) k3 (fun _ h9 => h9) rfl dX6_nursery_1 ?_
  refine lv_aload_n hx hb dX6_nursery_4 rfl (lv_at hl 0 rfl) ?_
  refine va_get (D := (dC, dI)) (ci := 6) (v := .ref (qa 21)) (C := RX6) (T := TX6) (N := 9) hx hb hts hinX6 hown hK hP 0 rfl rfl 7 (by decide) k4 (fun _ h9 => h9) rfl dX6_nursery_5 ?_
  obtain ⟨v4, w5, w6, w7, w8, w9, w10, w11, w12, w13, g3, hG⟩ := wq_b10_s hG
  have hFc := va_free (wc := wcXD qa cI cJ cZ x_letters x_size x_place x_fault x_stold d_tears d_gains d_likings d_settings d_goodbyes d_women) hD hS hA [2, 3, 21, 22, 23, 24, 25] rfl
  refine wq_di (D := (dC, dI)) (v := v4) (B := wq_tr) (wr := wcRNPSOT qa cI cJ cZ r_images r_asked n_likings n_day n_trust n_ill n_done p_befores p_known h_tll h_beyond h_minutes h_size o_fewest o_rows o_first o_stands t_tears t_gains t_likings t_settings t_goodbyes t_women) (w1 := wcXD qa cI cJ cZ x_letters x_size w5 w6 w7 w8 w9 w10 w11 w12 w13) (w2 := wcRXNPSOTD qa cI cJ cZ r_images r_asked x_letters x_size w5 w6 w7 n_likings n_day n_trust n_ill n_done p_befores p_known h_tll h_beyond h_minutes h_size o_fewest o_rows o_first o_stands t_tears t_gains t_likings t_settings t_goodbyes t_women w8 w9 w10 w11 w12 w13) (va_runV (As := [.ref (qa 21)]) (rest := []) ⟨hx, hb, hml, hown, hts⟩ (C_X4_tell l dC dI cI cJ cZ qa s.heap.size x_letters x_size x_place x_fault x_stold d_tears d_gains d_likings d_settings d_goodbyes d_women  v4 w5 w6 w7 w8 w9 w10 w11 w12 w13 g3) (cwV 1 hts gX6_nursery_X4_tell rfl rfl rfl hdV_X4_tell ⟨Nat.le_of_ble_eq_true rfl, Nat.le_of_ble_eq_true rfl⟩) (wq_pwV hK (hP.sub (ws' := wcXD qa cI cJ cZ x_letters x_size x_place x_fault x_stold d_tears d_gains d_likings d_settings d_goodbyes d_women) [2, 3, 21, 22, 23, 24, 25] rfl) (hD.sub (ws' := wcXD qa cI cJ cZ x_letters x_size x_place x_fault x_stold d_tears d_gains d_likings d_settings d_goodbyes d_women) [2, 3, 21, 22, 23, 24, 25] (by decide) rfl) hE hS hFc (ci := 4) (q0 := 0) rfl rfl) rfl rfl hl.1 rfl (lv_room (Nat.le_of_ble_eq_true rfl)) dX6_nursery_8 ⟨Nat.zero_le _, Nat.zero_le _⟩) hP hD hS hFc [2, 3, 21, 22, 23, 24, 25] [0, 1, 4, 5, 6, 7, 8, 9, 10, 11, 12, 13, 14, 15, 16, 17, 18, 19, 20] [0, 1, 19, 20, 2, 3, 4, 5, 6, 7, 8, 9, 10, 11, 12, 13, 14, 15, 16, 17, 18, 21, 22, 23, 24, 25] rfl rfl (by decide) (by decide) (by decide) rfl (fun H locs b14 hP hD hS => ?_)
  clear hFc
  refine lv_istore_n (lv' := [(1, .int v4), (0, .ref (qa 0))]) hx hb dX6_nursery_11 rfl hl (by decide) rfl (fun ls hl => ?_)
  refine lv_iload_n hx hb dX6_nursery_12 rfl (lv_at hl 0 rfl) ?_
  refine lv_if_ge (tgt := 18) hx hb dX6_nursery_13 (by decide) (fun c15 => ?_) (fun c15 => ?_)
  · replace hG := wq_t c15 hG
    refine lv_aload_n hx hb dX6_nursery_18 rfl (lv_at hl 1 rfl) ?_
    refine va_get (D := (dC, dI)) (ci := 6) (v := .ref (qa 16)) (C := RX6) (T := TX6) (N := 9) hx hb hts hinX6 hown hK hP 0 rfl rfl 6 (by decide) k5 (fun _ h9 => h9) rfl dX6_nursery_19 ?_
    refine lv_astore_n (lv' := [(2, .ref (qa 16)), (1, .int v4), (0, .ref (qa 0))]) hx hb dX6_nursery_22 rfl hl (by decide) rfl (fun ls hl => ?_)
    refine lv_aload_n hx hb dX6_nursery_23 rfl (lv_at hl 2 rfl) ?_
    refine lv_aload_n hx hb dX6_nursery_24 rfl (lv_at hl 2 rfl) ?_
    refine va_get (D := (dC, dI)) (ci := 6) (v := .ref (qa 21)) (C := RX6) (T := TX6) (N := 9) hx hb hts hinX6 hown hK hP 0 rfl rfl 7 (by decide) k4 (fun _ h9 => h9) rfl dX6_nursery_25 ?_
    refine va_put (D := (dC, dI)) (ci := 6) (v := .ref (qa 21)) (ty := tyX6 6) (C := RX6) (T := TX6) (N := 9) hx hb hts hinX6 tyX6 tyX6_ok nmX6 hown hK hP hD hS 0 rfl rfl 6 (by decide) k5 (fun _ h9 => h9) rfl (tyX6_ok 6 (by decide)) rfl rfl (Nat.le_of_ble_eq_true rfl) dX6_nursery_28 (fun H locs hP hD hS => ?_)
    refine lv_aload_n hx hb dX6_nursery_31 rfl (lv_at hl 2 rfl) ?_
    refine lv_aload_n hx hb dX6_nursery_32 rfl (lv_at hl 0 rfl) ?_
    refine va_put (D := (dC, dI)) (ci := 6) (v := .ref (qa 16)) (ty := tyX6 7) (C := RX6) (T := TX6) (N := 9) hx hb hts hinX6 tyX6 tyX6_ok nmX6 hown hK hP hD hS 0 rfl rfl 7 (by decide) k4 (fun _ h9 => h9) rfl (tyX6_ok 7 (by decide)) rfl rfl (Nat.le_of_ble_eq_true rfl) dX6_nursery_33 (fun H locs hP hD hS => ?_)
    replace hP : va_P (dC, dI) vwCl (wcRXNPSOTD (wq_sw qa) cI cJ cZ r_images r_asked x_letters x_size w5 w6 w7 n_likings n_day n_trust n_ill n_done p_befores p_known h_tll h_beyond h_minutes h_size o_fewest o_rows o_first o_stands w8 w9 w10 w11 w12 w13 t_tears t_gains t_likings t_settings t_goodbyes t_women) H := hP.sub [0, 1, 2, 3, 4, 5, 6, 7, 8, 9, 10, 11, 12, 13, 14, 15, 21, 22, 23, 24, 25, 16, 17, 18, 19, 20] rfl
    replace hD : va_D A (wcRXNPSOTD (wq_sw qa) cI cJ cZ r_images r_asked x_letters x_size w5 w6 w7 n_likings n_day n_trust n_ill n_done p_befores p_known h_tll h_beyond h_minutes h_size o_fewest o_rows o_first o_stands w8 w9 w10 w11 w12 w13 t_tears t_gains t_likings t_settings t_goodbyes t_women) := hD.sub [0, 1, 2, 3, 4, 5, 6, 7, 8, 9, 10, 11, 12, 13, 14, 15, 21, 22, 23, 24, 25, 16, 17, 18, 19, 20] (by decide) rfl
    refine lv_aload_n hx hb dX6_nursery_36 rfl (lv_at hl 2 rfl) ?_
    refine va_get (D := (dC, dI)) (ci := 6) (v := .ref ((wq_sw qa) 1)) (C := RX6) (T := TX6) (N := 9) hx hb hts hinX6 hown hK hP 0 rfl rfl 0 (by decide) k3 (fun _ h9 => h9) rfl dX6_nursery_37 ?_
    obtain ⟨v17, w18, g16, hG⟩ := wq_b2_s hG
    have hFc := va_free (wc := wcX (wq_sw qa) cI cJ cZ x_letters x_size w5 w6 w7) hD hS hA [2, 3] rfl
    refine wq_di (D := (dC, dI)) (v := v17) (B := wq_tr) (wr := wcRNPSOTD (wq_sw qa) cI cJ cZ r_images r_asked n_likings n_day n_trust n_ill n_done p_befores p_known h_tll h_beyond h_minutes h_size o_fewest o_rows o_first o_stands w8 w9 w10 w11 w12 w13 t_tears t_gains t_likings t_settings t_goodbyes t_women) (w1 := wcX (wq_sw qa) cI cJ cZ x_letters w18 w5 w6 w7) (w2 := wcRXNPSOTD (wq_sw qa) cI cJ cZ r_images r_asked x_letters w18 w5 w6 w7 n_likings n_day n_trust n_ill n_done p_befores p_known h_tll h_beyond h_minutes h_size o_fewest o_rows o_first o_stands w8 w9 w10 w11 w12 w13 t_tears t_gains t_likings t_settings t_goodbyes t_women) (va_runV (As := []) (rest := []) ⟨hx, hb, hml, hown, hts⟩ (C_X4_empty l dC dI cI cJ cZ (wq_sw qa) H.size x_letters x_size w5 w6 w7  v17 w18 g16) (cwV 0 hts gX6_nursery_X4_empty rfl rfl rfl hdV_X4_empty ⟨Nat.le_of_ble_eq_true rfl, Nat.le_of_ble_eq_true rfl⟩) (wq_pwV hK (hP.sub (ws' := wcX (wq_sw qa) cI cJ cZ x_letters x_size w5 w6 w7) [2, 3] rfl) (hD.sub (ws' := wcX (wq_sw qa) cI cJ cZ x_letters x_size w5 w6 w7) [2, 3] (by decide) rfl) hE hS hFc (ci := 4) (q0 := 0) rfl rfl) rfl rfl hl.1 rfl (lv_room (Nat.le_of_ble_eq_true rfl)) dX6_nursery_40 ⟨Nat.zero_le _, Nat.zero_le _⟩) hP hD hS hFc [2, 3] [0, 1, 4, 5, 6, 7, 8, 9, 10, 11, 12, 13, 14, 15, 16, 17, 18, 19, 20, 21, 22, 23, 24, 25] [0, 1, 24, 25, 2, 3, 4, 5, 6, 7, 8, 9, 10, 11, 12, 13, 14, 15, 16, 17, 18, 19, 20, 21, 22, 23] rfl rfl (by decide) (by decide) (by decide) rfl (fun H locs b19 hP hD hS => ?_)
    clear hFc
    refine lv_pop hx hb dX6_nursery_43 rfl ?_
    refine lv_aload_n hx hb dX6_nursery_44 rfl (lv_at hl 2 rfl) ?_
    refine va_get (D := (dC, dI)) (ci := 6) (v := .ref ((wq_sw qa) 3)) (C := RX6) (T := TX6) (N := 9) hx hb hts hinX6 hown hK hP 0 rfl rfl 1 (by decide) k6 (fun _ h9 => h9) rfl dX6_nursery_45 ?_
    refine lv_aload_n hx hb dX6_nursery_48 rfl (lv_at hl 2 rfl) ?_
    refine va_get (D := (dC, dI)) (ci := 6) (v := .ref ((wq_sw qa) 16)) (C := RX6) (T := TX6) (N := 9) hx hb hts hinX6 hown hK hP 0 rfl rfl 6 (by decide) k5 (fun _ h9 => h9) rfl dX6_nursery_49 ?_
    obtain ⟨w21, w22, w23, w24, w25, g20, hG⟩ := wq_b5_s hG
    have hFc := va_free (wc := wcNT (wq_sw qa) cI cJ cZ n_likings n_day n_trust n_ill n_done w8 w9 w10 w11 w12 w13) hD hS hA [4, 5, 16, 17, 18, 19, 20] rfl
    refine wq_dv (D := (dC, dI)) (wr := wcRXPSOD (wq_sw qa) cI cJ cZ r_images r_asked x_letters w18 w5 w6 w7 p_befores p_known h_tll h_beyond h_minutes h_size o_fewest o_rows o_first o_stands t_tears t_gains t_likings t_settings t_goodbyes t_women) (w1 := wcNT (wq_sw qa) cI cJ cZ w21 w22 w23 w24 w25 w8 w9 w10 w11 w12 w13) (w2 := wcRXNPSOTD (wq_sw qa) cI cJ cZ r_images r_asked x_letters w18 w5 w6 w7 w21 w22 w23 w24 w25 p_befores p_known h_tll h_beyond h_minutes h_size o_fewest o_rows o_first o_stands w8 w9 w10 w11 w12 w13 t_tears t_gains t_likings t_settings t_goodbyes t_women) (va_runV (As := [.ref ((wq_sw qa) 16)]) (rest := []) ⟨hx, hb, hml, hown, hts⟩ (C_X0_startAnew l dC dI cI cJ cZ (wq_sw qa) H.size n_likings n_day n_trust n_ill n_done w8 w9 w10 w11 w12 w13  w21 w22 w23 w24 w25 g20) (cwV 1 hts gX6_nursery_X0_startAnew rfl rfl rfl hdV_X0_startAnew ⟨Nat.le_of_ble_eq_true rfl, Nat.le_of_ble_eq_true rfl⟩) (wq_pwV hK (hP.sub (ws' := wcNT (wq_sw qa) cI cJ cZ n_likings n_day n_trust n_ill n_done w8 w9 w10 w11 w12 w13) [4, 5, 16, 17, 18, 19, 20] rfl) (hD.sub (ws' := wcNT (wq_sw qa) cI cJ cZ n_likings n_day n_trust n_ill n_done w8 w9 w10 w11 w12 w13) [4, 5, 16, 17, 18, 19, 20] (by decide) rfl) hE hS hFc (ci := 0) (q0 := 0) rfl rfl) rfl rfl hl.1 rfl (lv_room (Nat.le_of_ble_eq_true rfl)) dX6_nursery_52 ⟨Nat.zero_le _, Nat.zero_le _⟩) hP hD hS hFc [4, 5, 16, 17, 18, 19, 20] [0, 1, 2, 3, 6, 7, 8, 9, 10, 11, 12, 13, 14, 15, 21, 22, 23, 24, 25] [0, 1, 2, 3, 19, 20, 4, 5, 6, 7, 8, 9, 10, 11, 12, 13, 21, 22, 23, 24, 25, 14, 15, 16, 17, 18] rfl rfl (by decide) (by decide) (by decide) rfl (fun H locs hP hD hS => ?_)
    clear hFc
    refine lv_aload_n hx hb dX6_nursery_55 rfl (lv_at hl 2 rfl) ?_
    refine va_get (D := (dC, dI)) (ci := 6) (v := .ref ((wq_sw qa) 5)) (C := RX6) (T := TX6) (N := 9) hx hb hts hinX6 hown hK hP 0 rfl rfl 2 (by decide) k7 (fun _ h9 => h9) rfl dX6_nursery_56 ?_
    obtain ⟨w27, g26, hG⟩ := wq_b1_s hG
    have hFc := va_free (wc := wcP (wq_sw qa) cI cJ cZ p_befores p_known) hD hS hA [6, 7] rfl
    refine wq_dv (D := (dC, dI)) (wr := wcRXNSOTD (wq_sw qa) cI cJ cZ r_images r_asked x_letters w18 w5 w6 w7 w21 w22 w23 w24 w25 h_tll h_beyond h_minutes h_size o_fewest o_rows o_first o_stands w8 w9 w10 w11 w12 w13 t_tears t_gains t_likings t_settings t_goodbyes t_women) (w1 := wcP (wq_sw qa) cI cJ cZ p_befores w27) (w2 := wcRXNPSOTD (wq_sw qa) cI cJ cZ r_images r_asked x_letters w18 w5 w6 w7 w21 w22 w23 w24 w25 p_befores w27 h_tll h_beyond h_minutes h_size o_fewest o_rows o_first o_stands w8 w9 w10 w11 w12 w13 t_tears t_gains t_likings t_settings t_goodbyes t_women) (va_runV (As := []) (rest := []) ⟨hx, hb, hml, hown, hts⟩ (C_X2_empty l dC dI cI cJ cZ (wq_sw qa) H.size p_befores p_known  w27 g26) (cwV 0 hts gX6_nursery_X2_empty rfl rfl rfl hdV_X2_empty ⟨Nat.le_of_ble_eq_true rfl, Nat.le_of_ble_eq_true rfl⟩) (wq_pwV hK (hP.sub (ws' := wcP (wq_sw qa) cI cJ cZ p_befores p_known) [6, 7] rfl) (hD.sub (ws' := wcP (wq_sw qa) cI cJ cZ p_befores p_known) [6, 7] (by decide) rfl) hE hS hFc (ci := 2) (q0 := 0) rfl rfl) rfl rfl hl.1 rfl (lv_room (Nat.le_of_ble_eq_true rfl)) dX6_nursery_59 ⟨Nat.zero_le _, Nat.zero_le _⟩) hP hD hS hFc [6, 7] [0, 1, 2, 3, 4, 5, 8, 9, 10, 11, 12, 13, 14, 15, 16, 17, 18, 19, 20, 21, 22, 23, 24, 25] [0, 1, 2, 3, 4, 5, 24, 25, 6, 7, 8, 9, 10, 11, 12, 13, 14, 15, 16, 17, 18, 19, 20, 21, 22, 23] rfl rfl (by decide) (by decide) (by decide) rfl (fun H locs hP hD hS => ?_)
    clear hFc
    refine lv_aload_n hx hb dX6_nursery_62 rfl (lv_at hl 2 rfl) ?_
    refine va_get (D := (dC, dI)) (ci := 6) (v := .ref ((wq_sw qa) 7)) (C := RX6) (T := TX6) (N := 9) hx hb hts hinX6 hown hK hP 0 rfl rfl 3 (by decide) k8 (fun _ h9 => h9) rfl dX6_nursery_63 ?_
    obtain ⟨v29, w30, g28, hG⟩ := wq_b2_s hG
    have hFc := va_free (wc := wcS (wq_sw qa) cI cJ cZ h_tll h_beyond h_minutes h_size) hD hS hA [8, 9, 10, 11] rfl
    refine wq_di (D := (dC, dI)) (v := v29) (B := wq_tr) (wr := wcRXNPOTD (wq_sw qa) cI cJ cZ r_images r_asked x_letters w18 w5 w6 w7 w21 w22 w23 w24 w25 p_befores w27 o_fewest o_rows o_first o_stands w8 w9 w10 w11 w12 w13 t_tears t_gains t_likings t_settings t_goodbyes t_women) (w1 := wcS (wq_sw qa) cI cJ cZ h_tll h_beyond h_minutes w30) (w2 := wcRXNPSOTD (wq_sw qa) cI cJ cZ r_images r_asked x_letters w18 w5 w6 w7 w21 w22 w23 w24 w25 p_befores w27 h_tll h_beyond h_minutes w30 o_fewest o_rows o_first o_stands w8 w9 w10 w11 w12 w13 t_tears t_gains t_likings t_settings t_goodbyes t_women) (va_runV (As := []) (rest := []) ⟨hx, hb, hml, hown, hts⟩ (C_X3_empty l dC dI cI cJ cZ (wq_sw qa) H.size h_tll h_beyond h_minutes h_size  v29 w30 g28) (cwV 0 hts gX6_nursery_X3_empty rfl rfl rfl hdV_X3_empty ⟨Nat.le_of_ble_eq_true rfl, Nat.le_of_ble_eq_true rfl⟩) (wq_pwV hK (hP.sub (ws' := wcS (wq_sw qa) cI cJ cZ h_tll h_beyond h_minutes h_size) [8, 9, 10, 11] rfl) (hD.sub (ws' := wcS (wq_sw qa) cI cJ cZ h_tll h_beyond h_minutes h_size) [8, 9, 10, 11] (by decide) rfl) hE hS hFc (ci := 3) (q0 := 0) rfl rfl) rfl rfl hl.1 rfl (lv_room (Nat.le_of_ble_eq_true rfl)) dX6_nursery_66 ⟨Nat.zero_le _, Nat.zero_le _⟩) hP hD hS hFc [8, 9, 10, 11] [0, 1, 2, 3, 4, 5, 6, 7, 12, 13, 14, 15, 16, 17, 18, 19, 20, 21, 22, 23, 24, 25] [0, 1, 2, 3, 4, 5, 6, 7, 22, 23, 24, 25, 8, 9, 10, 11, 12, 13, 14, 15, 16, 17, 18, 19, 20, 21] rfl rfl (by decide) (by decide) (by decide) rfl (fun H locs b31 hP hD hS => ?_)
    clear hFc
    refine lv_pop hx hb dX6_nursery_69 rfl ?_
    refine lv_aload_n hx hb dX6_nursery_70 rfl (lv_at hl 2 rfl) ?_
    refine va_get (D := (dC, dI)) (ci := 6) (v := .ref ((wq_sw qa) 11)) (C := RX6) (T := TX6) (N := 9) hx hb hts hinX6 hown hK hP 0 rfl rfl 4 (by decide) k9 (fun _ h9 => h9) rfl dX6_nursery_71 ?_
    refine lv_iconst (v := 0) hx hb dX6_nursery_74 (by decide) ?_
    refine va_put (D := (dC, dI)) (ci := 1) (v := .int 0) (ty := tyX1 3) (C := RX1) (T := TX1) (N := 4) hx hb hts hinX1 tyX1 tyX1_ok nmX1 hown hK hP hD hS 12 rfl rfl 3 (by decide) k10 (fun _ h9 => h9) rfl (tyX1_ok 3 (by decide)) rfl rfl (Nat.le_of_ble_eq_true rfl) dX6_nursery_75 (fun H locs hP hD hS => ?_)
    replace hP : va_P (dC, dI) vwCl (wcRXNPSOTD (wq_sw qa) cI cJ cZ r_images r_asked x_letters w18 w5 w6 w7 w21 w22 w23 w24 w25 p_befores w27 h_tll h_beyond h_minutes w30 o_fewest o_rows o_first 0 w8 w9 w10 w11 w12 w13 t_tears t_gains t_likings t_settings t_goodbyes t_women) H := hP
    replace hD : va_D A (wcRXNPSOTD (wq_sw qa) cI cJ cZ r_images r_asked x_letters w18 w5 w6 w7 w21 w22 w23 w24 w25 p_befores w27 h_tll h_beyond h_minutes w30 o_fewest o_rows o_first 0 w8 w9 w10 w11 w12 w13 t_tears t_gains t_likings t_settings t_goodbyes t_women) := hD
    refine lv_iconst (v := 0) hx hb dX6_nursery_78 (by decide) ?_
    refine lv_istore_n (lv' := [(3, .int 0), (2, .ref (qa 16)), (1, .int v4), (0, .ref (qa 0))]) hx hb dX6_nursery_79 rfl hl (by decide) rfl (fun ls hl => ?_)
    exact hL80 w18 w5 w6 w7 w21 w22 w23 w24 w25 w27 w30 0 w8 w9 w10 w11 w12 w13 t_tears t_gains t_likings t_settings t_goodbyes t_women v4 1000 0 r_images _ _ _ hG hP hD hS (lv_sub hl [3, 2, 0] rfl)
  · replace hG := wq_f c15 hG
    refine lv_iload_n hx hb dX6_nursery_16 rfl (lv_at hl 0 rfl) ?_
    obtain ⟨e0, e1, e2, e3, e4, e5, e6, e7, e8, e9, e10, e11, e12, e13, e14, e15, e16, e17, e18, e19, e20, e21, e22, e23, e24, e25⟩ := wq_j26 hG
    subst e0
    subst e1
    subst e2
    subst e3
    subst e4
    subst e5
    subst e6
    subst e7
    subst e8
    subst e9
    subst e10
    subst e11
    subst e12
    subst e13
    subst e14
    subst e15
    subst e16
    subst e17
    subst e18
    subst e19
    subst e20
    subst e21
    subst e22
    subst e23
    subst e24
    subst e25
    exact W.iret hx hb hr (fun t ht hW => ⟨⟨_, qa, rfl, ⟨rfl, rfl⟩, by rw [ht]; exact hP, hD⟩, hS.F ht⟩) hS.2.2 dX6_nursery_17

theorem hdV_X5_hasGoodbye : yX5_hasGoodbye.cls = RX5 ∧ yX5_hasGoodbye.cls ≠ "java/lang/invoke/MethodHandle" ∧ yX5_hasGoodbye.cls ≠ "java/lang/invoke/VarHandle" ∧ (parseMethodDescriptor yX5_hasGoodbye.desc).map (fun d => d.parameters.length) = some 1 := by decide +kernel
set_option maxHeartbeats 4000000 in
set_option maxRecDepth 100000 in
theorem C_X5_hasGoodbye (l : Launch) (dC : Nat → ClassId) (dI : Nat → Nat → Nat) (cI cJ cZ : ClassId) (qa : Nat → Nat) (sz : Nat) (t_tears : Nat → Int32) (t_gains : Nat → Int32) (t_likings : Nat → Int32) (t_settings : Nat → Int32) (t_goodbyes : Int32) (t_women : Int32) (a1 : Int32) (r0 : Int32) (hG : gX5_hasGoodbye t_goodbyes a1 = some r0) : Met l yX5_hasGoodbye wsX5_hasGoodbye ({ frames := 0, cells := 0, slots := 0, locals := 0 } : Room) (va_Pc [.ref (qa 16), .int a1] (wq_pp (dC, dI) [(cI, .int), (cJ, .long), (cZ, .boolean)] (wcT qa cI cJ cZ t_tears t_gains t_likings t_settings t_goodbyes t_women) sz)) (wq_Qi r0 wq_Z1 (va_A [] sz)) 0 0 (va_A [] sz) := by
  refine Met.ofW (cc := cX5_hasGoodbye) (maxL := 2) (ret := (some .boolean)) (by decide) rfl ?_
  intro p e s m args below meth c s₁ B hml hv
  obtain ⟨rfl, hsz, hP, hK, hE⟩ := hv
  have hx := B.exec
  have hb := B.bytes
  have hr := B.returns
  have hts := atoms_spec (ws := wsX5_hasGoodbye) B.pre
  have hown : s.vm.findClass RX5 = some m.cls := findClass_of_methodNamed B.named
  have hlocks := B.notSynchronized
  subst hsz
  generalize hAe : va_A [] s.heap.size = A at hE ⊢
  have hA : ∀ q : Nat, s.heap.size ≤ q → A q := fun q h => by rw [← hAe]; exact Or.inr h
  have hS : va_S A s.heap s.heap [] := va_S.rf
  have hinX5 : ∀ w ∈ u_ws RX5 TX5 6, w ∈ wsX5_hasGoodbye := by decide +kernel
  have k1 := hts (.fieldLink RX5 32 "DoorMornings$Told" "goodbyes" "I") (by decide +kernel)
  have hl := lv_entry ([.ref (qa 16), .int a1]) (n := 2) (Nat.le_of_ble_eq_true rfl)
  rw [lg_entry_eq]
  generalize (lg_sl ([.ref (qa 16), .int a1]) ++ List.replicate (2 - (lg_sl ([.ref (qa 16), .int a1])).length) Slot.unset).toArray = ls at hl ⊢
  have hl : lv_has ls 2 [(0, .ref (qa 16)), (1, .int a1)] := hl
  unfold gX5_hasGoodbye at hG
  refine lv_iload_n hx hb dX5_hasGoodbye_0 rfl (lv_at hl 1 rfl) ?_
  refine lv_if_lt (tgt := 21) hx hb dX5_hasGoodbye_1 (by decide) (fun c1 => ?_) (fun c1 => ?_)
  · replace hG := wq_t c1 hG
    refine lv_iconst (v := 0) hx hb dX5_hasGoodbye_21 (by decide) ?_
    exact W.zret (v := 0) hx hb hr (wq_Z1_n (Or.inl rfl)) (fun t ht hW => ⟨⟨0, (), rfl, ⟨Option.some.inj hG, (Or.inl rfl)⟩, trivial⟩, hS.F ht⟩) hS.2.2 dX5_hasGoodbye_22
  · replace hG := wq_f c1 hG
    refine lv_iload_n hx hb dX5_hasGoodbye_4 rfl (lv_at hl 1 rfl) ?_
    refine lv_aload_n hx hb dX5_hasGoodbye_5 rfl (lv_at hl 0 rfl) ?_
    refine va_get (D := (dC, dI)) (ci := 5) (v := .int t_goodbyes) (C := RX5) (T := TX5) (N := 6) hx hb hts hinX5 hown hK hP 0 rfl rfl 4 (by decide) k1 (fun _ h9 => h9) rfl dX5_hasGoodbye_6 ?_
    refine lv_icmp_ge (tgt := 21) hx hb dX5_hasGoodbye_9 (by decide) (fun c2 => ?_) (fun c2 => ?_)
    · replace hG := wq_t c2 hG
      refine lv_iconst (v := 0) hx hb dX5_hasGoodbye_21 (by decide) ?_
      exact W.zret (v := 0) hx hb hr (wq_Z1_n (Or.inl rfl)) (fun t ht hW => ⟨⟨0, (), rfl, ⟨Option.some.inj hG, (Or.inl rfl)⟩, trivial⟩, hS.F ht⟩) hS.2.2 dX5_hasGoodbye_22
    · replace hG := wq_f c2 hG
      refine lv_iload_n hx hb dX5_hasGoodbye_12 rfl (lv_at hl 1 rfl) ?_
      refine lv_iconst (v := 5) hx hb dX5_hasGoodbye_13 (by decide) ?_
      refine lv_icmp_ge (tgt := 21) hx hb dX5_hasGoodbye_14 (by decide) (fun c3 => ?_) (fun c3 => ?_)
      · replace hG := wq_t c3 hG
        refine lv_iconst (v := 0) hx hb dX5_hasGoodbye_21 (by decide) ?_
        exact W.zret (v := 0) hx hb hr (wq_Z1_n (Or.inl rfl)) (fun t ht hW => ⟨⟨0, (), rfl, ⟨Option.some.inj hG, (Or.inl rfl)⟩, trivial⟩, hS.F ht⟩) hS.2.2 dX5_hasGoodbye_22
      · replace hG := wq_f c3 hG
        refine lv_iconst (v := 1) hx hb dX5_hasGoodbye_17 (by decide) ?_
        refine lv_goto (tgt := 22) hx hb dX5_hasGoodbye_18 (by decide) ?_
        exact W.zret (v := 1) hx hb hr (wq_Z1_n (Or.inr rfl)) (fun t ht hW => ⟨⟨1, (), rfl, ⟨Option.some.inj hG, (Or.inr rfl)⟩, trivial⟩, hS.F ht⟩) hS.2.2 dX5_hasGoodbye_22

theorem hdV_X5_tearsOf : yX5_tearsOf.cls = RX5 ∧ yX5_tearsOf.cls ≠ "java/lang/invoke/MethodHandle" ∧ yX5_tearsOf.cls ≠ "java/lang/invoke/VarHandle" ∧ (parseMethodDescriptor yX5_tearsOf.desc).map (fun d => d.parameters.length) = some 1 := by decide +kernel
set_option maxHeartbeats 4000000 in
set_option maxRecDepth 100000 in
theorem C_X5_tearsOf (l : Launch) (dC : Nat → ClassId) (dI : Nat → Nat → Nat) (cI cJ cZ : ClassId) (qa : Nat → Nat) (sz : Nat) (t_tears : Nat → Int32) (t_gains : Nat → Int32) (t_likings : Nat → Int32) (t_settings : Nat → Int32) (t_goodbyes : Int32) (t_women : Int32) (a1 : Int32) (r0 : Int32) (hG : gX5_tearsOf t_tears t_goodbyes a1 = some r0) : Met l yX5_tearsOf wsX5_tearsOf ({ frames := 1, cells := 0, slots := 0, locals := 21 } : Room) (va_Pc [.ref (qa 16), .int a1] (wq_pp (dC, dI) [(cI, .int), (cJ, .long), (cZ, .boolean)] (wcT qa cI cJ cZ t_tears t_gains t_likings t_settings t_goodbyes t_women) sz)) (wq_Qi r0 wq_tr (va_A [] sz)) 0 0 (va_A [] sz) := by
  refine Met.ofW (cc := cX5_tearsOf) (maxL := 2) (ret := (some .int)) (by decide) rfl ?_
  intro p e s m args below meth c s₁ B hml hv
  obtain ⟨rfl, hsz, hP, hK, hE⟩ := hv
  have hx := B.exec
  have hb := B.bytes
  have hr := B.returns
  have hts := atoms_spec (ws := wsX5_tearsOf) B.pre
  have hown : s.vm.findClass RX5 = some m.cls := findClass_of_methodNamed B.named
  have hlocks := B.notSynchronized
  subst hsz
  generalize hAe : va_A [] s.heap.size = A at hE ⊢
  have hA : ∀ q : Nat, s.heap.size ≤ q → A q := fun q h => by rw [← hAe]; exact Or.inr h
  have hS : va_S A s.heap s.heap [] := va_S.rf
  have hinX5 : ∀ w ∈ u_ws RX5 TX5 6, w ∈ wsX5_tearsOf := by decide +kernel
  have k1 := hts (.fieldLink RX5 9 "DoorMornings$Told" "tears" "[I") (by decide +kernel)
  have hl := lv_entry ([.ref (qa 16), .int a1]) (n := 2) (Nat.le_of_ble_eq_true rfl)
  rw [lg_entry_eq]
  generalize (lg_sl ([.ref (qa 16), .int a1]) ++ List.replicate (2 - (lg_sl ([.ref (qa 16), .int a1])).length) Slot.unset).toArray = ls at hl ⊢
  have hl : lv_has ls 2 [(0, .ref (qa 16)), (1, .int a1)] := hl
  unfold gX5_tearsOf at hG
  refine lv_aload_n hx hb dX5_tearsOf_0 rfl (lv_at hl 0 rfl) ?_
  refine lv_iload_n hx hb dX5_tearsOf_1 rfl (lv_at hl 1 rfl) ?_
  obtain ⟨v2, g1, hG⟩ := wq_b1_s hG
  refine wq_ci (v := v2) (B := wq_Z1) (va_runV (As := [.int a1]) (rest := []) ⟨hx, hb, hml, hown, hts⟩ (C_X5_hasGoodbye l dC dI cI cJ cZ qa s.heap.size t_tears t_gains t_likings t_settings t_goodbyes t_women a1 v2 g1) (cwV 1 hts gX5_tearsOf_X5_hasGoodbye rfl rfl rfl hdV_X5_hasGoodbye ⟨Nat.le_of_ble_eq_true rfl, Nat.le_of_ble_eq_true rfl⟩) (wq_ppV hK hP hE hS hA (ci := 5) (q0 := 0) rfl rfl) rfl rfl hl.1 rfl (lv_room (Nat.le_of_ble_eq_true rfl)) dX5_tearsOf_2 ⟨Nat.zero_le _, Nat.zero_le _⟩) hS hA (fun H locs b3 hk hS => ?_)
  replace hP := wq_kp hP hk
  clear hk
  refine lv_if_eq (tgt := 17) hx hb dX5_tearsOf_5 (by decide) (fun c4 => ?_) (fun c4 => ?_)
  · replace hG := wq_t c4 hG
    refine lv_iconst (v := 0) hx hb dX5_tearsOf_17 (by decide) ?_
    exact W.iret (v := 0) hx hb hr (fun t ht hW => ⟨⟨0, (), rfl, ⟨Option.some.inj hG, trivial⟩, trivial⟩, hS.F ht⟩) hS.2.2 dX5_tearsOf_18
  · replace hG := wq_f c4 hG
    refine lv_aload_n hx hb dX5_tearsOf_8 rfl (lv_at hl 0 rfl) ?_
    refine va_get (D := (dC, dI)) (ci := 5) (v := .ref (qa 17)) (C := RX5) (T := TX5) (N := 6) hx hb hts hinX5 hown hK hP 0 rfl rfl 0 (by decide) k1 (fun _ h9 => h9) rfl dX5_tearsOf_9 ?_
    refine lv_iload_n hx hb dX5_tearsOf_12 rfl (lv_at hl 1 rfl) ?_
    obtain ⟨h5, hG⟩ := wq_chk_s hG
    refine wq_iald (D := (dC, dI)) hx hb hK hP 1 0 rfl rfl h5 (Int32.toNatClampNeg a1) rfl dX5_tearsOf_13 ?_
    refine lv_goto (tgt := 18) hx hb dX5_tearsOf_14 (by decide) ?_
    exact W.iret (v := (t_tears (Int32.toNatClampNeg a1))) hx hb hr (fun t ht hW => ⟨⟨(t_tears (Int32.toNatClampNeg a1)), (), rfl, ⟨Option.some.inj hG, trivial⟩, trivial⟩, hS.F ht⟩) hS.2.2 dX5_tearsOf_18

theorem hdV_X5_gainOf : yX5_gainOf.cls = RX5 ∧ yX5_gainOf.cls ≠ "java/lang/invoke/MethodHandle" ∧ yX5_gainOf.cls ≠ "java/lang/invoke/VarHandle" ∧ (parseMethodDescriptor yX5_gainOf.desc).map (fun d => d.parameters.length) = some 1 := by decide +kernel
set_option maxHeartbeats 4000000 in
set_option maxRecDepth 100000 in
theorem C_X5_gainOf (l : Launch) (dC : Nat → ClassId) (dI : Nat → Nat → Nat) (cI cJ cZ : ClassId) (qa : Nat → Nat) (sz : Nat) (t_tears : Nat → Int32) (t_gains : Nat → Int32) (t_likings : Nat → Int32) (t_settings : Nat → Int32) (t_goodbyes : Int32) (t_women : Int32) (a1 : Int32) (r0 : Int32) (hG : gX5_gainOf t_gains t_goodbyes a1 = some r0) : Met l yX5_gainOf wsX5_gainOf ({ frames := 1, cells := 0, slots := 0, locals := 21 } : Room) (va_Pc [.ref (qa 16), .int a1] (wq_pp (dC, dI) [(cI, .int), (cJ, .long), (cZ, .boolean)] (wcT qa cI cJ cZ t_tears t_gains t_likings t_settings t_goodbyes t_women) sz)) (wq_Qi r0 wq_tr (va_A [] sz)) 0 0 (va_A [] sz) := by
  refine Met.ofW (cc := cX5_gainOf) (maxL := 2) (ret := (some .int)) (by decide) rfl ?_
  intro p e s m args below meth c s₁ B hml hv
  obtain ⟨rfl, hsz, hP, hK, hE⟩ := hv
  have hx := B.exec
  have hb := B.bytes
  have hr := B.returns
  have hts := atoms_spec (ws := wsX5_gainOf) B.pre
  have hown : s.vm.findClass RX5 = some m.cls := findClass_of_methodNamed B.named
  have hlocks := B.notSynchronized
  subst hsz
  generalize hAe : va_A [] s.heap.size = A at hE ⊢
  have hA : ∀ q : Nat, s.heap.size ≤ q → A q := fun q h => by rw [← hAe]; exact Or.inr h
  have hS : va_S A s.heap s.heap [] := va_S.rf
  have hinX5 : ∀ w ∈ u_ws RX5 TX5 6, w ∈ wsX5_gainOf := by decide +kernel
  have k1 := hts (.fieldLink RX5 15 "DoorMornings$Told" "gains" "[I") (by decide +kernel)
  have hl := lv_entry ([.ref (qa 16), .int a1]) (n := 2) (Nat.le_of_ble_eq_true rfl)
  rw [lg_entry_eq]
  generalize (lg_sl ([.ref (qa 16), .int a1]) ++ List.replicate (2 - (lg_sl ([.ref (qa 16), .int a1])).length) Slot.unset).toArray = ls at hl ⊢
  have hl : lv_has ls 2 [(0, .ref (qa 16)), (1, .int a1)] := hl
  unfold gX5_gainOf at hG
  refine lv_aload_n hx hb dX5_gainOf_0 rfl (lv_at hl 0 rfl) ?_
  refine lv_iload_n hx hb dX5_gainOf_1 rfl (lv_at hl 1 rfl) ?_
  obtain ⟨v2, g1, hG⟩ := wq_b1_s hG
  refine wq_ci (v := v2) (B := wq_Z1) (va_runV (As := [.int a1]) (rest := []) ⟨hx, hb, hml, hown, hts⟩ (C_X5_hasGoodbye l dC dI cI cJ cZ qa s.heap.size t_tears t_gains t_likings t_settings t_goodbyes t_women a1 v2 g1) (cwV 1 hts gX5_gainOf_X5_hasGoodbye rfl rfl rfl hdV_X5_hasGoodbye ⟨Nat.le_of_ble_eq_true rfl, Nat.le_of_ble_eq_true rfl⟩) (wq_ppV hK hP hE hS hA (ci := 5) (q0 := 0) rfl rfl) rfl rfl hl.1 rfl (lv_room (Nat.le_of_ble_eq_true rfl)) dX5_gainOf_2 ⟨Nat.zero_le _, Nat.zero_le _⟩) hS hA (fun H locs b3 hk hS => ?_)
  replace hP := wq_kp hP hk
  clear hk
  refine lv_if_eq (tgt := 17) hx hb dX5_gainOf_5 (by decide) (fun c4 => ?_) (fun c4 => ?_)
  · replace hG := wq_t c4 hG
    refine lv_iconst (v := 0) hx hb dX5_gainOf_17 (by decide) ?_
    exact W.iret (v := 0) hx hb hr (fun t ht hW => ⟨⟨0, (), rfl, ⟨Option.some.inj hG, trivial⟩, trivial⟩, hS.F ht⟩) hS.2.2 dX5_gainOf_18
  · replace hG := wq_f c4 hG
    refine lv_aload_n hx hb dX5_gainOf_8 rfl (lv_at hl 0 rfl) ?_
    refine va_get (D := (dC, dI)) (ci := 5) (v := .ref (qa 18)) (C := RX5) (T := TX5) (N := 6) hx hb hts hinX5 hown hK hP 0 rfl rfl 1 (by decide) k1 (fun _ h9 => h9) rfl dX5_gainOf_9 ?_
    refine lv_iload_n hx hb dX5_gainOf_12 rfl (lv_at hl 1 rfl) ?_
    obtain ⟨h5, hG⟩ := wq_chk_s hG
    refine wq_iald (D := (dC, dI)) hx hb hK hP 2 0 rfl rfl h5 (Int32.toNatClampNeg a1) rfl dX5_gainOf_13 ?_
    refine lv_goto (tgt := 18) hx hb dX5_gainOf_14 (by decide) ?_
    exact W.iret (v := (t_gains (Int32.toNatClampNeg a1))) hx hb hr (fun t ht hW => ⟨⟨(t_gains (Int32.toNatClampNeg a1)), (), rfl, ⟨Option.some.inj hG, trivial⟩, trivial⟩, hS.F ht⟩) hS.2.2 dX5_gainOf_18

theorem hdV_X6_goodbye : yX6_goodbye.cls = RX6 ∧ yX6_goodbye.cls ≠ "java/lang/invoke/MethodHandle" ∧ yX6_goodbye.cls ≠ "java/lang/invoke/VarHandle" ∧ (parseMethodDescriptor yX6_goodbye.desc).map (fun d => d.parameters.length) = some 2 := by decide +kernel
set_option maxHeartbeats 4000000 in
set_option maxRecDepth 100000 in
theorem C_X6_goodbye (l : Launch) (dC : Nat → ClassId) (dI : Nat → Nat → Nat) (cI cJ cZ : ClassId) (qa : Nat → Nat) (sz : Nat) (r_images : Nat → Int64) (r_asked : Int64) (t_tears : Nat → Int32) (t_gains : Nat → Int32) (t_likings : Nat → Int32) (t_settings : Nat → Int32) (t_goodbyes : Int32) (t_women : Int32) (a1 : Int32) (a2 : Int32) (r0 : Int32) (hG : gX6_goodbye t_tears t_gains t_goodbyes a1 a2 = some r0) : Met l yX6_goodbye wsX6_goodbye ({ frames := 2, cells := 0, slots := 0, locals := 42 } : Room) (va_Pc [.ref (qa 0), .int a1, .int a2] (wq_pp (dC, dI) [(cI, .int), (cJ, .long), (cZ, .boolean)] (wcRT qa cI cJ cZ r_images r_asked t_tears t_gains t_likings t_settings t_goodbyes t_women) sz)) (wq_Qi r0 wq_tr (va_A [] sz)) 0 0 (va_A [] sz) := by
  refine Met.ofW (cc := cX6_goodbye) (maxL := 3) (ret := (some .int)) (by decide) rfl ?_
  intro p e s m args below meth c s₁ B hml hv
  obtain ⟨rfl, hsz, hP, hK, hE⟩ := hv
  have hx := B.exec
  have hb := B.bytes
  have hr := B.returns
  have hts := atoms_spec (ws := wsX6_goodbye) B.pre
  have hown : s.vm.findClass RX6 = some m.cls := findClass_of_methodNamed B.named
  have hlocks := B.notSynchronized
  subst hsz
  generalize hAe : va_A [] s.heap.size = A at hE ⊢
  have hA : ∀ q : Nat, s.heap.size ≤ q → A q := fun q h => by rw [← hAe]; exact Or.inr h
  have hS : va_S A s.heap s.heap [] := va_S.rf
  have hinX6 : ∀ w ∈ u_ws RX6 TX6 9, w ∈ wsX6_goodbye := by decide +kernel
  have k1 := hts (.fieldLink RX6 53 "DoorMornings" "told" "LDoorMornings$Told;") (by decide +kernel)
  have hl := lv_entry ([.ref (qa 0), .int a1, .int a2]) (n := 3) (Nat.le_of_ble_eq_true rfl)
  rw [lg_entry_eq]
  generalize (lg_sl ([.ref (qa 0), .int a1, .int a2]) ++ List.replicate (3 - (lg_sl ([.ref (qa 0), .int a1, .int a2])).length) Slot.unset).toArray = ls at hl ⊢
  have hl : lv_has ls 3 [(0, .ref (qa 0)), (1, .int a1), (2, .int a2)] := hl
  unfold gX6_goodbye at hG
  refine lv_aload_n hx hb dX6_goodbye_0 rfl (lv_at hl 0 rfl) ?_
  refine va_get (D := (dC, dI)) (ci := 6) (v := .ref (qa 16)) (C := RX6) (T := TX6) (N := 9) hx hb hts hinX6 hown hK hP 0 rfl rfl 6 (by decide) k1 (fun _ h9 => h9) rfl dX6_goodbye_1 ?_
  refine lv_iload_n hx hb dX6_goodbye_4 rfl (lv_at hl 1 rfl) ?_
  obtain ⟨v2, g1, hG⟩ := wq_b1_s hG
  refine wq_ci (v := v2) (B := wq_Z1) (va_runV (As := [.int a1]) (rest := []) ⟨hx, hb, hml, hown, hts⟩ (C_X5_hasGoodbye l dC dI cI cJ cZ qa s.heap.size t_tears t_gains t_likings t_settings t_goodbyes t_women a1 v2 g1) (cwV 1 hts gX6_goodbye_X5_hasGoodbye rfl rfl rfl hdV_X5_hasGoodbye ⟨Nat.le_of_ble_eq_true rfl, Nat.le_of_ble_eq_true rfl⟩) (wq_ppV hK (hP.sub (ws' := wcT qa cI cJ cZ t_tears t_gains t_likings t_settings t_goodbyes t_women) [2, 3, 4, 5, 6] rfl) hE hS hA (ci := 5) (q0 := 0) rfl rfl) rfl rfl hl.1 rfl (lv_room (Nat.le_of_ble_eq_true rfl)) dX6_goodbye_5 ⟨Nat.zero_le _, Nat.zero_le _⟩) hS hA (fun H locs b3 hk hS => ?_)
  replace hP := wq_kp hP hk
  clear hk
  refine lv_if_ne (tgt := 13) hx hb dX6_goodbye_8 (by decide) (fun c4 => ?_) (fun c4 => ?_)
  · replace hG := wq_f c4 hG
    refine lv_iload_n hx hb dX6_goodbye_13 rfl (lv_at hl 2 rfl) ?_
    by_cases c5 : a2 = 0
    · replace hG := wq_t c5 hG
      refine lv_lookup (off := 26) (tgt := 40) hx hb dX6_goodbye_14 (by decide) (by rw [c5]; decide) (by decide) ?_
      refine lv_aload_n hx hb dX6_goodbye_40 rfl (lv_at hl 0 rfl) ?_
      refine va_get (D := (dC, dI)) (ci := 6) (v := .ref (qa 16)) (C := RX6) (T := TX6) (N := 9) hx hb hts hinX6 hown hK hP 0 rfl rfl 6 (by decide) k1 (fun _ h9 => h9) rfl dX6_goodbye_41 ?_
      refine lv_iload_n hx hb dX6_goodbye_44 rfl (lv_at hl 1 rfl) ?_
      obtain ⟨v7, g6, hG⟩ := wq_b1_s hG
      refine wq_ci (v := v7) (B := wq_tr) (va_runV (As := [.int a1]) (rest := []) ⟨hx, hb, hml, hown, hts⟩ (C_X5_tearsOf l dC dI cI cJ cZ qa H.size t_tears t_gains t_likings t_settings t_goodbyes t_women a1 v7 g6) (cwV 1 hts gX6_goodbye_X5_tearsOf rfl rfl rfl hdV_X5_tearsOf ⟨Nat.le_of_ble_eq_true rfl, Nat.le_of_ble_eq_true rfl⟩) (wq_ppV hK (hP.sub (ws' := wcT qa cI cJ cZ t_tears t_gains t_likings t_settings t_goodbyes t_women) [2, 3, 4, 5, 6] rfl) hE hS hA (ci := 5) (q0 := 0) rfl rfl) rfl rfl hl.1 rfl (lv_room (Nat.le_of_ble_eq_true rfl)) dX6_goodbye_45 ⟨Nat.zero_le _, Nat.zero_le _⟩) hS hA (fun H locs b8 hk hS => ?_)
      replace hP := wq_kp hP hk
      clear hk
      exact W.iret (v := v7) hx hb hr (fun t ht hW => ⟨⟨v7, (), rfl, ⟨Option.some.inj hG, trivial⟩, trivial⟩, hS.F ht⟩) hS.2.2 dX6_goodbye_48
    · replace hG := wq_f c5 hG
      by_cases c9 : a2 = 1
      · replace hG := wq_t c9 hG
        refine lv_lookup (off := 35) (tgt := 49) hx hb dX6_goodbye_14 (by decide) (by rw [c9]; decide) (by decide) ?_
        refine lv_aload_n hx hb dX6_goodbye_49 rfl (lv_at hl 0 rfl) ?_
        refine va_get (D := (dC, dI)) (ci := 6) (v := .ref (qa 16)) (C := RX6) (T := TX6) (N := 9) hx hb hts hinX6 hown hK hP 0 rfl rfl 6 (by decide) k1 (fun _ h9 => h9) rfl dX6_goodbye_50 ?_
        refine lv_iload_n hx hb dX6_goodbye_53 rfl (lv_at hl 1 rfl) ?_
        obtain ⟨v11, g10, hG⟩ := wq_b1_s hG
        refine wq_ci (v := v11) (B := wq_tr) (va_runV (As := [.int a1]) (rest := []) ⟨hx, hb, hml, hown, hts⟩ (C_X5_gainOf l dC dI cI cJ cZ qa H.size t_tears t_gains t_likings t_settings t_goodbyes t_women a1 v11 g10) (cwV 1 hts gX6_goodbye_X5_gainOf rfl rfl rfl hdV_X5_gainOf ⟨Nat.le_of_ble_eq_true rfl, Nat.le_of_ble_eq_true rfl⟩) (wq_ppV hK (hP.sub (ws' := wcT qa cI cJ cZ t_tears t_gains t_likings t_settings t_goodbyes t_women) [2, 3, 4, 5, 6] rfl) hE hS hA (ci := 5) (q0 := 0) rfl rfl) rfl rfl hl.1 rfl (lv_room (Nat.le_of_ble_eq_true rfl)) dX6_goodbye_54 ⟨Nat.zero_le _, Nat.zero_le _⟩) hS hA (fun H locs b12 hk hS => ?_)
        replace hP := wq_kp hP hk
        clear hk
        exact W.iret (v := v11) hx hb hr (fun t ht hW => ⟨⟨v11, (), rfl, ⟨Option.some.inj hG, trivial⟩, trivial⟩, hS.F ht⟩) hS.2.2 dX6_goodbye_57
      · replace hG := wq_f c9 hG
        refine lv_lookup (off := 44) (tgt := 58) hx hb dX6_goodbye_14 (by decide) ((lv_osw c5 (by decide)).trans ((lv_osw c9 (by decide)).trans rfl)) (by decide) ?_
        refine lv_iconst (v := (-1)) hx hb dX6_goodbye_58 (by decide) ?_
        exact W.iret (v := (-1)) hx hb hr (fun t ht hW => ⟨⟨(-1), (), rfl, ⟨Option.some.inj hG, trivial⟩, trivial⟩, hS.F ht⟩) hS.2.2 dX6_goodbye_59
  · replace hG := wq_t c4 hG
    refine lv_iconst (v := (-1)) hx hb dX6_goodbye_11 (by decide) ?_
    exact W.iret (v := (-1)) hx hb hr (fun t ht hW => ⟨⟨(-1), (), rfl, ⟨Option.some.inj hG, trivial⟩, trivial⟩, hS.F ht⟩) hS.2.2 dX6_goodbye_12

theorem hdV_X0_likingOf : yX0_likingOf.cls = RX0 ∧ yX0_likingOf.cls ≠ "java/lang/invoke/MethodHandle" ∧ yX0_likingOf.cls ≠ "java/lang/invoke/VarHandle" ∧ (parseMethodDescriptor yX0_likingOf.desc).map (fun d => d.parameters.length) = some 1 := by decide +kernel
set_option maxHeartbeats 4000000 in
set_option maxRecDepth 100000 in
theorem C_X0_likingOf (l : Launch) (dC : Nat → ClassId) (dI : Nat → Nat → Nat) (cI cJ cZ : ClassId) (qa : Nat → Nat) (sz : Nat) (n_likings : Nat → Int32) (n_day : Int32) (n_trust : Int32) (n_ill : Int32) (n_done : Int32) (a1 : Int32) (r0 : Int32) (hG : gX0_likingOf n_likings a1 = some r0) : Met l yX0_likingOf wsX0_likingOf ({ frames := 0, cells := 0, slots := 0, locals := 0 } : Room) (va_Pc [.ref (qa 3), .int a1] (wq_pp (dC, dI) [(cI, .int), (cJ, .long), (cZ, .boolean)] (wcN qa cI cJ cZ n_likings n_day n_trust n_ill n_done) sz)) (wq_Qi r0 wq_tr (va_A [] sz)) 0 0 (va_A [] sz) := by
  refine Met.ofW (cc := cX0_likingOf) (maxL := 2) (ret := (some .int)) (by decide) rfl ?_
  intro p e s m args below meth c s₁ B hml hv
  obtain ⟨rfl, hsz, hP, hK, hE⟩ := hv
  have hx := B.exec
  have hb := B.bytes
  have hr := B.returns
  have hts := atoms_spec (ws := wsX0_likingOf) B.pre
  have hown : s.vm.findClass RX0 = some m.cls := findClass_of_methodNamed B.named
  have hlocks := B.notSynchronized
  subst hsz
  generalize hAe : va_A [] s.heap.size = A at hE ⊢
  have hA : ∀ q : Nat, s.heap.size ≤ q → A q := fun q h => by rw [← hAe]; exact Or.inr h
  have hS : va_S A s.heap s.heap [] := va_S.rf
  have hinX0 : ∀ w ∈ u_ws RX0 TX0 5, w ∈ wsX0_likingOf := by decide +kernel
  have k1 := hts (.fieldLink RX0 9 "DoorMornings$Now" "likings" "[I") (by decide +kernel)
  have hl := lv_entry ([.ref (qa 3), .int a1]) (n := 2) (Nat.le_of_ble_eq_true rfl)
  rw [lg_entry_eq]
  generalize (lg_sl ([.ref (qa 3), .int a1]) ++ List.replicate (2 - (lg_sl ([.ref (qa 3), .int a1])).length) Slot.unset).toArray = ls at hl ⊢
  have hl : lv_has ls 2 [(0, .ref (qa 3)), (1, .int a1)] := hl
  unfold gX0_likingOf at hG
  refine lv_iload_n hx hb dX0_likingOf_0 rfl (lv_at hl 1 rfl) ?_
  refine lv_if_lt (tgt := 18) hx hb dX0_likingOf_1 (by decide) (fun c1 => ?_) (fun c1 => ?_)
  · replace hG := wq_t c1 hG
    refine lv_iconst (v := 0) hx hb dX0_likingOf_18 (by decide) ?_
    exact W.iret (v := 0) hx hb hr (fun t ht hW => ⟨⟨0, (), rfl, ⟨Option.some.inj hG, trivial⟩, trivial⟩, hS.F ht⟩) hS.2.2 dX0_likingOf_19
  · replace hG := wq_f c1 hG
    refine lv_iload_n hx hb dX0_likingOf_4 rfl (lv_at hl 1 rfl) ?_
    refine lv_iconst (v := 4) hx hb dX0_likingOf_5 (by decide) ?_
    refine lv_icmp_ge (tgt := 18) hx hb dX0_likingOf_6 (by decide) (fun c2 => ?_) (fun c2 => ?_)
    · replace hG := wq_t c2 hG
      refine lv_iconst (v := 0) hx hb dX0_likingOf_18 (by decide) ?_
      exact W.iret (v := 0) hx hb hr (fun t ht hW => ⟨⟨0, (), rfl, ⟨Option.some.inj hG, trivial⟩, trivial⟩, hS.F ht⟩) hS.2.2 dX0_likingOf_19
    · replace hG := wq_f c2 hG
      refine lv_aload_n hx hb dX0_likingOf_9 rfl (lv_at hl 0 rfl) ?_
      refine va_get (D := (dC, dI)) (ci := 0) (v := .ref (qa 4)) (C := RX0) (T := TX0) (N := 5) hx hb hts hinX0 hown hK hP 0 rfl rfl 0 (by decide) k1 (fun _ h9 => h9) rfl dX0_likingOf_10 ?_
      refine lv_iload_n hx hb dX0_likingOf_13 rfl (lv_at hl 1 rfl) ?_
      obtain ⟨h3, hG⟩ := wq_chk_s hG
      refine wq_iald (D := (dC, dI)) hx hb hK hP 1 0 rfl rfl h3 (Int32.toNatClampNeg a1) rfl dX0_likingOf_14 ?_
      refine lv_goto (tgt := 19) hx hb dX0_likingOf_15 (by decide) ?_
      exact W.iret (v := (n_likings (Int32.toNatClampNeg a1))) hx hb hr (fun t ht hW => ⟨⟨(n_likings (Int32.toNatClampNeg a1)), (), rfl, ⟨Option.some.inj hG, trivial⟩, trivial⟩, hS.F ht⟩) hS.2.2 dX0_likingOf_19

theorem hdV_X0_isIll : yX0_isIll.cls = RX0 ∧ yX0_isIll.cls ≠ "java/lang/invoke/MethodHandle" ∧ yX0_isIll.cls ≠ "java/lang/invoke/VarHandle" ∧ (parseMethodDescriptor yX0_isIll.desc).map (fun d => d.parameters.length) = some 1 := by decide +kernel
set_option maxHeartbeats 4000000 in
set_option maxRecDepth 100000 in
theorem C_X0_isIll (l : Launch) (dC : Nat → ClassId) (dI : Nat → Nat → Nat) (cI cJ cZ : ClassId) (qa : Nat → Nat) (sz : Nat) (n_likings : Nat → Int32) (n_day : Int32) (n_trust : Int32) (n_ill : Int32) (n_done : Int32) (a1 : Int32) (r0 : Int32) (hG : gX0_isIll n_ill a1 = some r0) : Met l yX0_isIll wsX0_isIll ({ frames := 0, cells := 0, slots := 0, locals := 0 } : Room) (va_Pc [.ref (qa 3), .int a1] (wq_pp (dC, dI) [(cI, .int), (cJ, .long), (cZ, .boolean)] (wcN qa cI cJ cZ n_likings n_day n_trust n_ill n_done) sz)) (wq_Qi r0 wq_Z1 (va_A [] sz)) 0 0 (va_A [] sz) := by
  refine Met.ofW (cc := cX0_isIll) (maxL := 2) (ret := (some .boolean)) (by decide) rfl ?_
  intro p e s m args below meth c s₁ B hml hv
  obtain ⟨rfl, hsz, hP, hK, hE⟩ := hv
  have hx := B.exec
  have hb := B.bytes
  have hr := B.returns
  have hts := atoms_spec (ws := wsX0_isIll) B.pre
  have hown : s.vm.findClass RX0 = some m.cls := findClass_of_methodNamed B.named
  have hlocks := B.notSynchronized
  subst hsz
  generalize hAe : va_A [] s.heap.size = A at hE ⊢
  have hA : ∀ q : Nat, s.heap.size ≤ q → A q := fun q h => by rw [← hAe]; exact Or.inr h
  have hS : va_S A s.heap s.heap [] := va_S.rf
  have hinX0 : ∀ w ∈ u_ws RX0 TX0 5, w ∈ wsX0_isIll := by decide +kernel
  have k1 := hts (.fieldLink RX0 22 "DoorMornings$Now" "ill" "I") (by decide +kernel)
  have hl := lv_entry ([.ref (qa 3), .int a1]) (n := 2) (Nat.le_of_ble_eq_true rfl)
  rw [lg_entry_eq]
  generalize (lg_sl ([.ref (qa 3), .int a1]) ++ List.replicate (2 - (lg_sl ([.ref (qa 3), .int a1])).length) Slot.unset).toArray = ls at hl ⊢
  have hl : lv_has ls 2 [(0, .ref (qa 3)), (1, .int a1)] := hl
  unfold gX0_isIll at hG
  refine lv_aload_n hx hb dX0_isIll_0 rfl (lv_at hl 0 rfl) ?_
  refine va_get (D := (dC, dI)) (ci := 0) (v := .int n_ill) (C := RX0) (T := TX0) (N := 5) hx hb hts hinX0 hown hK hP 0 rfl rfl 3 (by decide) k1 (fun _ h9 => h9) rfl dX0_isIll_1 ?_
  refine lv_iload_n hx hb dX0_isIll_4 rfl (lv_at hl 1 rfl) ?_
  refine lv_ishr hx hb dX0_isIll_5 ?_
  refine lv_iconst (v := 1) hx hb dX0_isIll_6 (by decide) ?_
  refine lv_iand hx hb dX0_isIll_7 ?_
  refine lv_iconst (v := 1) hx hb dX0_isIll_8 (by decide) ?_
  refine lv_icmp_ne (tgt := 16) hx hb dX0_isIll_9 (by decide) (fun c1 => ?_) (fun c1 => ?_)
  · replace hG := wq_f c1 hG
    refine lv_iconst (v := 0) hx hb dX0_isIll_16 (by decide) ?_
    exact W.zret (v := 0) hx hb hr (wq_Z1_n (Or.inl rfl)) (fun t ht hW => ⟨⟨0, (), rfl, ⟨Option.some.inj hG, (Or.inl rfl)⟩, trivial⟩, hS.F ht⟩) hS.2.2 dX0_isIll_17
  · replace hG := wq_t c1 hG
    refine lv_iconst (v := 1) hx hb dX0_isIll_12 (by decide) ?_
    refine lv_goto (tgt := 17) hx hb dX0_isIll_13 (by decide) ?_
    exact W.zret (v := 1) hx hb hr (wq_Z1_n (Or.inr rfl)) (fun t ht hW => ⟨⟨1, (), rfl, ⟨Option.some.inj hG, (Or.inr rfl)⟩, trivial⟩, hS.F ht⟩) hS.2.2 dX0_isIll_17

theorem hdV_X5_setting : yX5_setting.cls = RX5 ∧ yX5_setting.cls ≠ "java/lang/invoke/MethodHandle" ∧ yX5_setting.cls ≠ "java/lang/invoke/VarHandle" ∧ (parseMethodDescriptor yX5_setting.desc).map (fun d => d.parameters.length) = some 1 := by decide +kernel
set_option maxHeartbeats 4000000 in
set_option maxRecDepth 100000 in
theorem C_X5_setting (l : Launch) (dC : Nat → ClassId) (dI : Nat → Nat → Nat) (cI cJ cZ : ClassId) (qa : Nat → Nat) (sz : Nat) (t_tears : Nat → Int32) (t_gains : Nat → Int32) (t_likings : Nat → Int32) (t_settings : Nat → Int32) (t_goodbyes : Int32) (t_women : Int32) (a1 : Int32) (r0 : Int32) (hG : gX5_setting t_settings a1 = some r0) : Met l yX5_setting wsX5_setting ({ frames := 0, cells := 0, slots := 0, locals := 0 } : Room) (va_Pc [.ref (qa 16), .int a1] (wq_pp (dC, dI) [(cI, .int), (cJ, .long), (cZ, .boolean)] (wcT qa cI cJ cZ t_tears t_gains t_likings t_settings t_goodbyes t_women) sz)) (wq_Qi r0 wq_tr (va_A [] sz)) 0 0 (va_A [] sz) := by
  refine Met.ofW (cc := cX5_setting) (maxL := 2) (ret := (some .int)) (by decide) rfl ?_
  intro p e s m args below meth c s₁ B hml hv
  obtain ⟨rfl, hsz, hP, hK, hE⟩ := hv
  have hx := B.exec
  have hb := B.bytes
  have hr := B.returns
  have hts := atoms_spec (ws := wsX5_setting) B.pre
  have hown : s.vm.findClass RX5 = some m.cls := findClass_of_methodNamed B.named
  have hlocks := B.notSynchronized
  subst hsz
  generalize hAe : va_A [] s.heap.size = A at hE ⊢
  have hA : ∀ q : Nat, s.heap.size ≤ q → A q := fun q h => by rw [← hAe]; exact Or.inr h
  have hS : va_S A s.heap s.heap [] := va_S.rf
  have hinX5 : ∀ w ∈ u_ws RX5 TX5 6, w ∈ wsX5_setting := by decide +kernel
  have k1 := hts (.fieldLink RX5 29 "DoorMornings$Told" "settings" "[I") (by decide +kernel)
  have hl := lv_entry ([.ref (qa 16), .int a1]) (n := 2) (Nat.le_of_ble_eq_true rfl)
  rw [lg_entry_eq]
  generalize (lg_sl ([.ref (qa 16), .int a1]) ++ List.replicate (2 - (lg_sl ([.ref (qa 16), .int a1])).length) Slot.unset).toArray = ls at hl ⊢
  have hl : lv_has ls 2 [(0, .ref (qa 16)), (1, .int a1)] := hl
  unfold gX5_setting at hG
  refine lv_iload_n hx hb dX5_setting_0 rfl (lv_at hl 1 rfl) ?_
  refine lv_if_lt (tgt := 18) hx hb dX5_setting_1 (by decide) (fun c1 => ?_) (fun c1 => ?_)
  · replace hG := wq_t c1 hG
    refine lv_iconst (v := 0) hx hb dX5_setting_18 (by decide) ?_
    exact W.iret (v := 0) hx hb hr (fun t ht hW => ⟨⟨0, (), rfl, ⟨Option.some.inj hG, trivial⟩, trivial⟩, hS.F ht⟩) hS.2.2 dX5_setting_19
  · replace hG := wq_f c1 hG
    refine lv_iload_n hx hb dX5_setting_4 rfl (lv_at hl 1 rfl) ?_
    refine lv_iconst (v := 4) hx hb dX5_setting_5 (by decide) ?_
    refine lv_icmp_ge (tgt := 18) hx hb dX5_setting_6 (by decide) (fun c2 => ?_) (fun c2 => ?_)
    · replace hG := wq_t c2 hG
      refine lv_iconst (v := 0) hx hb dX5_setting_18 (by decide) ?_
      exact W.iret (v := 0) hx hb hr (fun t ht hW => ⟨⟨0, (), rfl, ⟨Option.some.inj hG, trivial⟩, trivial⟩, hS.F ht⟩) hS.2.2 dX5_setting_19
    · replace hG := wq_f c2 hG
      refine lv_aload_n hx hb dX5_setting_9 rfl (lv_at hl 0 rfl) ?_
      refine va_get (D := (dC, dI)) (ci := 5) (v := .ref (qa 20)) (C := RX5) (T := TX5) (N := 6) hx hb hts hinX5 hown hK hP 0 rfl rfl 3 (by decide) k1 (fun _ h9 => h9) rfl dX5_setting_10 ?_
      refine lv_iload_n hx hb dX5_setting_13 rfl (lv_at hl 1 rfl) ?_
      obtain ⟨h3, hG⟩ := wq_chk_s hG
      refine wq_iald (D := (dC, dI)) hx hb hK hP 4 0 rfl rfl h3 (Int32.toNatClampNeg a1) rfl dX5_setting_14 ?_
      refine lv_goto (tgt := 19) hx hb dX5_setting_15 (by decide) ?_
      exact W.iret (v := (t_settings (Int32.toNatClampNeg a1))) hx hb hr (fun t ht hW => ⟨⟨(t_settings (Int32.toNatClampNeg a1)), (), rfl, ⟨Option.some.inj hG, trivial⟩, trivial⟩, hS.F ht⟩) hS.2.2 dX5_setting_19

theorem hdS_X6_quotient : yX6_quotient.cls ≠ "java/lang/invoke/MethodHandle" ∧ yX6_quotient.cls ≠ "java/lang/invoke/VarHandle" ∧ (parseMethodDescriptor yX6_quotient.desc).map (fun d => d.parameters.length) = some 2 := by decide +kernel
set_option maxHeartbeats 4000000 in
set_option maxRecDepth 100000 in
theorem C_X6_quotient (l : Launch) (dC : Nat → ClassId) (dI : Nat → Nat → Nat) (cI cJ cZ : ClassId) (qa : Nat → Nat) (sz : Nat) (a0 : Int32) (a1 : Int32) (r0 : Int32) (hG : gX6_quotient a0 a1 = some r0) : Met l yX6_quotient wsX6_quotient ({ frames := 0, cells := 0, slots := 0, locals := 0 } : Room) (va_Pc [.int a0, .int a1] (wq_pp (dC, dI) [(cI, .int), (cJ, .long), (cZ, .boolean)] ([]) sz)) (wq_Qi r0 wq_tr (va_A [] sz)) 0 0 (va_A [] sz) := by
  refine Met.ofW (cc := cX6_quotient) (maxL := 2) (ret := (some .int)) (by decide) rfl ?_
  intro p e s m args below meth c s₁ B hml hv
  obtain ⟨rfl, hsz, hP, hK, hE⟩ := hv
  have hx := B.exec
  have hb := B.bytes
  have hr := B.returns
  have hts := atoms_spec (ws := wsX6_quotient) B.pre
  have hown : s.vm.findClass RX6 = some m.cls := findClass_of_methodNamed B.named
  have hlocks := B.notSynchronized
  subst hsz
  generalize hAe : va_A [] s.heap.size = A at hE ⊢
  have hA : ∀ q : Nat, s.heap.size ≤ q → A q := fun q h => by rw [← hAe]; exact Or.inr h
  have hS : va_S A s.heap s.heap [] := va_S.rf
  have hl := lv_entry ([.int a0, .int a1]) (n := 2) (Nat.le_of_ble_eq_true rfl)
  rw [lg_entry_eq]
  generalize (lg_sl ([.int a0, .int a1]) ++ List.replicate (2 - (lg_sl ([.int a0, .int a1])).length) Slot.unset).toArray = ls at hl ⊢
  have hl : lv_has ls 2 [(0, .int a0), (1, .int a1)] := hl
  unfold gX6_quotient at hG
  refine lv_iload_n hx hb dX6_quotient_0 rfl (lv_at hl 1 rfl) ?_
  refine lv_iconst (v := 1) hx hb dX6_quotient_1 (by decide) ?_
  refine lv_icmp_ge (tgt := 9) hx hb dX6_quotient_2 (by decide) (fun c1 => ?_) (fun c1 => ?_)
  · replace hG := wq_t c1 hG
    refine lv_iload_n hx hb dX6_quotient_9 rfl (lv_at hl 0 rfl) ?_
    refine lv_iload_n hx hb dX6_quotient_10 rfl (lv_at hl 1 rfl) ?_
    obtain ⟨z2, hG⟩ := wq_nz_s hG
    refine lv_idiv hx hb dX6_quotient_11 z2 ?_
    exact W.iret (v := (a0 / a1)) hx hb hr (fun t ht hW => ⟨⟨(a0 / a1), (), rfl, ⟨Option.some.inj hG, trivial⟩, trivial⟩, hS.F ht⟩) hS.2.2 dX6_quotient_12
  · replace hG := wq_f c1 hG
    refine lv_iconst (v := 0) hx hb dX6_quotient_5 (by decide) ?_
    refine lv_goto (tgt := 12) hx hb dX6_quotient_6 (by decide) ?_
    exact W.iret (v := 0) hx hb hr (fun t ht hW => ⟨⟨0, (), rfl, ⟨Option.some.inj hG, trivial⟩, trivial⟩, hS.F ht⟩) hS.2.2 dX6_quotient_12

