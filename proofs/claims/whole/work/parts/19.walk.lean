theorem hdV_X3_add : yX3_add.cls = RX3 ∧ yX3_add.cls ≠ "java/lang/invoke/MethodHandle" ∧ yX3_add.cls ≠ "java/lang/invoke/VarHandle" ∧ (parseMethodDescriptor yX3_add.desc).map (fun d => d.parameters.length) = some 3 := by decide +kernel
set_option maxHeartbeats 4000000 in
set_option maxRecDepth 100000 in
theorem C_X3_add (l : Launch) (dC : Nat → ClassId) (dI : Nat → Nat → Nat) (cI cJ cZ : ClassId) (qa : Nat → Nat) (sz : Nat) (h_tll : Nat → Int32) (h_beyond : Nat → Int32) (h_minutes : Nat → Int32) (h_size : Int32) (a1 : Int32) (a2 : Int32) (a3 : Int32) (r0 : Int32) (r_h_tll : Nat → Int32) (r_h_beyond : Nat → Int32) (r_h_minutes : Nat → Int32) (r_h_size : Int32) (hG : gX3_add h_tll h_beyond h_minutes h_size a1 a2 a3 = some (r0, r_h_tll, r_h_beyond, r_h_minutes, r_h_size)) : Met l yX3_add wsX3_add ({ frames := 0, cells := 0, slots := 0, locals := 0 } : Room) (va_Pc [.ref (qa 7), .int a1, .int a2, .int a3] (wq_pw (dC, dI) [(cI, .int), (cJ, .long), (cZ, .boolean)] (wcS qa cI cJ cZ h_tll h_beyond h_minutes h_size) sz)) (wq_Wi (dC, dI) r0 wq_tr (wcS qa cI cJ cZ r_h_tll r_h_beyond r_h_minutes r_h_size) (va_A (wcS qa cI cJ cZ h_tll h_beyond h_minutes h_size) sz)) 0 0 (va_A (wcS qa cI cJ cZ h_tll h_beyond h_minutes h_size) sz) := by
  refine Met.ofW (cc := cX3_add) (maxL := 4) (ret := (some .int)) (by decide) rfl ?_
  intro p e s m args below meth c s₁ B hml hv
  obtain ⟨rfl, hsz, hP, hK, hD0, hE⟩ := hv
  have hx := B.exec
  have hb := B.bytes
  have hr := B.returns
  have hts := atoms_spec (ws := wsX3_add) B.pre
  have hown : s.vm.findClass RX3 = some m.cls := findClass_of_methodNamed B.named
  have hlocks := B.notSynchronized
  subst hsz
  have hD := hD0.self (sz := s.heap.size)
  generalize hAe : va_A (wcS qa cI cJ cZ h_tll h_beyond h_minutes h_size) s.heap.size = A at hD hE ⊢
  have hA : ∀ q : Nat, s.heap.size ≤ q → A q := fun q h => by rw [← hAe]; exact Or.inr h
  have hS : va_S A s.heap s.heap [] := va_S.rf
  have hinX3 : ∀ w ∈ u_ws RX3 TX3 4, w ∈ wsX3_add := by decide +kernel
  have k1 := hts (.fieldLink RX3 21 "DoorMornings$Shown" "size" "I") (by decide +kernel)
  have k2 := hts (.fieldLink RX3 9 "DoorMornings$Shown" "tearsLessLiking" "[I") (by decide +kernel)
  have k3 := hts (.fieldLink RX3 15 "DoorMornings$Shown" "beyond" "[I") (by decide +kernel)
  have k4 := hts (.fieldLink RX3 18 "DoorMornings$Shown" "minutes" "[I") (by decide +kernel)
  have hl := lv_entry ([.ref (qa 7), .int a1, .int a2, .int a3]) (n := 4) (Nat.le_of_ble_eq_true rfl)
  rw [lg_entry_eq]
  generalize (lg_sl ([.ref (qa 7), .int a1, .int a2, .int a3]) ++ List.replicate (4 - (lg_sl ([.ref (qa 7), .int a1, .int a2, .int a3])).length) Slot.unset).toArray = ls at hl ⊢
  have hl : lv_has ls 4 [(0, .ref (qa 7)), (1, .int a1), (2, .int a2), (3, .int a3)] := hl
  unfold gX3_add at hG
  refine lv_aload_n hx hb dX3_add_0 rfl (lv_at hl 0 rfl) ?_
  refine va_get (D := (dC, dI)) (ci := 3) (v := .int h_size) (C := RX3) (T := TX3) (N := 4) hx hb hts hinX3 hown hK hP 0 rfl rfl 3 (by decide) k1 (fun _ h9 => h9) rfl dX3_add_1 ?_
  refine lv_if_lt (tgt := 16) hx hb dX3_add_4 (by decide) (fun c1 => ?_) (fun c1 => ?_)
  · replace hG := wq_t c1 hG
    refine lv_bipush (v := (-3)) hx hb dX3_add_16 (by decide) ?_
    obtain ⟨e0, e1, e2, e3, e4⟩ := wq_j5 hG
    subst e0
    subst e1
    subst e2
    subst e3
    subst e4
    exact W.iret hx hb hr (fun t ht hW => ⟨⟨_, (), rfl, ⟨rfl, trivial⟩, by rw [ht]; exact hP, hD⟩, hS.F ht⟩) hS.2.2 dX3_add_18
  · replace hG := wq_f c1 hG
    refine lv_aload_n hx hb dX3_add_7 rfl (lv_at hl 0 rfl) ?_
    refine va_get (D := (dC, dI)) (ci := 3) (v := .int h_size) (C := RX3) (T := TX3) (N := 4) hx hb hts hinX3 hown hK hP 0 rfl rfl 3 (by decide) k1 (fun _ h9 => h9) rfl dX3_add_8 ?_
    refine lv_bipush (v := 6) hx hb dX3_add_11 (by decide) ?_
    refine lv_icmp_lt (tgt := 19) hx hb dX3_add_13 (by decide) (fun c2 => ?_) (fun c2 => ?_)
    · replace hG := wq_t c2 hG
      refine lv_aload_n hx hb dX3_add_19 rfl (lv_at hl 0 rfl) ?_
      refine va_get (D := (dC, dI)) (ci := 3) (v := .ref (qa 8)) (C := RX3) (T := TX3) (N := 4) hx hb hts hinX3 hown hK hP 0 rfl rfl 0 (by decide) k2 (fun _ h9 => h9) rfl dX3_add_20 ?_
      refine lv_aload_n hx hb dX3_add_23 rfl (lv_at hl 0 rfl) ?_
      refine va_get (D := (dC, dI)) (ci := 3) (v := .int h_size) (C := RX3) (T := TX3) (N := 4) hx hb hts hinX3 hown hK hP 0 rfl rfl 3 (by decide) k1 (fun _ h9 => h9) rfl dX3_add_24 ?_
      refine lv_iload_n hx hb dX3_add_27 rfl (lv_at hl 1 rfl) ?_
      obtain ⟨h3, hG⟩ := wq_chk_s hG
      refine wq_iast (D := (dC, dI)) hx hb hK hP hD hS 1 0 rfl rfl h3 (Int32.toNatClampNeg h_size) rfl (wcS qa cI cJ cZ (upd h_tll (Int32.toNatClampNeg h_size) a1) h_beyond h_minutes h_size) rfl dX3_add_28 (fun H locs hP hD hS => ?_)
      refine lv_aload_n hx hb dX3_add_29 rfl (lv_at hl 0 rfl) ?_
      refine va_get (D := (dC, dI)) (ci := 3) (v := .ref (qa 9)) (C := RX3) (T := TX3) (N := 4) hx hb hts hinX3 hown hK hP 0 rfl rfl 1 (by decide) k3 (fun _ h9 => h9) rfl dX3_add_30 ?_
      refine lv_aload_n hx hb dX3_add_33 rfl (lv_at hl 0 rfl) ?_
      refine va_get (D := (dC, dI)) (ci := 3) (v := .int h_size) (C := RX3) (T := TX3) (N := 4) hx hb hts hinX3 hown hK hP 0 rfl rfl 3 (by decide) k1 (fun _ h9 => h9) rfl dX3_add_34 ?_
      refine lv_iload_n hx hb dX3_add_37 rfl (lv_at hl 2 rfl) ?_
      refine wq_iast (D := (dC, dI)) hx hb hK hP hD hS 2 0 rfl rfl h3 (Int32.toNatClampNeg h_size) rfl (wcS qa cI cJ cZ (upd h_tll (Int32.toNatClampNeg h_size) a1) (upd h_beyond (Int32.toNatClampNeg h_size) a2) h_minutes h_size) rfl dX3_add_38 (fun H locs hP hD hS => ?_)
      refine lv_aload_n hx hb dX3_add_39 rfl (lv_at hl 0 rfl) ?_
      refine va_get (D := (dC, dI)) (ci := 3) (v := .ref (qa 10)) (C := RX3) (T := TX3) (N := 4) hx hb hts hinX3 hown hK hP 0 rfl rfl 2 (by decide) k4 (fun _ h9 => h9) rfl dX3_add_40 ?_
      refine lv_aload_n hx hb dX3_add_43 rfl (lv_at hl 0 rfl) ?_
      refine va_get (D := (dC, dI)) (ci := 3) (v := .int h_size) (C := RX3) (T := TX3) (N := 4) hx hb hts hinX3 hown hK hP 0 rfl rfl 3 (by decide) k1 (fun _ h9 => h9) rfl dX3_add_44 ?_
      refine lv_iload_n hx hb dX3_add_47 rfl (lv_at hl 3 rfl) ?_
      refine wq_iast (D := (dC, dI)) hx hb hK hP hD hS 3 0 rfl rfl h3 (Int32.toNatClampNeg h_size) rfl (wcS qa cI cJ cZ (upd h_tll (Int32.toNatClampNeg h_size) a1) (upd h_beyond (Int32.toNatClampNeg h_size) a2) (upd h_minutes (Int32.toNatClampNeg h_size) a3) h_size) rfl dX3_add_48 (fun H locs hP hD hS => ?_)
      refine lv_aload_n hx hb dX3_add_49 rfl (lv_at hl 0 rfl) ?_
      refine lv_dup hx hb dX3_add_50 rfl ?_
      refine va_get (D := (dC, dI)) (ci := 3) (v := .int h_size) (C := RX3) (T := TX3) (N := 4) hx hb hts hinX3 hown hK hP 0 rfl rfl 3 (by decide) k1 (fun _ h9 => h9) rfl dX3_add_51 ?_
      refine lv_iconst (v := 1) hx hb dX3_add_54 (by decide) ?_
      refine lv_iadd hx hb dX3_add_55 ?_
      refine va_put (D := (dC, dI)) (ci := 3) (v := .int (h_size + 1)) (ty := tyX3 3) (C := RX3) (T := TX3) (N := 4) hx hb hts hinX3 tyX3 tyX3_ok nmX3 hown hK hP hD hS 0 rfl rfl 3 (by decide) k1 (fun _ h9 => h9) rfl (tyX3_ok 3 (by decide)) rfl rfl (Nat.le_of_ble_eq_true rfl) dX3_add_56 (fun H locs hP hD hS => ?_)
      replace hP : va_P (dC, dI) vwCl (wcS qa cI cJ cZ (upd h_tll (Int32.toNatClampNeg h_size) a1) (upd h_beyond (Int32.toNatClampNeg h_size) a2) (upd h_minutes (Int32.toNatClampNeg h_size) a3) (h_size + 1)) H := hP
      replace hD : va_D A (wcS qa cI cJ cZ (upd h_tll (Int32.toNatClampNeg h_size) a1) (upd h_beyond (Int32.toNatClampNeg h_size) a2) (upd h_minutes (Int32.toNatClampNeg h_size) a3) (h_size + 1)) := hD
      refine lv_aload_n hx hb dX3_add_59 rfl (lv_at hl 0 rfl) ?_
      refine va_get (D := (dC, dI)) (ci := 3) (v := .int (h_size + 1)) (C := RX3) (T := TX3) (N := 4) hx hb hts hinX3 hown hK hP 0 rfl rfl 3 (by decide) k1 (fun _ h9 => h9) rfl dX3_add_60 ?_
      obtain ⟨e0, e1, e2, e3, e4⟩ := wq_j5 hG
      subst e0
      subst e1
      subst e2
      subst e3
      subst e4
      exact W.iret hx hb hr (fun t ht hW => ⟨⟨_, (), rfl, ⟨rfl, trivial⟩, by rw [ht]; exact hP, hD⟩, hS.F ht⟩) hS.2.2 dX3_add_63
    · replace hG := wq_f c2 hG
      refine lv_bipush (v := (-3)) hx hb dX3_add_16 (by decide) ?_
      obtain ⟨e0, e1, e2, e3, e4⟩ := wq_j5 hG
      subst e0
      subst e1
      subst e2
      subst e3
      subst e4
      exact W.iret hx hb hr (fun t ht hW => ⟨⟨_, (), rfl, ⟨rfl, trivial⟩, by rw [ht]; exact hP, hD⟩, hS.F ht⟩) hS.2.2 dX3_add_18

theorem hdV_X6_shows : yX6_shows.cls = RX6 ∧ yX6_shows.cls ≠ "java/lang/invoke/MethodHandle" ∧ yX6_shows.cls ≠ "java/lang/invoke/VarHandle" ∧ (parseMethodDescriptor yX6_shows.desc).map (fun d => d.parameters.length) = some 5 := by decide +kernel
set_option maxHeartbeats 4000000 in
set_option maxRecDepth 100000 in
theorem C_X6_shows (l : Launch) (dC : Nat → ClassId) (dI : Nat → Nat → Nat) (cI cJ cZ : ClassId) (qa : Nat → Nat) (sz : Nat) (r_images : Nat → Int64) (r_asked : Int64) (h_tll : Nat → Int32) (h_beyond : Nat → Int32) (h_minutes : Nat → Int32) (h_size : Int32) (t_tears : Nat → Int32) (t_gains : Nat → Int32) (t_likings : Nat → Int32) (t_settings : Nat → Int32) (t_goodbyes : Int32) (t_women : Int32) (a1 : Int32) (a2 : Int32) (a3 : Int32) (a4 : Int32) (a5 : Int32) (r0 : Int32) (r_h_tll : Nat → Int32) (r_h_beyond : Nat → Int32) (r_h_minutes : Nat → Int32) (r_h_size : Int32) (hG : gX6_shows h_tll h_beyond h_minutes h_size t_tears t_goodbyes a1 a2 a3 a4 a5 = some (r0, r_h_tll, r_h_beyond, r_h_minutes, r_h_size)) : Met l yX6_shows wsX6_shows ({ frames := 2, cells := 0, slots := 0, locals := 42 } : Room) (va_Pc [.ref (qa 0), .int a1, .int a2, .int a3, .int a4, .int a5] (wq_pw (dC, dI) [(cI, .int), (cJ, .long), (cZ, .boolean)] (wcRST qa cI cJ cZ r_images r_asked h_tll h_beyond h_minutes h_size t_tears t_gains t_likings t_settings t_goodbyes t_women) sz)) (wq_Wi (dC, dI) r0 wq_tr (wcRST qa cI cJ cZ r_images r_asked r_h_tll r_h_beyond r_h_minutes r_h_size t_tears t_gains t_likings t_settings t_goodbyes t_women) (va_A (wcRST qa cI cJ cZ r_images r_asked h_tll h_beyond h_minutes h_size t_tears t_gains t_likings t_settings t_goodbyes t_women) sz)) 0 0 (va_A (wcRST qa cI cJ cZ r_images r_asked h_tll h_beyond h_minutes h_size t_tears t_gains t_likings t_settings t_goodbyes t_women) sz) := by
  refine Met.ofW (cc := cX6_shows) (maxL := 6) (ret := (some .int)) (by decide) rfl ?_
  intro p e s m args below meth c s₁ B hml hv
  obtain ⟨rfl, hsz, hP, hK, hD0, hE⟩ := hv
  have hx := B.exec
  have hb := B.bytes
  have hr := B.returns
  have hts := atoms_spec (ws := wsX6_shows) B.pre
  have hown : s.vm.findClass RX6 = some m.cls := findClass_of_methodNamed B.named
  have hlocks := B.notSynchronized
  subst hsz
  have hD := hD0.self (sz := s.heap.size)
  generalize hAe : va_A (wcRST qa cI cJ cZ r_images r_asked h_tll h_beyond h_minutes h_size t_tears t_gains t_likings t_settings t_goodbyes t_women) s.heap.size = A at hD hE ⊢
  have hA : ∀ q : Nat, s.heap.size ≤ q → A q := fun q h => by rw [← hAe]; exact Or.inr h
  have hS : va_S A s.heap s.heap [] := va_S.rf
  have hinX6 : ∀ w ∈ u_ws RX6 TX6 9, w ∈ wsX6_shows := by decide +kernel
  have k1 := hts (.fieldLink RX6 53 "DoorMornings" "told" "LDoorMornings$Told;") (by decide +kernel)
  have k2 := hts (.fieldLink RX6 33 "DoorMornings" "shown" "LDoorMornings$Shown;") (by decide +kernel)
  have hl := lv_entry ([.ref (qa 0), .int a1, .int a2, .int a3, .int a4, .int a5]) (n := 6) (Nat.le_of_ble_eq_true rfl)
  rw [lg_entry_eq]
  generalize (lg_sl ([.ref (qa 0), .int a1, .int a2, .int a3, .int a4, .int a5]) ++ List.replicate (6 - (lg_sl ([.ref (qa 0), .int a1, .int a2, .int a3, .int a4, .int a5])).length) Slot.unset).toArray = ls at hl ⊢
  have hl : lv_has ls 6 [(0, .ref (qa 0)), (1, .int a1), (2, .int a2), (3, .int a3), (4, .int a4), (5, .int a5)] := hl
  unfold gX6_shows at hG
  refine lv_aload_n hx hb dX6_shows_0 rfl (lv_at hl 0 rfl) ?_
  refine va_get (D := (dC, dI)) (ci := 6) (v := .ref (qa 16)) (C := RX6) (T := TX6) (N := 9) hx hb hts hinX6 hown hK hP 0 rfl rfl 6 (by decide) k1 (fun _ h9 => h9) rfl dX6_shows_1 ?_
  refine lv_iload_n hx hb dX6_shows_4 rfl (lv_at hl 1 rfl) ?_
  obtain ⟨v2, g1, hG⟩ := wq_b1_s hG
  refine wq_ci (v := v2) (B := wq_Z1) (va_runV (As := [.int a1]) (rest := []) ⟨hx, hb, hml, hown, hts⟩ (C_X5_hasGoodbye l dC dI cI cJ cZ qa s.heap.size t_tears t_gains t_likings t_settings t_goodbyes t_women a1 v2 g1) (cwV 1 hts gX6_shows_X5_hasGoodbye rfl rfl rfl hdV_X5_hasGoodbye ⟨Nat.le_of_ble_eq_true rfl, Nat.le_of_ble_eq_true rfl⟩) (wq_ppV hK (hP.sub (ws' := wcT qa cI cJ cZ t_tears t_gains t_likings t_settings t_goodbyes t_women) [6, 7, 8, 9, 10] rfl) hE hS hA (ci := 5) (q0 := 0) rfl rfl) rfl rfl hl.1 rfl (lv_room (Nat.le_of_ble_eq_true rfl)) dX6_shows_5 ⟨Nat.zero_le _, Nat.zero_le _⟩) hS hA (fun H locs b3 hk hS => ?_)
  replace hP := wq_kp hP hk
  clear hk
  refine lv_if_eq (tgt := 28) hx hb dX6_shows_8 (by decide) (fun c4 => ?_) (fun c4 => ?_)
  · replace hG := wq_t c4 hG
    refine lv_iconst (v := (-1)) hx hb dX6_shows_28 (by decide) ?_
    obtain ⟨e0, e1, e2, e3, e4⟩ := wq_j5 hG
    subst e0
    subst e1
    subst e2
    subst e3
    subst e4
    exact W.iret hx hb hr (fun t ht hW => ⟨⟨_, (), rfl, ⟨rfl, trivial⟩, by rw [ht]; exact hP, hD⟩, hS.F ht⟩) hS.2.2 dX6_shows_29
  · replace hG := wq_f c4 hG
    refine lv_iload_n hx hb dX6_shows_11 rfl (lv_at hl 2 rfl) ?_
    refine lv_if_lt (tgt := 28) hx hb dX6_shows_12 (by decide) (fun c5 => ?_) (fun c5 => ?_)
    · replace hG := wq_t c5 hG
      refine lv_iconst (v := (-1)) hx hb dX6_shows_28 (by decide) ?_
      obtain ⟨e0, e1, e2, e3, e4⟩ := wq_j5 hG
      subst e0
      subst e1
      subst e2
      subst e3
      subst e4
      exact W.iret hx hb hr (fun t ht hW => ⟨⟨_, (), rfl, ⟨rfl, trivial⟩, by rw [ht]; exact hP, hD⟩, hS.F ht⟩) hS.2.2 dX6_shows_29
    · replace hG := wq_f c5 hG
      refine lv_iload_n hx hb dX6_shows_15 rfl (lv_at hl 2 rfl) ?_
      refine lv_bipush (v := 24) hx hb dX6_shows_16 (by decide) ?_
      refine lv_icmp_gt (tgt := 28) hx hb dX6_shows_18 (by decide) (fun c6 => ?_) (fun c6 => ?_)
      · replace hG := wq_t c6 hG
        refine lv_iconst (v := (-1)) hx hb dX6_shows_28 (by decide) ?_
        obtain ⟨e0, e1, e2, e3, e4⟩ := wq_j5 hG
        subst e0
        subst e1
        subst e2
        subst e3
        subst e4
        exact W.iret hx hb hr (fun t ht hW => ⟨⟨_, (), rfl, ⟨rfl, trivial⟩, by rw [ht]; exact hP, hD⟩, hS.F ht⟩) hS.2.2 dX6_shows_29
      · replace hG := wq_f c6 hG
        refine lv_iload_n hx hb dX6_shows_21 rfl (lv_at hl 3 rfl) ?_
        obtain ⟨v8, g7, hG⟩ := wq_b1_s hG
        refine wq_ci (v := v8) (B := wq_Z1) (va_runS (As := [.int a3]) (rest := []) ⟨hx, hb, hml, hown, hts⟩ (C_X6_isLength l dC dI cI cJ cZ qa H.size  a3 v8 g7) (va_cwS 1 hts gX6_shows_X6_isLength rfl rfl rfl hdS_X6_isLength ⟨Nat.le_of_ble_eq_true rfl, Nat.le_of_ble_eq_true rfl⟩) (wq_ppS hK (hP.sub (ws' := []) [] rfl) hE hS hA) rfl rfl hl.1 rfl (lv_room (Nat.le_of_ble_eq_true rfl)) dX6_shows_22 ⟨Nat.zero_le _, Nat.zero_le _⟩) hS hA (fun H locs b9 hk hS => ?_)
        replace hP := wq_kp hP hk
        clear hk
        refine lv_if_ne (tgt := 30) hx hb dX6_shows_25 (by decide) (fun c10 => ?_) (fun c10 => ?_)
        · replace hG := wq_f c10 hG
          refine lv_iload hx hb dX6_shows_30 (lv_at hl 4 rfl) ?_
          refine lv_if_lt (tgt := 54) hx hb dX6_shows_32 (by decide) (fun c11 => ?_) (fun c11 => ?_)
          · replace hG := wq_t c11 hG
            refine lv_iconst (v := (-1)) hx hb dX6_shows_54 (by decide) ?_
            obtain ⟨e0, e1, e2, e3, e4⟩ := wq_j5 hG
            subst e0
            subst e1
            subst e2
            subst e3
            subst e4
            exact W.iret hx hb hr (fun t ht hW => ⟨⟨_, (), rfl, ⟨rfl, trivial⟩, by rw [ht]; exact hP, hD⟩, hS.F ht⟩) hS.2.2 dX6_shows_55
          · replace hG := wq_f c11 hG
            refine lv_iload hx hb dX6_shows_35 (lv_at hl 4 rfl) ?_
            refine lv_bipush (v := 9) hx hb dX6_shows_37 (by decide) ?_
            refine lv_icmp_gt (tgt := 54) hx hb dX6_shows_39 (by decide) (fun c12 => ?_) (fun c12 => ?_)
            · replace hG := wq_t c12 hG
              refine lv_iconst (v := (-1)) hx hb dX6_shows_54 (by decide) ?_
              obtain ⟨e0, e1, e2, e3, e4⟩ := wq_j5 hG
              subst e0
              subst e1
              subst e2
              subst e3
              subst e4
              exact W.iret hx hb hr (fun t ht hW => ⟨⟨_, (), rfl, ⟨rfl, trivial⟩, by rw [ht]; exact hP, hD⟩, hS.F ht⟩) hS.2.2 dX6_shows_55
            · replace hG := wq_f c12 hG
              refine lv_iload hx hb dX6_shows_42 (lv_at hl 5 rfl) ?_
              refine lv_if_lt (tgt := 54) hx hb dX6_shows_44 (by decide) (fun c13 => ?_) (fun c13 => ?_)
              · replace hG := wq_t c13 hG
                refine lv_iconst (v := (-1)) hx hb dX6_shows_54 (by decide) ?_
                obtain ⟨e0, e1, e2, e3, e4⟩ := wq_j5 hG
                subst e0
                subst e1
                subst e2
                subst e3
                subst e4
                exact W.iret hx hb hr (fun t ht hW => ⟨⟨_, (), rfl, ⟨rfl, trivial⟩, by rw [ht]; exact hP, hD⟩, hS.F ht⟩) hS.2.2 dX6_shows_55
              · replace hG := wq_f c13 hG
                refine lv_iload hx hb dX6_shows_47 (lv_at hl 5 rfl) ?_
                refine lv_bipush (v := 60) hx hb dX6_shows_49 (by decide) ?_
                refine lv_icmp_le (tgt := 56) hx hb dX6_shows_51 (by decide) (fun c14 => ?_) (fun c14 => ?_)
                · replace hG := wq_t c14 hG
                  refine lv_aload_n hx hb dX6_shows_56 rfl (lv_at hl 0 rfl) ?_
                  refine va_get (D := (dC, dI)) (ci := 6) (v := .ref (qa 7)) (C := RX6) (T := TX6) (N := 9) hx hb hts hinX6 hown hK hP 0 rfl rfl 3 (by decide) k2 (fun _ h9 => h9) rfl dX6_shows_57 ?_
                  refine lv_aload_n hx hb dX6_shows_60 rfl (lv_at hl 0 rfl) ?_
                  refine va_get (D := (dC, dI)) (ci := 6) (v := .ref (qa 16)) (C := RX6) (T := TX6) (N := 9) hx hb hts hinX6 hown hK hP 0 rfl rfl 6 (by decide) k1 (fun _ h9 => h9) rfl dX6_shows_61 ?_
                  refine lv_iload_n hx hb dX6_shows_64 rfl (lv_at hl 1 rfl) ?_
                  obtain ⟨v16, g15, hG⟩ := wq_b1_s hG
                  refine wq_ci (v := v16) (B := wq_tr) (va_runV (As := [.int a1]) (rest := [.ref (qa 7)]) ⟨hx, hb, hml, hown, hts⟩ (C_X5_tearsOf l dC dI cI cJ cZ qa H.size t_tears t_gains t_likings t_settings t_goodbyes t_women a1 v16 g15) (cwV 1 hts gX6_shows_X5_tearsOf rfl rfl rfl hdV_X5_tearsOf ⟨Nat.le_of_ble_eq_true rfl, Nat.le_of_ble_eq_true rfl⟩) (wq_ppV hK (hP.sub (ws' := wcT qa cI cJ cZ t_tears t_gains t_likings t_settings t_goodbyes t_women) [6, 7, 8, 9, 10] rfl) hE hS hA (ci := 5) (q0 := 0) rfl rfl) rfl rfl hl.1 rfl (lv_room (Nat.le_of_ble_eq_true rfl)) dX6_shows_65 ⟨Nat.zero_le _, Nat.zero_le _⟩) hS hA (fun H locs b17 hk hS => ?_)
                  replace hP := wq_kp hP hk
                  clear hk
                  refine lv_iload hx hb dX6_shows_68 (lv_at hl 4 rfl) ?_
                  refine lv_isub hx hb dX6_shows_70 ?_
                  refine lv_iload_n hx hb dX6_shows_71 rfl (lv_at hl 3 rfl) ?_
                  refine lv_iload_n hx hb dX6_shows_72 rfl (lv_at hl 2 rfl) ?_
                  obtain ⟨v19, g18, hG⟩ := wq_b1_s hG
                  refine wq_ci (v := v19) (B := wq_tr) (va_runS (As := [.int a3, .int a2]) (rest := [.int (v16 - a4), .ref (qa 7)]) ⟨hx, hb, hml, hown, hts⟩ (C_X6_beyondTrust l dC dI cI cJ cZ qa H.size  a3 a2 v19 g18) (va_cwS 2 hts gX6_shows_X6_beyondTrust rfl rfl rfl hdS_X6_beyondTrust ⟨Nat.le_of_ble_eq_true rfl, Nat.le_of_ble_eq_true rfl⟩) (wq_ppS hK (hP.sub (ws' := []) [] rfl) hE hS hA) rfl rfl hl.1 rfl (lv_room (Nat.le_of_ble_eq_true rfl)) dX6_shows_73 ⟨Nat.zero_le _, Nat.zero_le _⟩) hS hA (fun H locs b20 hk hS => ?_)
                  replace hP := wq_kp hP hk
                  clear hk
                  refine lv_iload hx hb dX6_shows_76 (lv_at hl 5 rfl) ?_
                  obtain ⟨v22, w23, w24, w25, w26, g21, hG⟩ := wq_b5_s hG
                  have hFc := va_free (wc := wcS qa cI cJ cZ h_tll h_beyond h_minutes h_size) hD hS hA [2, 3, 4, 5] rfl
                  refine wq_di (D := (dC, dI)) (v := v22) (B := wq_tr) (wr := wcRT qa cI cJ cZ r_images r_asked t_tears t_gains t_likings t_settings t_goodbyes t_women) (w1 := wcS qa cI cJ cZ w23 w24 w25 w26) (w2 := wcRST qa cI cJ cZ r_images r_asked w23 w24 w25 w26 t_tears t_gains t_likings t_settings t_goodbyes t_women) (va_runV (As := [.int (v16 - a4), .int v19, .int a5]) (rest := []) ⟨hx, hb, hml, hown, hts⟩ (C_X3_add l dC dI cI cJ cZ qa H.size h_tll h_beyond h_minutes h_size (v16 - a4) v19 a5 v22 w23 w24 w25 w26 g21) (cwV 3 hts gX6_shows_X3_add rfl rfl rfl hdV_X3_add ⟨Nat.le_of_ble_eq_true rfl, Nat.le_of_ble_eq_true rfl⟩) (wq_pwV hK (hP.sub (ws' := wcS qa cI cJ cZ h_tll h_beyond h_minutes h_size) [2, 3, 4, 5] rfl) (hD.sub (ws' := wcS qa cI cJ cZ h_tll h_beyond h_minutes h_size) [2, 3, 4, 5] (by decide) rfl) hE hS hFc (ci := 3) (q0 := 0) rfl rfl) rfl rfl hl.1 rfl (lv_room (Nat.le_of_ble_eq_true rfl)) dX6_shows_78 ⟨Nat.zero_le _, Nat.zero_le _⟩) hP hD hS hFc [2, 3, 4, 5] [0, 1, 6, 7, 8, 9, 10] [0, 1, 7, 8, 9, 10, 2, 3, 4, 5, 6] rfl rfl (by decide) (by decide) (by decide) rfl (fun H locs b27 hP hD hS => ?_)
                  clear hFc
                  obtain ⟨e0, e1, e2, e3, e4⟩ := wq_j5 hG
                  subst e0
                  subst e1
                  subst e2
                  subst e3
                  subst e4
                  exact W.iret hx hb hr (fun t ht hW => ⟨⟨_, (), rfl, ⟨rfl, trivial⟩, by rw [ht]; exact hP, hD⟩, hS.F ht⟩) hS.2.2 dX6_shows_81
                · replace hG := wq_f c14 hG
                  refine lv_iconst (v := (-1)) hx hb dX6_shows_54 (by decide) ?_
                  obtain ⟨e0, e1, e2, e3, e4⟩ := wq_j5 hG
                  subst e0
                  subst e1
                  subst e2
                  subst e3
                  subst e4
                  exact W.iret hx hb hr (fun t ht hW => ⟨⟨_, (), rfl, ⟨rfl, trivial⟩, by rw [ht]; exact hP, hD⟩, hS.F ht⟩) hS.2.2 dX6_shows_55
        · replace hG := wq_t c10 hG
          refine lv_iconst (v := (-1)) hx hb dX6_shows_28 (by decide) ?_
          obtain ⟨e0, e1, e2, e3, e4⟩ := wq_j5 hG
          subst e0
          subst e1
          subst e2
          subst e3
          subst e4
          exact W.iret hx hb hr (fun t ht hW => ⟨⟨_, (), rfl, ⟨rfl, trivial⟩, by rw [ht]; exact hP, hD⟩, hS.F ht⟩) hS.2.2 dX6_shows_29

theorem hdV_X6_forget : yX6_forget.cls = RX6 ∧ yX6_forget.cls ≠ "java/lang/invoke/MethodHandle" ∧ yX6_forget.cls ≠ "java/lang/invoke/VarHandle" ∧ (parseMethodDescriptor yX6_forget.desc).map (fun d => d.parameters.length) = some 0 := by decide +kernel
set_option maxHeartbeats 4000000 in
set_option maxRecDepth 100000 in
theorem C_X6_forget (l : Launch) (dC : Nat → ClassId) (dI : Nat → Nat → Nat) (cI cJ cZ : ClassId) (qa : Nat → Nat) (sz : Nat) (r_images : Nat → Int64) (r_asked : Int64) (h_tll : Nat → Int32) (h_beyond : Nat → Int32) (h_minutes : Nat → Int32) (h_size : Int32) (r0 : Int32) (r_h_size : Int32) (hG : gX6_forget h_size = some (r0, r_h_size)) : Met l yX6_forget wsX6_forget ({ frames := 1, cells := 0, slots := 0, locals := 21 } : Room) (va_Pc [.ref (qa 0)] (wq_pw (dC, dI) [(cI, .int), (cJ, .long), (cZ, .boolean)] (wcRS qa cI cJ cZ r_images r_asked h_tll h_beyond h_minutes h_size) sz)) (wq_Wi (dC, dI) r0 wq_tr (wcRS qa cI cJ cZ r_images r_asked h_tll h_beyond h_minutes r_h_size) (va_A (wcRS qa cI cJ cZ r_images r_asked h_tll h_beyond h_minutes h_size) sz)) 0 0 (va_A (wcRS qa cI cJ cZ r_images r_asked h_tll h_beyond h_minutes h_size) sz) := by
  refine Met.ofW (cc := cX6_forget) (maxL := 1) (ret := (some .int)) (by decide) rfl ?_
  intro p e s m args below meth c s₁ B hml hv
  obtain ⟨rfl, hsz, hP, hK, hD0, hE⟩ := hv
  have hx := B.exec
  have hb := B.bytes
  have hr := B.returns
  have hts := atoms_spec (ws := wsX6_forget) B.pre
  have hown : s.vm.findClass RX6 = some m.cls := findClass_of_methodNamed B.named
  have hlocks := B.notSynchronized
  subst hsz
  have hD := hD0.self (sz := s.heap.size)
  generalize hAe : va_A (wcRS qa cI cJ cZ r_images r_asked h_tll h_beyond h_minutes h_size) s.heap.size = A at hD hE ⊢
  have hA : ∀ q : Nat, s.heap.size ≤ q → A q := fun q h => by rw [← hAe]; exact Or.inr h
  have hS : va_S A s.heap s.heap [] := va_S.rf
  have hinX6 : ∀ w ∈ u_ws RX6 TX6 9, w ∈ wsX6_forget := by decide +kernel
  have k1 := hts (.fieldLink RX6 33 "DoorMornings" "shown" "LDoorMornings$Shown;") (by decide +kernel)
  have hl := lv_entry ([.ref (qa 0)]) (n := 1) (Nat.le_of_ble_eq_true rfl)
  rw [lg_entry_eq]
  generalize (lg_sl ([.ref (qa 0)]) ++ List.replicate (1 - (lg_sl ([.ref (qa 0)])).length) Slot.unset).toArray = ls at hl ⊢
  have hl : lv_has ls 1 [(0, .ref (qa 0))] := hl
  unfold gX6_forget at hG
  refine lv_aload_n hx hb dX6_forget_0 rfl (lv_at hl 0 rfl) ?_
  refine va_get (D := (dC, dI)) (ci := 6) (v := .ref (qa 7)) (C := RX6) (T := TX6) (N := 9) hx hb hts hinX6 hown hK hP 0 rfl rfl 3 (by decide) k1 (fun _ h9 => h9) rfl dX6_forget_1 ?_
  obtain ⟨v2, w3, g1, hG⟩ := wq_b2_s hG
  have hFc := va_free (wc := wcS qa cI cJ cZ h_tll h_beyond h_minutes h_size) hD hS hA [2, 3, 4, 5] rfl
  refine wq_di (D := (dC, dI)) (v := v2) (B := wq_tr) (wr := wcR qa cI cJ cZ r_images r_asked) (w1 := wcS qa cI cJ cZ h_tll h_beyond h_minutes w3) (w2 := wcRS qa cI cJ cZ r_images r_asked h_tll h_beyond h_minutes w3) (va_runV (As := []) (rest := []) ⟨hx, hb, hml, hown, hts⟩ (C_X3_empty l dC dI cI cJ cZ qa s.heap.size h_tll h_beyond h_minutes h_size  v2 w3 g1) (cwV 0 hts gX6_forget_X3_empty rfl rfl rfl hdV_X3_empty ⟨Nat.le_of_ble_eq_true rfl, Nat.le_of_ble_eq_true rfl⟩) (wq_pwV hK (hP.sub (ws' := wcS qa cI cJ cZ h_tll h_beyond h_minutes h_size) [2, 3, 4, 5] rfl) (hD.sub (ws' := wcS qa cI cJ cZ h_tll h_beyond h_minutes h_size) [2, 3, 4, 5] (by decide) rfl) hE hS hFc (ci := 3) (q0 := 0) rfl rfl) rfl rfl hl.1 rfl (lv_room (Nat.le_of_ble_eq_true rfl)) dX6_forget_4 ⟨Nat.zero_le _, Nat.zero_le _⟩) hP hD hS hFc [2, 3, 4, 5] [0, 1] [0, 1, 2, 3, 4, 5] rfl rfl (by decide) (by decide) (by decide) rfl (fun H locs b4 hP hD hS => ?_)
  clear hFc
  obtain ⟨e0, e1⟩ := wq_j2 hG
  subst e0
  subst e1
  exact W.iret hx hb hr (fun t ht hW => ⟨⟨_, (), rfl, ⟨rfl, trivial⟩, by rw [ht]; exact hP, hD⟩, hS.F ht⟩) hS.2.2 dX6_forget_7

theorem hdV_X3_isSoBy : yX3_isSoBy.cls = RX3 ∧ yX3_isSoBy.cls ≠ "java/lang/invoke/MethodHandle" ∧ yX3_isSoBy.cls ≠ "java/lang/invoke/VarHandle" ∧ (parseMethodDescriptor yX3_isSoBy.desc).map (fun d => d.parameters.length) = some 1 := by decide +kernel
set_option maxHeartbeats 4000000 in
set_option maxRecDepth 100000 in
theorem C_X3_isSoBy (l : Launch) (dC : Nat → ClassId) (dI : Nat → Nat → Nat) (cI cJ cZ : ClassId) (qa : Nat → Nat) (sz : Nat) (h_tll : Nat → Int32) (h_beyond : Nat → Int32) (h_minutes : Nat → Int32) (h_size : Int32) (a1 : Int32) (r0 : Int32) (hG : gX3_isSoBy h_tll h_beyond h_minutes h_size a1 = some r0) : Met l yX3_isSoBy wsX3_isSoBy ({ frames := 2, cells := 0, slots := 0, locals := 41 } : Room) (va_Pc [.ref (qa 7), .int a1] (wq_pp (dC, dI) [(cI, .int), (cJ, .long), (cZ, .boolean)] (wcS qa cI cJ cZ h_tll h_beyond h_minutes h_size) sz)) (wq_Qi r0 wq_Z1 (va_A [] sz)) 0 0 (va_A [] sz) := by
  refine Met.ofW (cc := cX3_isSoBy) (maxL := 3) (ret := (some .boolean)) (by decide) rfl ?_
  intro p e s m args below meth c s₁ B hml hv
  obtain ⟨rfl, hsz, hP, hK, hE⟩ := hv
  have hx := B.exec
  have hb := B.bytes
  have hr := B.returns
  have hts := atoms_spec (ws := wsX3_isSoBy) B.pre
  have hown : s.vm.findClass RX3 = some m.cls := findClass_of_methodNamed B.named
  have hlocks := B.notSynchronized
  subst hsz
  generalize hAe : va_A [] s.heap.size = A at hE ⊢
  have hA : ∀ q : Nat, s.heap.size ≤ q → A q := fun q h => by rw [← hAe]; exact Or.inr h
  have hS : va_S A s.heap s.heap [] := va_S.rf
  have hinX3 : ∀ w ∈ u_ws RX3 TX3 4, w ∈ wsX3_isSoBy := by decide +kernel
  have k1 := hts (.fieldLink RX3 21 "DoorMornings$Shown" "size" "I") (by decide +kernel)
  have k2 := hts (.fieldLink RX3 9 "DoorMornings$Shown" "tearsLessLiking" "[I") (by decide +kernel)
  have k3 := hts (.fieldLink RX3 15 "DoorMornings$Shown" "beyond" "[I") (by decide +kernel)
  have k4 := hts (.initialized RX6) (by decide +kernel)
  have k5 := hts (.static yX6_withinMinutes) (by decide +kernel)
  have k6 := hts (.fieldLink RX3 18 "DoorMornings$Shown" "minutes" "[I") (by decide +kernel)
  have hl := lv_entry ([.ref (qa 7), .int a1]) (n := 3) (Nat.le_of_ble_eq_true rfl)
  rw [lg_entry_eq]
  generalize (lg_sl ([.ref (qa 7), .int a1]) ++ List.replicate (3 - (lg_sl ([.ref (qa 7), .int a1])).length) Slot.unset).toArray = ls at hl ⊢
  have hl : lv_has ls 3 [(0, .ref (qa 7)), (1, .int a1)] := hl
  have hL2 : ∀  (n : Nat) (x2 : Int32) (H : Heap) (locs : List Loc) (ls : Array Slot), gX3_isSoBy_L2 h_tll h_beyond h_minutes h_size a1 n x2 = some r0 → va_P (dC, dI) vwCl (wcS qa cI cJ cZ h_tll h_beyond h_minutes h_size) H → va_S A s.heap H locs → lv_has ls 3 [(0, .ref (qa 7)), (1, .int a1), (2, .int x2)] → W p l e (headSpec wsX3_isSoBy ({ frames := 2, cells := 0, slots := 0, locals := 41 } : Room)).room s m ([.ref (qa 7), .int a1] : List Value).toArray below meth c H locs 0 0 (MQ below (wq_Qi r0 wq_Z1 A) ([.ref (qa 7), .int a1] : List Value).toArray s 0 0 A) (F0 m 2 ls []) := by
    intro  n
    induction n with
    | zero =>
      intro x2 H locs ls hG
      exact absurd (show (none : Option (Int32)) = some r0 from hG) (by intro h9; cases h9)
    | succ n ih2 =>
      intro x2 H locs ls hG hP hS hl
      rw [gX3_isSoBy_L2] at hG
      refine lv_iload_n hx hb dX3_isSoBy_2 rfl (lv_at hl 2 rfl) ?_
      refine lv_aload_n hx hb dX3_isSoBy_3 rfl (lv_at hl 0 rfl) ?_
      refine va_get (D := (dC, dI)) (ci := 3) (v := .int h_size) (C := RX3) (T := TX3) (N := 4) hx hb hts hinX3 hown hK hP 0 rfl rfl 3 (by decide) k1 (fun _ h9 => h9) rfl dX3_isSoBy_4 ?_
      refine lv_icmp_ge (tgt := 51) hx hb dX3_isSoBy_7 (by decide) (fun c1 => ?_) (fun c1 => ?_)
      · replace hG := wq_t c1 hG
        refine lv_iconst (v := 1) hx hb dX3_isSoBy_51 (by decide) ?_
        exact W.zret (v := 1) hx hb hr (wq_Z1_n (Or.inr rfl)) (fun t ht hW => ⟨⟨1, (), rfl, ⟨Option.some.inj hG, (Or.inr rfl)⟩, trivial⟩, hS.F ht⟩) hS.2.2 dX3_isSoBy_52
      · replace hG := wq_f c1 hG
        refine lv_iload_n hx hb dX3_isSoBy_10 rfl (lv_at hl 2 rfl) ?_
        refine lv_bipush (v := 6) hx hb dX3_isSoBy_11 (by decide) ?_
        refine lv_icmp_ge (tgt := 51) hx hb dX3_isSoBy_13 (by decide) (fun c2 => ?_) (fun c2 => ?_)
        · replace hG := wq_t c2 hG
          refine lv_iconst (v := 1) hx hb dX3_isSoBy_51 (by decide) ?_
          exact W.zret (v := 1) hx hb hr (wq_Z1_n (Or.inr rfl)) (fun t ht hW => ⟨⟨1, (), rfl, ⟨Option.some.inj hG, (Or.inr rfl)⟩, trivial⟩, hS.F ht⟩) hS.2.2 dX3_isSoBy_52
        · replace hG := wq_f c2 hG
          refine lv_aload_n hx hb dX3_isSoBy_16 rfl (lv_at hl 0 rfl) ?_
          refine va_get (D := (dC, dI)) (ci := 3) (v := .ref (qa 8)) (C := RX3) (T := TX3) (N := 4) hx hb hts hinX3 hown hK hP 0 rfl rfl 0 (by decide) k2 (fun _ h9 => h9) rfl dX3_isSoBy_17 ?_
          refine lv_iload_n hx hb dX3_isSoBy_20 rfl (lv_at hl 2 rfl) ?_
          obtain ⟨h3, hG⟩ := wq_chk_s hG
          refine wq_iald (D := (dC, dI)) hx hb hK hP 1 0 rfl rfl h3 (Int32.toNatClampNeg x2) rfl dX3_isSoBy_21 ?_
          refine lv_iload_n hx hb dX3_isSoBy_22 rfl (lv_at hl 1 rfl) ?_
          refine lv_aload_n hx hb dX3_isSoBy_23 rfl (lv_at hl 0 rfl) ?_
          refine va_get (D := (dC, dI)) (ci := 3) (v := .ref (qa 9)) (C := RX3) (T := TX3) (N := 4) hx hb hts hinX3 hown hK hP 0 rfl rfl 1 (by decide) k3 (fun _ h9 => h9) rfl dX3_isSoBy_24 ?_
          refine lv_iload_n hx hb dX3_isSoBy_27 rfl (lv_at hl 2 rfl) ?_
          refine wq_iald (D := (dC, dI)) hx hb hK hP 2 0 rfl rfl h3 (Int32.toNatClampNeg x2) rfl dX3_isSoBy_28 ?_
          refine lv_imul hx hb dX3_isSoBy_29 ?_
          refine lv_iadd hx hb dX3_isSoBy_30 ?_
          obtain ⟨v5, g4, hG⟩ := wq_b1_s hG
          refine wq_ci (v := v5) (B := wq_tr) (va_runSN (As := [.int ((h_tll (Int32.toNatClampNeg x2)) + (a1 * (h_beyond (Int32.toNatClampNeg x2))))]) (rest := []) ⟨hx, hb, hml, hown, hts⟩ (C_X6_withinMinutes l dC dI cI cJ cZ qa H.size  ((h_tll (Int32.toNatClampNeg x2)) + (a1 * (h_beyond (Int32.toNatClampNeg x2)))) v5 g4) ⟨va_cnB 1 hts gX3_isSoBy_X6_withinMinutes_n25 rfl rfl rfl hE.1.2.2.2.2.2.2.1 k4 hdS_X6_withinMinutes ⟨Nat.le_of_ble_eq_true rfl, Nat.le_of_ble_eq_true rfl⟩, k5, trivial⟩ (wq_ppS hK (hP.sub (ws' := []) [] rfl) hE hS hA) rfl rfl hl.1 rfl (lv_room (Nat.le_of_ble_eq_true rfl)) dX3_isSoBy_31 ⟨Nat.zero_le _, Nat.zero_le _⟩) hS hA (fun H locs b6 hk hS => ?_)
          replace hP := wq_kp hP hk
          clear hk
          refine lv_aload_n hx hb dX3_isSoBy_34 rfl (lv_at hl 0 rfl) ?_
          refine va_get (D := (dC, dI)) (ci := 3) (v := .ref (qa 10)) (C := RX3) (T := TX3) (N := 4) hx hb hts hinX3 hown hK hP 0 rfl rfl 2 (by decide) k6 (fun _ h9 => h9) rfl dX3_isSoBy_35 ?_
          refine lv_iload_n hx hb dX3_isSoBy_38 rfl (lv_at hl 2 rfl) ?_
          refine wq_iald (D := (dC, dI)) hx hb hK hP 3 0 rfl rfl h3 (Int32.toNatClampNeg x2) rfl dX3_isSoBy_39 ?_
          refine lv_icmp_eq (tgt := 45) hx hb dX3_isSoBy_40 (by decide) (fun c7 => ?_) (fun c7 => ?_)
          · replace hG := wq_t c7 hG
            refine lv_iinc (v := (x2 + 1)) (lv' := [(2, .int (x2 + 1)), (0, .ref (qa 7)), (1, .int a1)]) hx hb dX3_isSoBy_45 hl (k := 2) rfl rfl (by decide) rfl (fun ls hl => ?_)
            refine lv_goto (tgt := 2) hx hb dX3_isSoBy_48 (by decide) ?_
            exact ih2 (x2 + 1) _ _ _ hG hP hS (lv_sub hl [1, 2, 0] rfl)
          · replace hG := wq_f c7 hG
            refine lv_iconst (v := 0) hx hb dX3_isSoBy_43 (by decide) ?_
            exact W.zret (v := 0) hx hb hr (wq_Z1_n (Or.inl rfl)) (fun t ht hW => ⟨⟨0, (), rfl, ⟨Option.some.inj hG, (Or.inl rfl)⟩, trivial⟩, hS.F ht⟩) hS.2.2 dX3_isSoBy_44
  unfold gX3_isSoBy at hG
  refine lv_iconst (v := 0) hx hb dX3_isSoBy_0 (by decide) ?_
  refine lv_istore_n (lv' := [(2, .int 0), (0, .ref (qa 7)), (1, .int a1)]) hx hb dX3_isSoBy_1 rfl hl (by decide) rfl (fun ls hl => ?_)
  exact hL2  1000 0 _ _ _ hG hP hS (lv_sub hl [1, 2, 0] rfl)

theorem hdV_X6_fits : yX6_fits.cls = RX6 ∧ yX6_fits.cls ≠ "java/lang/invoke/MethodHandle" ∧ yX6_fits.cls ≠ "java/lang/invoke/VarHandle" ∧ (parseMethodDescriptor yX6_fits.desc).map (fun d => d.parameters.length) = some 0 := by decide +kernel
set_option maxHeartbeats 4000000 in
set_option maxRecDepth 100000 in
theorem C_X6_fits (l : Launch) (dC : Nat → ClassId) (dI : Nat → Nat → Nat) (cI cJ cZ : ClassId) (qa : Nat → Nat) (sz : Nat) (r_images : Nat → Int64) (r_asked : Int64) (h_tll : Nat → Int32) (h_beyond : Nat → Int32) (h_minutes : Nat → Int32) (h_size : Int32) (r0 : Int32) (hG : gX6_fits h_tll h_beyond h_minutes h_size = some r0) : Met l yX6_fits wsX6_fits ({ frames := 3, cells := 0, slots := 0, locals := 63 } : Room) (va_Pc [.ref (qa 0)] (wq_pp (dC, dI) [(cI, .int), (cJ, .long), (cZ, .boolean)] (wcRS qa cI cJ cZ r_images r_asked h_tll h_beyond h_minutes h_size) sz)) (wq_Qi r0 wq_tr (va_A [] sz)) 0 0 (va_A [] sz) := by
  refine Met.ofW (cc := cX6_fits) (maxL := 3) (ret := (some .int)) (by decide) rfl ?_
  intro p e s m args below meth c s₁ B hml hv
  obtain ⟨rfl, hsz, hP, hK, hE⟩ := hv
  have hx := B.exec
  have hb := B.bytes
  have hr := B.returns
  have hts := atoms_spec (ws := wsX6_fits) B.pre
  have hown : s.vm.findClass RX6 = some m.cls := findClass_of_methodNamed B.named
  have hlocks := B.notSynchronized
  subst hsz
  generalize hAe : va_A [] s.heap.size = A at hE ⊢
  have hA : ∀ q : Nat, s.heap.size ≤ q → A q := fun q h => by rw [← hAe]; exact Or.inr h
  have hS : va_S A s.heap s.heap [] := va_S.rf
  have hinX6 : ∀ w ∈ u_ws RX6 TX6 9, w ∈ wsX6_fits := by decide +kernel
  have k1 := hts (.fieldLink RX6 33 "DoorMornings" "shown" "LDoorMornings$Shown;") (by decide +kernel)
  have hl := lv_entry ([.ref (qa 0)]) (n := 3) (Nat.le_of_ble_eq_true rfl)
  rw [lg_entry_eq]
  generalize (lg_sl ([.ref (qa 0)]) ++ List.replicate (3 - (lg_sl ([.ref (qa 0)])).length) Slot.unset).toArray = ls at hl ⊢
  have hl : lv_has ls 3 [(0, .ref (qa 0))] := hl
  have hL4 : ∀  (n : Nat) (x1 : Int32) (x2 : Int32) (H : Heap) (locs : List Loc) (ls : Array Slot), gX6_fits_L4 h_tll h_beyond h_minutes h_size n x1 x2 = some r0 → va_P (dC, dI) vwCl (wcRS qa cI cJ cZ r_images r_asked h_tll h_beyond h_minutes h_size) H → va_S A s.heap H locs → lv_has ls 3 [(0, .ref (qa 0)), (1, .int x1), (2, .int x2)] → W p l e (headSpec wsX6_fits ({ frames := 3, cells := 0, slots := 0, locals := 63 } : Room)).room s m ([.ref (qa 0)] : List Value).toArray below meth c H locs 0 0 (MQ below (wq_Qi r0 wq_tr A) ([.ref (qa 0)] : List Value).toArray s 0 0 A) (F0 m 4 ls []) := by
    intro  n
    induction n with
    | zero =>
      intro x1 x2 H locs ls hG
      exact absurd (show (none : Option (Int32)) = some r0 from hG) (by intro h9; cases h9)
    | succ n ih4 =>
      intro x1 x2 H locs ls hG hP hS hl
      rw [gX6_fits_L4] at hG
      refine lv_iload_n hx hb dX6_fits_4 rfl (lv_at hl 2 rfl) ?_
      refine lv_bipush (v := 9) hx hb dX6_fits_5 (by decide) ?_
      refine lv_icmp_gt (tgt := 33) hx hb dX6_fits_7 (by decide) (fun c1 => ?_) (fun c1 => ?_)
      · replace hG := wq_t c1 hG
        refine lv_iload_n hx hb dX6_fits_33 rfl (lv_at hl 1 rfl) ?_
        exact W.iret (v := x1) hx hb hr (fun t ht hW => ⟨⟨x1, (), rfl, ⟨Option.some.inj hG, trivial⟩, trivial⟩, hS.F ht⟩) hS.2.2 dX6_fits_34
      · replace hG := wq_f c1 hG
        refine lv_aload_n hx hb dX6_fits_10 rfl (lv_at hl 0 rfl) ?_
        refine va_get (D := (dC, dI)) (ci := 6) (v := .ref (qa 7)) (C := RX6) (T := TX6) (N := 9) hx hb hts hinX6 hown hK hP 0 rfl rfl 3 (by decide) k1 (fun _ h9 => h9) rfl dX6_fits_11 ?_
        refine lv_iload_n hx hb dX6_fits_14 rfl (lv_at hl 2 rfl) ?_
        obtain ⟨v3, g2, hG⟩ := wq_b1_s hG
        refine wq_ci (v := v3) (B := wq_Z1) (va_runV (As := [.int x2]) (rest := []) ⟨hx, hb, hml, hown, hts⟩ (C_X3_isSoBy l dC dI cI cJ cZ qa H.size h_tll h_beyond h_minutes h_size x2 v3 g2) (cwV 1 hts gX6_fits_X3_isSoBy rfl rfl rfl hdV_X3_isSoBy ⟨Nat.le_of_ble_eq_true rfl, Nat.le_of_ble_eq_true rfl⟩) (wq_ppV hK (hP.sub (ws' := wcS qa cI cJ cZ h_tll h_beyond h_minutes h_size) [2, 3, 4, 5] rfl) hE hS hA (ci := 3) (q0 := 0) rfl rfl) rfl rfl hl.1 rfl (lv_room (Nat.le_of_ble_eq_true rfl)) dX6_fits_15 ⟨Nat.zero_le _, Nat.zero_le _⟩) hS hA (fun H locs b4 hk hS => ?_)
        replace hP := wq_kp hP hk
        clear hk
        refine lv_if_eq (tgt := 27) hx hb dX6_fits_18 (by decide) (fun c5 => ?_) (fun c5 => ?_)
        · replace hG := wq_t c5 hG
          refine lv_iinc (v := (x2 + 1)) (lv' := [(2, .int (x2 + 1)), (0, .ref (qa 0)), (1, .int x1)]) hx hb dX6_fits_27 hl (k := 2) rfl rfl (by decide) rfl (fun ls hl => ?_)
          refine lv_goto (tgt := 4) hx hb dX6_fits_30 (by decide) ?_
          exact ih4 x1 (x2 + 1) _ _ _ hG hP hS (lv_sub hl [1, 2, 0] rfl)
        · replace hG := wq_f c5 hG
          refine lv_iload_n hx hb dX6_fits_21 rfl (lv_at hl 1 rfl) ?_
          refine lv_iconst (v := 1) hx hb dX6_fits_22 (by decide) ?_
          refine lv_iload_n hx hb dX6_fits_23 rfl (lv_at hl 2 rfl) ?_
          refine lv_ishl hx hb dX6_fits_24 ?_
          refine lv_ior hx hb dX6_fits_25 ?_
          refine lv_istore_n (lv' := [(1, .int (x1 ||| (1 <<< (x2 &&& 31)))), (0, .ref (qa 0)), (2, .int x2)]) hx hb dX6_fits_26 rfl hl (by decide) rfl (fun ls hl => ?_)
          refine lv_iinc (v := (x2 + 1)) (lv' := [(2, .int (x2 + 1)), (1, .int (x1 ||| (1 <<< (x2 &&& 31)))), (0, .ref (qa 0))]) hx hb dX6_fits_27 hl (k := 2) rfl rfl (by decide) rfl (fun ls hl => ?_)
          refine lv_goto (tgt := 4) hx hb dX6_fits_30 (by decide) ?_
          exact ih4 (x1 ||| (1 <<< (x2 &&& 31))) (x2 + 1) _ _ _ hG hP hS (lv_sub hl [2, 1, 0] rfl)
  unfold gX6_fits at hG
  refine lv_iconst (v := 0) hx hb dX6_fits_0 (by decide) ?_
  refine lv_istore_n (lv' := [(1, .int 0), (0, .ref (qa 0))]) hx hb dX6_fits_1 rfl hl (by decide) rfl (fun ls hl => ?_)
  refine lv_iconst (v := 1) hx hb dX6_fits_2 (by decide) ?_
  refine lv_istore_n (lv' := [(2, .int 1), (1, .int 0), (0, .ref (qa 0))]) hx hb dX6_fits_3 rfl hl (by decide) rfl (fun ls hl => ?_)
  exact hL4  1000 0 1 _ _ _ hG hP hS (lv_sub hl [2, 1, 0] rfl)

theorem hdV_X6_rateOfGoodbye : yX6_rateOfGoodbye.cls = RX6 ∧ yX6_rateOfGoodbye.cls ≠ "java/lang/invoke/MethodHandle" ∧ yX6_rateOfGoodbye.cls ≠ "java/lang/invoke/VarHandle" ∧ (parseMethodDescriptor yX6_rateOfGoodbye.desc).map (fun d => d.parameters.length) = some 1 := by decide +kernel
set_option maxHeartbeats 4000000 in
set_option maxRecDepth 100000 in
theorem C_X6_rateOfGoodbye (l : Launch) (dC : Nat → ClassId) (dI : Nat → Nat → Nat) (cI cJ cZ : ClassId) (qa : Nat → Nat) (sz : Nat) (r_images : Nat → Int64) (r_asked : Int64) (t_tears : Nat → Int32) (t_gains : Nat → Int32) (t_likings : Nat → Int32) (t_settings : Nat → Int32) (t_goodbyes : Int32) (t_women : Int32) (a1 : Int32) (r0 : Int32) (r_r_asked : Int64) (hG : gX6_rateOfGoodbye r_asked t_tears t_goodbyes a1 = some (r0, r_r_asked)) : Met l yX6_rateOfGoodbye wsX6_rateOfGoodbye ({ frames := 2, cells := 0, slots := 0, locals := 42 } : Room) (va_Pc [.ref (qa 0), .int a1] (wq_pw (dC, dI) [(cI, .int), (cJ, .long), (cZ, .boolean)] (wcRT qa cI cJ cZ r_images r_asked t_tears t_gains t_likings t_settings t_goodbyes t_women) sz)) (wq_Wi (dC, dI) r0 wq_tr (wcRT qa cI cJ cZ r_images r_r_asked t_tears t_gains t_likings t_settings t_goodbyes t_women) (va_A (wcRT qa cI cJ cZ r_images r_asked t_tears t_gains t_likings t_settings t_goodbyes t_women) sz)) 0 0 (va_A (wcRT qa cI cJ cZ r_images r_asked t_tears t_gains t_likings t_settings t_goodbyes t_women) sz) := by
  refine Met.ofW (cc := cX6_rateOfGoodbye) (maxL := 2) (ret := (some .int)) (by decide) rfl ?_
  intro p e s m args below meth c s₁ B hml hv
  obtain ⟨rfl, hsz, hP, hK, hD0, hE⟩ := hv
  have hx := B.exec
  have hb := B.bytes
  have hr := B.returns
  have hts := atoms_spec (ws := wsX6_rateOfGoodbye) B.pre
  have hown : s.vm.findClass RX6 = some m.cls := findClass_of_methodNamed B.named
  have hlocks := B.notSynchronized
  subst hsz
  have hD := hD0.self (sz := s.heap.size)
  generalize hAe : va_A (wcRT qa cI cJ cZ r_images r_asked t_tears t_gains t_likings t_settings t_goodbyes t_women) s.heap.size = A at hD hE ⊢
  have hA : ∀ q : Nat, s.heap.size ≤ q → A q := fun q h => by rw [← hAe]; exact Or.inr h
  have hS : va_S A s.heap s.heap [] := va_S.rf
  have hinX6 : ∀ w ∈ u_ws RX6 TX6 9, w ∈ wsX6_rateOfGoodbye := by decide +kernel
  have k1 := hts (.fieldLink RX6 60 "DoorMornings" "asked" "J") (by decide +kernel)
  have k2 := hts (.fieldLink RX6 53 "DoorMornings" "told" "LDoorMornings$Told;") (by decide +kernel)
  have hl := lv_entry ([.ref (qa 0), .int a1]) (n := 2) (Nat.le_of_ble_eq_true rfl)
  rw [lg_entry_eq]
  generalize (lg_sl ([.ref (qa 0), .int a1]) ++ List.replicate (2 - (lg_sl ([.ref (qa 0), .int a1])).length) Slot.unset).toArray = ls at hl ⊢
  have hl : lv_has ls 2 [(0, .ref (qa 0)), (1, .int a1)] := hl
  unfold gX6_rateOfGoodbye at hG
  refine lv_aload_n hx hb dX6_rateOfGoodbye_0 rfl (lv_at hl 0 rfl) ?_
  refine lv_dup hx hb dX6_rateOfGoodbye_1 rfl ?_
  refine va_get (D := (dC, dI)) (ci := 6) (v := .long r_asked) (C := RX6) (T := TX6) (N := 9) hx hb hts hinX6 hown hK hP 0 rfl rfl 8 (by decide) k1 (fun _ h9 => h9) rfl dX6_rateOfGoodbye_2 ?_
  refine lv_lconst (v := 1) hx hb dX6_rateOfGoodbye_5 (by decide) ?_
  refine lv_ladd hx hb dX6_rateOfGoodbye_6 ?_
  refine va_put (D := (dC, dI)) (ci := 6) (v := .long (r_asked + 1)) (ty := tyX6 8) (C := RX6) (T := TX6) (N := 9) hx hb hts hinX6 tyX6 tyX6_ok nmX6 hown hK hP hD hS 0 rfl rfl 8 (by decide) k1 (fun _ h9 => h9) rfl (tyX6_ok 8 (by decide)) rfl rfl (Nat.le_of_ble_eq_true rfl) dX6_rateOfGoodbye_7 (fun H locs hP hD hS => ?_)
  replace hP : va_P (dC, dI) vwCl (wcRT qa cI cJ cZ r_images (r_asked + 1) t_tears t_gains t_likings t_settings t_goodbyes t_women) H := hP
  replace hD : va_D A (wcRT qa cI cJ cZ r_images (r_asked + 1) t_tears t_gains t_likings t_settings t_goodbyes t_women) := hD
  refine lv_aload_n hx hb dX6_rateOfGoodbye_10 rfl (lv_at hl 0 rfl) ?_
  refine va_get (D := (dC, dI)) (ci := 6) (v := .ref (qa 16)) (C := RX6) (T := TX6) (N := 9) hx hb hts hinX6 hown hK hP 0 rfl rfl 6 (by decide) k2 (fun _ h9 => h9) rfl dX6_rateOfGoodbye_11 ?_
  refine lv_iload_n hx hb dX6_rateOfGoodbye_14 rfl (lv_at hl 1 rfl) ?_
  obtain ⟨v2, g1, hG⟩ := wq_b1_s hG
  refine wq_ci (v := v2) (B := wq_tr) (va_runV (As := [.int a1]) (rest := []) ⟨hx, hb, hml, hown, hts⟩ (C_X5_tearsOf l dC dI cI cJ cZ qa H.size t_tears t_gains t_likings t_settings t_goodbyes t_women a1 v2 g1) (cwV 1 hts gX6_rateOfGoodbye_X5_tearsOf rfl rfl rfl hdV_X5_tearsOf ⟨Nat.le_of_ble_eq_true rfl, Nat.le_of_ble_eq_true rfl⟩) (wq_ppV hK (hP.sub (ws' := wcT qa cI cJ cZ t_tears t_gains t_likings t_settings t_goodbyes t_women) [2, 3, 4, 5, 6] rfl) hE hS hA (ci := 5) (q0 := 0) rfl rfl) rfl rfl hl.1 rfl (lv_room (Nat.le_of_ble_eq_true rfl)) dX6_rateOfGoodbye_15 ⟨Nat.zero_le _, Nat.zero_le _⟩) hS hA (fun H locs b3 hk hS => ?_)
  replace hP := wq_kp hP hk
  clear hk
  obtain ⟨e0, e1⟩ := wq_j2 hG
  subst e0
  subst e1
  exact W.iret hx hb hr (fun t ht hW => ⟨⟨_, (), rfl, ⟨rfl, trivial⟩, by rw [ht]; exact hP, hD⟩, hS.F ht⟩) hS.2.2 dX6_rateOfGoodbye_18

theorem hdV_X6_rateOfSlow : yX6_rateOfSlow.cls = RX6 ∧ yX6_rateOfSlow.cls ≠ "java/lang/invoke/MethodHandle" ∧ yX6_rateOfSlow.cls ≠ "java/lang/invoke/VarHandle" ∧ (parseMethodDescriptor yX6_rateOfSlow.desc).map (fun d => d.parameters.length) = some 1 := by decide +kernel
set_option maxHeartbeats 4000000 in
set_option maxRecDepth 100000 in
theorem C_X6_rateOfSlow (l : Launch) (dC : Nat → ClassId) (dI : Nat → Nat → Nat) (cI cJ cZ : ClassId) (qa : Nat → Nat) (sz : Nat) (r_images : Nat → Int64) (r_asked : Int64) (t_tears : Nat → Int32) (t_gains : Nat → Int32) (t_likings : Nat → Int32) (t_settings : Nat → Int32) (t_goodbyes : Int32) (t_women : Int32) (a1 : Int32) (r0 : Int32) (r_r_asked : Int64) (hG : gX6_rateOfSlow r_asked t_tears t_gains t_goodbyes a1 = some (r0, r_r_asked)) : Met l yX6_rateOfSlow wsX6_rateOfSlow ({ frames := 3, cells := 0, slots := 0, locals := 63 } : Room) (va_Pc [.ref (qa 0), .int a1] (wq_pw (dC, dI) [(cI, .int), (cJ, .long), (cZ, .boolean)] (wcRT qa cI cJ cZ r_images r_asked t_tears t_gains t_likings t_settings t_goodbyes t_women) sz)) (wq_Wi (dC, dI) r0 wq_tr (wcRT qa cI cJ cZ r_images r_r_asked t_tears t_gains t_likings t_settings t_goodbyes t_women) (va_A (wcRT qa cI cJ cZ r_images r_asked t_tears t_gains t_likings t_settings t_goodbyes t_women) sz)) 0 0 (va_A (wcRT qa cI cJ cZ r_images r_asked t_tears t_gains t_likings t_settings t_goodbyes t_women) sz) := by
  refine Met.ofW (cc := cX6_rateOfSlow) (maxL := 2) (ret := (some .int)) (by decide) rfl ?_
  intro p e s m args below meth c s₁ B hml hv
  obtain ⟨rfl, hsz, hP, hK, hD0, hE⟩ := hv
  have hx := B.exec
  have hb := B.bytes
  have hr := B.returns
  have hts := atoms_spec (ws := wsX6_rateOfSlow) B.pre
  have hown : s.vm.findClass RX6 = some m.cls := findClass_of_methodNamed B.named
  have hlocks := B.notSynchronized
  subst hsz
  have hD := hD0.self (sz := s.heap.size)
  generalize hAe : va_A (wcRT qa cI cJ cZ r_images r_asked t_tears t_gains t_likings t_settings t_goodbyes t_women) s.heap.size = A at hD hE ⊢
  have hA : ∀ q : Nat, s.heap.size ≤ q → A q := fun q h => by rw [← hAe]; exact Or.inr h
  have hS : va_S A s.heap s.heap [] := va_S.rf
  have hinX6 : ∀ w ∈ u_ws RX6 TX6 9, w ∈ wsX6_rateOfSlow := by decide +kernel
  have k1 := hts (.fieldLink RX6 60 "DoorMornings" "asked" "J") (by decide +kernel)
  have k2 := hts (.constantLong RX6 260 (10)) (by decide +kernel)
  have k3 := hts (.fieldLink RX6 53 "DoorMornings" "told" "LDoorMornings$Told;") (by decide +kernel)
  have hl := lv_entry ([.ref (qa 0), .int a1]) (n := 2) (Nat.le_of_ble_eq_true rfl)
  rw [lg_entry_eq]
  generalize (lg_sl ([.ref (qa 0), .int a1]) ++ List.replicate (2 - (lg_sl ([.ref (qa 0), .int a1])).length) Slot.unset).toArray = ls at hl ⊢
  have hl : lv_has ls 2 [(0, .ref (qa 0)), (1, .int a1)] := hl
  unfold gX6_rateOfSlow at hG
  refine lv_aload_n hx hb dX6_rateOfSlow_0 rfl (lv_at hl 0 rfl) ?_
  refine lv_dup hx hb dX6_rateOfSlow_1 rfl ?_
  refine va_get (D := (dC, dI)) (ci := 6) (v := .long r_asked) (C := RX6) (T := TX6) (N := 9) hx hb hts hinX6 hown hK hP 0 rfl rfl 8 (by decide) k1 (fun _ h9 => h9) rfl dX6_rateOfSlow_2 ?_
  refine lv_ldc2 (v := 10) hx hb hown k2 dX6_rateOfSlow_5 ?_
  refine lv_ladd hx hb dX6_rateOfSlow_8 ?_
  refine va_put (D := (dC, dI)) (ci := 6) (v := .long (r_asked + 10)) (ty := tyX6 8) (C := RX6) (T := TX6) (N := 9) hx hb hts hinX6 tyX6 tyX6_ok nmX6 hown hK hP hD hS 0 rfl rfl 8 (by decide) k1 (fun _ h9 => h9) rfl (tyX6_ok 8 (by decide)) rfl rfl (Nat.le_of_ble_eq_true rfl) dX6_rateOfSlow_9 (fun H locs hP hD hS => ?_)
  replace hP : va_P (dC, dI) vwCl (wcRT qa cI cJ cZ r_images (r_asked + 10) t_tears t_gains t_likings t_settings t_goodbyes t_women) H := hP
  replace hD : va_D A (wcRT qa cI cJ cZ r_images (r_asked + 10) t_tears t_gains t_likings t_settings t_goodbyes t_women) := hD
  refine lv_aload_n hx hb dX6_rateOfSlow_12 rfl (lv_at hl 0 rfl) ?_
  refine lv_iload_n hx hb dX6_rateOfSlow_13 rfl (lv_at hl 1 rfl) ?_
  obtain ⟨v2, w3, g1, hG⟩ := wq_b2_s hG
  have hFc := va_free (wc := wcRT qa cI cJ cZ r_images (r_asked + 10) t_tears t_gains t_likings t_settings t_goodbyes t_women) hD hS hA [0, 1, 2, 3, 4, 5, 6] rfl
  refine wq_di (D := (dC, dI)) (v := v2) (B := wq_tr) (wr := []) (w1 := wcRT qa cI cJ cZ r_images w3 t_tears t_gains t_likings t_settings t_goodbyes t_women) (w2 := wcRT qa cI cJ cZ r_images w3 t_tears t_gains t_likings t_settings t_goodbyes t_women) (va_runV (As := [.int a1]) (rest := []) ⟨hx, hb, hml, hown, hts⟩ (C_X6_rateOfGoodbye l dC dI cI cJ cZ qa H.size r_images (r_asked + 10) t_tears t_gains t_likings t_settings t_goodbyes t_women a1 v2 w3 g1) (cwV 1 hts gX6_rateOfSlow_X6_rateOfGoodbye rfl rfl rfl hdV_X6_rateOfGoodbye ⟨Nat.le_of_ble_eq_true rfl, Nat.le_of_ble_eq_true rfl⟩) (wq_pwV hK hP hD hE hS hFc (ci := 6) (q0 := 0) rfl rfl) rfl rfl hl.1 rfl (lv_room (Nat.le_of_ble_eq_true rfl)) dX6_rateOfSlow_14 ⟨Nat.zero_le _, Nat.zero_le _⟩) hP hD hS hFc [0, 1, 2, 3, 4, 5, 6] [] [0, 1, 2, 3, 4, 5, 6] rfl rfl (by decide) (by decide) (by decide) rfl (fun H locs b4 hP hD hS => ?_)
  clear hFc
  refine lv_aload_n hx hb dX6_rateOfSlow_17 rfl (lv_at hl 0 rfl) ?_
  refine va_get (D := (dC, dI)) (ci := 6) (v := .ref (qa 16)) (C := RX6) (T := TX6) (N := 9) hx hb hts hinX6 hown hK hP 0 rfl rfl 6 (by decide) k3 (fun _ h9 => h9) rfl dX6_rateOfSlow_18 ?_
  refine lv_iload_n hx hb dX6_rateOfSlow_21 rfl (lv_at hl 1 rfl) ?_
  obtain ⟨v6, g5, hG⟩ := wq_b1_s hG
  refine wq_ci (v := v6) (B := wq_tr) (va_runV (As := [.int a1]) (rest := [.int v2]) ⟨hx, hb, hml, hown, hts⟩ (C_X5_gainOf l dC dI cI cJ cZ qa H.size t_tears t_gains t_likings t_settings t_goodbyes t_women a1 v6 g5) (cwV 1 hts gX6_rateOfSlow_X5_gainOf rfl rfl rfl hdV_X5_gainOf ⟨Nat.le_of_ble_eq_true rfl, Nat.le_of_ble_eq_true rfl⟩) (wq_ppV hK (hP.sub (ws' := wcT qa cI cJ cZ t_tears t_gains t_likings t_settings t_goodbyes t_women) [2, 3, 4, 5, 6] rfl) hE hS hA (ci := 5) (q0 := 0) rfl rfl) rfl rfl hl.1 rfl (lv_room (Nat.le_of_ble_eq_true rfl)) dX6_rateOfSlow_22 ⟨Nat.zero_le _, Nat.zero_le _⟩) hS hA (fun H locs b7 hk hS => ?_)
  replace hP := wq_kp hP hk
  clear hk
  refine lv_iadd hx hb dX6_rateOfSlow_25 ?_
  obtain ⟨e0, e1⟩ := wq_j2 hG
  subst e0
  subst e1
  exact W.iret hx hb hr (fun t ht hW => ⟨⟨_, (), rfl, ⟨rfl, trivial⟩, by rw [ht]; exact hP, hD⟩, hS.F ht⟩) hS.2.2 dX6_rateOfSlow_26

theorem hdV_X6_rateOfQuick : yX6_rateOfQuick.cls = RX6 ∧ yX6_rateOfQuick.cls ≠ "java/lang/invoke/MethodHandle" ∧ yX6_rateOfQuick.cls ≠ "java/lang/invoke/VarHandle" ∧ (parseMethodDescriptor yX6_rateOfQuick.desc).map (fun d => d.parameters.length) = some 1 := by decide +kernel
set_option maxHeartbeats 4000000 in
set_option maxRecDepth 100000 in
theorem C_X6_rateOfQuick (l : Launch) (dC : Nat → ClassId) (dI : Nat → Nat → Nat) (cI cJ cZ : ClassId) (qa : Nat → Nat) (sz : Nat) (r_images : Nat → Int64) (r_asked : Int64) (n_likings : Nat → Int32) (n_day : Int32) (n_trust : Int32) (n_ill : Int32) (n_done : Int32) (t_tears : Nat → Int32) (t_gains : Nat → Int32) (t_likings : Nat → Int32) (t_settings : Nat → Int32) (t_goodbyes : Int32) (t_women : Int32) (a1 : Int32) (r0 : Int32) (r_r_asked : Int64) (hG : gX6_rateOfQuick r_asked n_trust t_tears t_goodbyes a1 = some (r0, r_r_asked)) : Met l yX6_rateOfQuick wsX6_rateOfQuick ({ frames := 3, cells := 0, slots := 0, locals := 63 } : Room) (va_Pc [.ref (qa 0), .int a1] (wq_pw (dC, dI) [(cI, .int), (cJ, .long), (cZ, .boolean)] (wcRNT qa cI cJ cZ r_images r_asked n_likings n_day n_trust n_ill n_done t_tears t_gains t_likings t_settings t_goodbyes t_women) sz)) (wq_Wi (dC, dI) r0 wq_tr (wcRNT qa cI cJ cZ r_images r_r_asked n_likings n_day n_trust n_ill n_done t_tears t_gains t_likings t_settings t_goodbyes t_women) (va_A (wcRNT qa cI cJ cZ r_images r_asked n_likings n_day n_trust n_ill n_done t_tears t_gains t_likings t_settings t_goodbyes t_women) sz)) 0 0 (va_A (wcRNT qa cI cJ cZ r_images r_asked n_likings n_day n_trust n_ill n_done t_tears t_gains t_likings t_settings t_goodbyes t_women) sz) := by
  refine Met.ofW (cc := cX6_rateOfQuick) (maxL := 2) (ret := (some .int)) (by decide) rfl ?_
  intro p e s m args below meth c s₁ B hml hv
  obtain ⟨rfl, hsz, hP, hK, hD0, hE⟩ := hv
  have hx := B.exec
  have hb := B.bytes
  have hr := B.returns
  have hts := atoms_spec (ws := wsX6_rateOfQuick) B.pre
  have hown : s.vm.findClass RX6 = some m.cls := findClass_of_methodNamed B.named
  have hlocks := B.notSynchronized
  subst hsz
  have hD := hD0.self (sz := s.heap.size)
  generalize hAe : va_A (wcRNT qa cI cJ cZ r_images r_asked n_likings n_day n_trust n_ill n_done t_tears t_gains t_likings t_settings t_goodbyes t_women) s.heap.size = A at hD hE ⊢
  have hA : ∀ q : Nat, s.heap.size ≤ q → A q := fun q h => by rw [← hAe]; exact Or.inr h
  have hS : va_S A s.heap s.heap [] := va_S.rf
  have hinX6 : ∀ w ∈ u_ws RX6 TX6 9, w ∈ wsX6_rateOfQuick := by decide +kernel
  have hinX0 : ∀ w ∈ u_ws RX0 TX0 5, w ∈ wsX6_rateOfQuick := by decide +kernel
  have k1 := hts (.fieldLink RX6 60 "DoorMornings" "asked" "J") (by decide +kernel)
  have k2 := hts (.constantLong RX6 262 (100)) (by decide +kernel)
  have k3 := hts (.fieldLink RX6 19 "DoorMornings" "today" "LDoorMornings$Now;") (by decide +kernel)
  have k4 := hts (.fieldLink RX6 113 "DoorMornings$Now" "trust" "I") (by decide +kernel)
  have hl := lv_entry ([.ref (qa 0), .int a1]) (n := 2) (Nat.le_of_ble_eq_true rfl)
  rw [lg_entry_eq]
  generalize (lg_sl ([.ref (qa 0), .int a1]) ++ List.replicate (2 - (lg_sl ([.ref (qa 0), .int a1])).length) Slot.unset).toArray = ls at hl ⊢
  have hl : lv_has ls 2 [(0, .ref (qa 0)), (1, .int a1)] := hl
  unfold gX6_rateOfQuick at hG
  refine lv_aload_n hx hb dX6_rateOfQuick_0 rfl (lv_at hl 0 rfl) ?_
  refine lv_dup hx hb dX6_rateOfQuick_1 rfl ?_
  refine va_get (D := (dC, dI)) (ci := 6) (v := .long r_asked) (C := RX6) (T := TX6) (N := 9) hx hb hts hinX6 hown hK hP 0 rfl rfl 8 (by decide) k1 (fun _ h9 => h9) rfl dX6_rateOfQuick_2 ?_
  refine lv_ldc2 (v := 100) hx hb hown k2 dX6_rateOfQuick_5 ?_
  refine lv_ladd hx hb dX6_rateOfQuick_8 ?_
  refine va_put (D := (dC, dI)) (ci := 6) (v := .long (r_asked + 100)) (ty := tyX6 8) (C := RX6) (T := TX6) (N := 9) hx hb hts hinX6 tyX6 tyX6_ok nmX6 hown hK hP hD hS 0 rfl rfl 8 (by decide) k1 (fun _ h9 => h9) rfl (tyX6_ok 8 (by decide)) rfl rfl (Nat.le_of_ble_eq_true rfl) dX6_rateOfQuick_9 (fun H locs hP hD hS => ?_)
  replace hP : va_P (dC, dI) vwCl (wcRNT qa cI cJ cZ r_images (r_asked + 100) n_likings n_day n_trust n_ill n_done t_tears t_gains t_likings t_settings t_goodbyes t_women) H := hP
  replace hD : va_D A (wcRNT qa cI cJ cZ r_images (r_asked + 100) n_likings n_day n_trust n_ill n_done t_tears t_gains t_likings t_settings t_goodbyes t_women) := hD
  refine lv_aload_n hx hb dX6_rateOfQuick_12 rfl (lv_at hl 0 rfl) ?_
  refine lv_iload_n hx hb dX6_rateOfQuick_13 rfl (lv_at hl 1 rfl) ?_
  obtain ⟨v2, w3, g1, hG⟩ := wq_b2_s hG
  have hFc := va_free (wc := wcRT qa cI cJ cZ r_images (r_asked + 100) t_tears t_gains t_likings t_settings t_goodbyes t_women) hD hS hA [0, 1, 4, 5, 6, 7, 8] rfl
  refine wq_di (D := (dC, dI)) (v := v2) (B := wq_tr) (wr := wcN qa cI cJ cZ n_likings n_day n_trust n_ill n_done) (w1 := wcRT qa cI cJ cZ r_images w3 t_tears t_gains t_likings t_settings t_goodbyes t_women) (w2 := wcRNT qa cI cJ cZ r_images w3 n_likings n_day n_trust n_ill n_done t_tears t_gains t_likings t_settings t_goodbyes t_women) (va_runV (As := [.int a1]) (rest := []) ⟨hx, hb, hml, hown, hts⟩ (C_X6_rateOfGoodbye l dC dI cI cJ cZ qa H.size r_images (r_asked + 100) t_tears t_gains t_likings t_settings t_goodbyes t_women a1 v2 w3 g1) (cwV 1 hts gX6_rateOfQuick_X6_rateOfGoodbye rfl rfl rfl hdV_X6_rateOfGoodbye ⟨Nat.le_of_ble_eq_true rfl, Nat.le_of_ble_eq_true rfl⟩) (wq_pwV hK (hP.sub (ws' := wcRT qa cI cJ cZ r_images (r_asked + 100) t_tears t_gains t_likings t_settings t_goodbyes t_women) [0, 1, 4, 5, 6, 7, 8] rfl) (hD.sub (ws' := wcRT qa cI cJ cZ r_images (r_asked + 100) t_tears t_gains t_likings t_settings t_goodbyes t_women) [0, 1, 4, 5, 6, 7, 8] (by decide) rfl) hE hS hFc (ci := 6) (q0 := 0) rfl rfl) rfl rfl hl.1 rfl (lv_room (Nat.le_of_ble_eq_true rfl)) dX6_rateOfQuick_14 ⟨Nat.zero_le _, Nat.zero_le _⟩) hP hD hS hFc [0, 1, 4, 5, 6, 7, 8] [2, 3] [2, 3, 0, 1, 4, 5, 6, 7, 8] rfl rfl (by decide) (by decide) (by decide) rfl (fun H locs b4 hP hD hS => ?_)
  clear hFc
  refine lv_aload_n hx hb dX6_rateOfQuick_17 rfl (lv_at hl 0 rfl) ?_
  refine va_get (D := (dC, dI)) (ci := 6) (v := .ref (qa 3)) (C := RX6) (T := TX6) (N := 9) hx hb hts hinX6 hown hK hP 0 rfl rfl 1 (by decide) k3 (fun _ h9 => h9) rfl dX6_rateOfQuick_18 ?_
  refine va_get (D := (dC, dI)) (ci := 0) (v := .int n_trust) (C := RX0) (T := TX0) (N := 5) hx hb hts hinX0 hown hK hP 2 rfl rfl 2 (by decide) k4 (fun _ h9 => h9) rfl dX6_rateOfQuick_21 ?_
  refine lv_isub hx hb dX6_rateOfQuick_24 ?_
  obtain ⟨e0, e1⟩ := wq_j2 hG
  subst e0
  subst e1
  exact W.iret hx hb hr (fun t ht hW => ⟨⟨_, (), rfl, ⟨rfl, trivial⟩, by rw [ht]; exact hP, hD⟩, hS.F ht⟩) hS.2.2 dX6_rateOfQuick_25

theorem hdV_X6_rateOfWave : yX6_rateOfWave.cls = RX6 ∧ yX6_rateOfWave.cls ≠ "java/lang/invoke/MethodHandle" ∧ yX6_rateOfWave.cls ≠ "java/lang/invoke/VarHandle" ∧ (parseMethodDescriptor yX6_rateOfWave.desc).map (fun d => d.parameters.length) = some 1 := by decide +kernel
set_option maxHeartbeats 4000000 in
set_option maxRecDepth 100000 in
theorem C_X6_rateOfWave (l : Launch) (dC : Nat → ClassId) (dI : Nat → Nat → Nat) (cI cJ cZ : ClassId) (qa : Nat → Nat) (sz : Nat) (r_images : Nat → Int64) (r_asked : Int64) (t_tears : Nat → Int32) (t_gains : Nat → Int32) (t_likings : Nat → Int32) (t_settings : Nat → Int32) (t_goodbyes : Int32) (t_women : Int32) (a1 : Int32) (r0 : Int32) (r_r_asked : Int64) (hG : gX6_rateOfWave r_asked t_tears t_gains t_goodbyes a1 = some (r0, r_r_asked)) : Met l yX6_rateOfWave wsX6_rateOfWave ({ frames := 4, cells := 0, slots := 0, locals := 84 } : Room) (va_Pc [.ref (qa 0), .int a1] (wq_pw (dC, dI) [(cI, .int), (cJ, .long), (cZ, .boolean)] (wcRT qa cI cJ cZ r_images r_asked t_tears t_gains t_likings t_settings t_goodbyes t_women) sz)) (wq_Wi (dC, dI) r0 wq_tr (wcRT qa cI cJ cZ r_images r_r_asked t_tears t_gains t_likings t_settings t_goodbyes t_women) (va_A (wcRT qa cI cJ cZ r_images r_asked t_tears t_gains t_likings t_settings t_goodbyes t_women) sz)) 0 0 (va_A (wcRT qa cI cJ cZ r_images r_asked t_tears t_gains t_likings t_settings t_goodbyes t_women) sz) := by
  refine Met.ofW (cc := cX6_rateOfWave) (maxL := 2) (ret := (some .int)) (by decide) rfl ?_
  intro p e s m args below meth c s₁ B hml hv
  obtain ⟨rfl, hsz, hP, hK, hD0, hE⟩ := hv
  have hx := B.exec
  have hb := B.bytes
  have hr := B.returns
  have hts := atoms_spec (ws := wsX6_rateOfWave) B.pre
  have hown : s.vm.findClass RX6 = some m.cls := findClass_of_methodNamed B.named
  have hlocks := B.notSynchronized
  subst hsz
  have hD := hD0.self (sz := s.heap.size)
  generalize hAe : va_A (wcRT qa cI cJ cZ r_images r_asked t_tears t_gains t_likings t_settings t_goodbyes t_women) s.heap.size = A at hD hE ⊢
  have hA : ∀ q : Nat, s.heap.size ≤ q → A q := fun q h => by rw [← hAe]; exact Or.inr h
  have hS : va_S A s.heap s.heap [] := va_S.rf
  have hinX6 : ∀ w ∈ u_ws RX6 TX6 9, w ∈ wsX6_rateOfWave := by decide +kernel
  have k1 := hts (.fieldLink RX6 60 "DoorMornings" "asked" "J") (by decide +kernel)
  have k2 := hts (.constantLong RX6 264 (1000)) (by decide +kernel)
  have hl := lv_entry ([.ref (qa 0), .int a1]) (n := 2) (Nat.le_of_ble_eq_true rfl)
  rw [lg_entry_eq]
  generalize (lg_sl ([.ref (qa 0), .int a1]) ++ List.replicate (2 - (lg_sl ([.ref (qa 0), .int a1])).length) Slot.unset).toArray = ls at hl ⊢
  have hl : lv_has ls 2 [(0, .ref (qa 0)), (1, .int a1)] := hl
  unfold gX6_rateOfWave at hG
  refine lv_aload_n hx hb dX6_rateOfWave_0 rfl (lv_at hl 0 rfl) ?_
  refine lv_dup hx hb dX6_rateOfWave_1 rfl ?_
  refine va_get (D := (dC, dI)) (ci := 6) (v := .long r_asked) (C := RX6) (T := TX6) (N := 9) hx hb hts hinX6 hown hK hP 0 rfl rfl 8 (by decide) k1 (fun _ h9 => h9) rfl dX6_rateOfWave_2 ?_
  refine lv_ldc2 (v := 1000) hx hb hown k2 dX6_rateOfWave_5 ?_
  refine lv_ladd hx hb dX6_rateOfWave_8 ?_
  refine va_put (D := (dC, dI)) (ci := 6) (v := .long (r_asked + 1000)) (ty := tyX6 8) (C := RX6) (T := TX6) (N := 9) hx hb hts hinX6 tyX6 tyX6_ok nmX6 hown hK hP hD hS 0 rfl rfl 8 (by decide) k1 (fun _ h9 => h9) rfl (tyX6_ok 8 (by decide)) rfl rfl (Nat.le_of_ble_eq_true rfl) dX6_rateOfWave_9 (fun H locs hP hD hS => ?_)
  replace hP : va_P (dC, dI) vwCl (wcRT qa cI cJ cZ r_images (r_asked + 1000) t_tears t_gains t_likings t_settings t_goodbyes t_women) H := hP
  replace hD : va_D A (wcRT qa cI cJ cZ r_images (r_asked + 1000) t_tears t_gains t_likings t_settings t_goodbyes t_women) := hD
  refine lv_iconst (v := 2) hx hb dX6_rateOfWave_12 (by decide) ?_
  refine lv_aload_n hx hb dX6_rateOfWave_13 rfl (lv_at hl 0 rfl) ?_
  refine lv_iload_n hx hb dX6_rateOfWave_14 rfl (lv_at hl 1 rfl) ?_
  obtain ⟨v2, w3, g1, hG⟩ := wq_b2_s hG
  have hFc := va_free (wc := wcRT qa cI cJ cZ r_images (r_asked + 1000) t_tears t_gains t_likings t_settings t_goodbyes t_women) hD hS hA [0, 1, 2, 3, 4, 5, 6] rfl
  refine wq_di (D := (dC, dI)) (v := v2) (B := wq_tr) (wr := []) (w1 := wcRT qa cI cJ cZ r_images w3 t_tears t_gains t_likings t_settings t_goodbyes t_women) (w2 := wcRT qa cI cJ cZ r_images w3 t_tears t_gains t_likings t_settings t_goodbyes t_women) (va_runV (As := [.int a1]) (rest := [.int 2]) ⟨hx, hb, hml, hown, hts⟩ (C_X6_rateOfSlow l dC dI cI cJ cZ qa H.size r_images (r_asked + 1000) t_tears t_gains t_likings t_settings t_goodbyes t_women a1 v2 w3 g1) (cwV 1 hts gX6_rateOfWave_X6_rateOfSlow rfl rfl rfl hdV_X6_rateOfSlow ⟨Nat.le_of_ble_eq_true rfl, Nat.le_of_ble_eq_true rfl⟩) (wq_pwV hK hP hD hE hS hFc (ci := 6) (q0 := 0) rfl rfl) rfl rfl hl.1 rfl (lv_room (Nat.le_of_ble_eq_true rfl)) dX6_rateOfWave_15 ⟨Nat.zero_le _, Nat.zero_le _⟩) hP hD hS hFc [0, 1, 2, 3, 4, 5, 6] [] [0, 1, 2, 3, 4, 5, 6] rfl rfl (by decide) (by decide) (by decide) rfl (fun H locs b4 hP hD hS => ?_)
  clear hFc
  refine lv_imul hx hb dX6_rateOfWave_18 ?_
  obtain ⟨e0, e1⟩ := wq_j2 hG
  subst e0
  subst e1
  exact W.iret hx hb hr (fun t ht hW => ⟨⟨_, (), rfl, ⟨rfl, trivial⟩, by rw [ht]; exact hP, hD⟩, hS.F ht⟩) hS.2.2 dX6_rateOfWave_19

theorem hdV_X6_rateOfUnseen : yX6_rateOfUnseen.cls = RX6 ∧ yX6_rateOfUnseen.cls ≠ "java/lang/invoke/MethodHandle" ∧ yX6_rateOfUnseen.cls ≠ "java/lang/invoke/VarHandle" ∧ (parseMethodDescriptor yX6_rateOfUnseen.desc).map (fun d => d.parameters.length) = some 1 := by decide +kernel
set_option maxHeartbeats 4000000 in
set_option maxRecDepth 100000 in
theorem C_X6_rateOfUnseen (l : Launch) (dC : Nat → ClassId) (dI : Nat → Nat → Nat) (cI cJ cZ : ClassId) (qa : Nat → Nat) (sz : Nat) (r_images : Nat → Int64) (r_asked : Int64) (n_likings : Nat → Int32) (n_day : Int32) (n_trust : Int32) (n_ill : Int32) (n_done : Int32) (t_tears : Nat → Int32) (t_gains : Nat → Int32) (t_likings : Nat → Int32) (t_settings : Nat → Int32) (t_goodbyes : Int32) (t_women : Int32) (a1 : Int32) (r0 : Int32) (r_r_asked : Int64) (hG : gX6_rateOfUnseen r_asked n_trust t_tears t_goodbyes a1 = some (r0, r_r_asked)) : Met l yX6_rateOfUnseen wsX6_rateOfUnseen ({ frames := 4, cells := 0, slots := 0, locals := 84 } : Room) (va_Pc [.ref (qa 0), .int a1] (wq_pw (dC, dI) [(cI, .int), (cJ, .long), (cZ, .boolean)] (wcRNT qa cI cJ cZ r_images r_asked n_likings n_day n_trust n_ill n_done t_tears t_gains t_likings t_settings t_goodbyes t_women) sz)) (wq_Wi (dC, dI) r0 wq_tr (wcRNT qa cI cJ cZ r_images r_r_asked n_likings n_day n_trust n_ill n_done t_tears t_gains t_likings t_settings t_goodbyes t_women) (va_A (wcRNT qa cI cJ cZ r_images r_asked n_likings n_day n_trust n_ill n_done t_tears t_gains t_likings t_settings t_goodbyes t_women) sz)) 0 0 (va_A (wcRNT qa cI cJ cZ r_images r_asked n_likings n_day n_trust n_ill n_done t_tears t_gains t_likings t_settings t_goodbyes t_women) sz) := by
  refine Met.ofW (cc := cX6_rateOfUnseen) (maxL := 2) (ret := (some .int)) (by decide) rfl ?_
  intro p e s m args below meth c s₁ B hml hv
  obtain ⟨rfl, hsz, hP, hK, hD0, hE⟩ := hv
  have hx := B.exec
  have hb := B.bytes
  have hr := B.returns
  have hts := atoms_spec (ws := wsX6_rateOfUnseen) B.pre
  have hown : s.vm.findClass RX6 = some m.cls := findClass_of_methodNamed B.named
  have hlocks := B.notSynchronized
  subst hsz
  have hD := hD0.self (sz := s.heap.size)
  generalize hAe : va_A (wcRNT qa cI cJ cZ r_images r_asked n_likings n_day n_trust n_ill n_done t_tears t_gains t_likings t_settings t_goodbyes t_women) s.heap.size = A at hD hE ⊢
  have hA : ∀ q : Nat, s.heap.size ≤ q → A q := fun q h => by rw [← hAe]; exact Or.inr h
  have hS : va_S A s.heap s.heap [] := va_S.rf
  have hinX6 : ∀ w ∈ u_ws RX6 TX6 9, w ∈ wsX6_rateOfUnseen := by decide +kernel
  have k1 := hts (.fieldLink RX6 60 "DoorMornings" "asked" "J") (by decide +kernel)
  have k2 := hts (.constantLong RX6 266 (10000)) (by decide +kernel)
  have hl := lv_entry ([.ref (qa 0), .int a1]) (n := 2) (Nat.le_of_ble_eq_true rfl)
  rw [lg_entry_eq]
  generalize (lg_sl ([.ref (qa 0), .int a1]) ++ List.replicate (2 - (lg_sl ([.ref (qa 0), .int a1])).length) Slot.unset).toArray = ls at hl ⊢
  have hl : lv_has ls 2 [(0, .ref (qa 0)), (1, .int a1)] := hl
  unfold gX6_rateOfUnseen at hG
  refine lv_aload_n hx hb dX6_rateOfUnseen_0 rfl (lv_at hl 0 rfl) ?_
  refine lv_dup hx hb dX6_rateOfUnseen_1 rfl ?_
  refine va_get (D := (dC, dI)) (ci := 6) (v := .long r_asked) (C := RX6) (T := TX6) (N := 9) hx hb hts hinX6 hown hK hP 0 rfl rfl 8 (by decide) k1 (fun _ h9 => h9) rfl dX6_rateOfUnseen_2 ?_
  refine lv_ldc2 (v := 10000) hx hb hown k2 dX6_rateOfUnseen_5 ?_
  refine lv_ladd hx hb dX6_rateOfUnseen_8 ?_
  refine va_put (D := (dC, dI)) (ci := 6) (v := .long (r_asked + 10000)) (ty := tyX6 8) (C := RX6) (T := TX6) (N := 9) hx hb hts hinX6 tyX6 tyX6_ok nmX6 hown hK hP hD hS 0 rfl rfl 8 (by decide) k1 (fun _ h9 => h9) rfl (tyX6_ok 8 (by decide)) rfl rfl (Nat.le_of_ble_eq_true rfl) dX6_rateOfUnseen_9 (fun H locs hP hD hS => ?_)
  replace hP : va_P (dC, dI) vwCl (wcRNT qa cI cJ cZ r_images (r_asked + 10000) n_likings n_day n_trust n_ill n_done t_tears t_gains t_likings t_settings t_goodbyes t_women) H := hP
  replace hD : va_D A (wcRNT qa cI cJ cZ r_images (r_asked + 10000) n_likings n_day n_trust n_ill n_done t_tears t_gains t_likings t_settings t_goodbyes t_women) := hD
  refine lv_aload_n hx hb dX6_rateOfUnseen_12 rfl (lv_at hl 0 rfl) ?_
  refine lv_iload_n hx hb dX6_rateOfUnseen_13 rfl (lv_at hl 1 rfl) ?_
  obtain ⟨v2, w3, g1, hG⟩ := wq_b2_s hG
  have hFc := va_free (wc := wcRNT qa cI cJ cZ r_images (r_asked + 10000) n_likings n_day n_trust n_ill n_done t_tears t_gains t_likings t_settings t_goodbyes t_women) hD hS hA [0, 1, 2, 3, 4, 5, 6, 7, 8] rfl
  refine wq_di (D := (dC, dI)) (v := v2) (B := wq_tr) (wr := []) (w1 := wcRNT qa cI cJ cZ r_images w3 n_likings n_day n_trust n_ill n_done t_tears t_gains t_likings t_settings t_goodbyes t_women) (w2 := wcRNT qa cI cJ cZ r_images w3 n_likings n_day n_trust n_ill n_done t_tears t_gains t_likings t_settings t_goodbyes t_women) (va_runV (As := [.int a1]) (rest := []) ⟨hx, hb, hml, hown, hts⟩ (C_X6_rateOfQuick l dC dI cI cJ cZ qa H.size r_images (r_asked + 10000) n_likings n_day n_trust n_ill n_done t_tears t_gains t_likings t_settings t_goodbyes t_women a1 v2 w3 g1) (cwV 1 hts gX6_rateOfUnseen_X6_rateOfQuick rfl rfl rfl hdV_X6_rateOfQuick ⟨Nat.le_of_ble_eq_true rfl, Nat.le_of_ble_eq_true rfl⟩) (wq_pwV hK hP hD hE hS hFc (ci := 6) (q0 := 0) rfl rfl) rfl rfl hl.1 rfl (lv_room (Nat.le_of_ble_eq_true rfl)) dX6_rateOfUnseen_14 ⟨Nat.zero_le _, Nat.zero_le _⟩) hP hD hS hFc [0, 1, 2, 3, 4, 5, 6, 7, 8] [] [0, 1, 2, 3, 4, 5, 6, 7, 8] rfl rfl (by decide) (by decide) (by decide) rfl (fun H locs b4 hP hD hS => ?_)
  clear hFc
  refine lv_iload_n hx hb dX6_rateOfUnseen_17 rfl (lv_at hl 1 rfl) ?_
  refine lv_iadd hx hb dX6_rateOfUnseen_18 ?_
  obtain ⟨e0, e1⟩ := wq_j2 hG
  subst e0
  subst e1
  exact W.iret hx hb hr (fun t ht hW => ⟨⟨_, (), rfl, ⟨rfl, trivial⟩, by rw [ht]; exact hP, hD⟩, hS.F ht⟩) hS.2.2 dX6_rateOfUnseen_19

theorem hdV_X6_rateOfKiss : yX6_rateOfKiss.cls = RX6 ∧ yX6_rateOfKiss.cls ≠ "java/lang/invoke/MethodHandle" ∧ yX6_rateOfKiss.cls ≠ "java/lang/invoke/VarHandle" ∧ (parseMethodDescriptor yX6_rateOfKiss.desc).map (fun d => d.parameters.length) = some 1 := by decide +kernel
set_option maxHeartbeats 4000000 in
set_option maxRecDepth 100000 in
theorem C_X6_rateOfKiss (l : Launch) (dC : Nat → ClassId) (dI : Nat → Nat → Nat) (cI cJ cZ : ClassId) (qa : Nat → Nat) (sz : Nat) (r_images : Nat → Int64) (r_asked : Int64) (n_likings : Nat → Int32) (n_day : Int32) (n_trust : Int32) (n_ill : Int32) (n_done : Int32) (t_tears : Nat → Int32) (t_gains : Nat → Int32) (t_likings : Nat → Int32) (t_settings : Nat → Int32) (t_goodbyes : Int32) (t_women : Int32) (a1 : Int32) (r0 : Int32) (r_r_asked : Int64) (hG : gX6_rateOfKiss r_asked n_day t_tears t_goodbyes a1 = some (r0, r_r_asked)) : Met l yX6_rateOfKiss wsX6_rateOfKiss ({ frames := 3, cells := 0, slots := 0, locals := 63 } : Room) (va_Pc [.ref (qa 0), .int a1] (wq_pw (dC, dI) [(cI, .int), (cJ, .long), (cZ, .boolean)] (wcRNT qa cI cJ cZ r_images r_asked n_likings n_day n_trust n_ill n_done t_tears t_gains t_likings t_settings t_goodbyes t_women) sz)) (wq_Wi (dC, dI) r0 wq_tr (wcRNT qa cI cJ cZ r_images r_r_asked n_likings n_day n_trust n_ill n_done t_tears t_gains t_likings t_settings t_goodbyes t_women) (va_A (wcRNT qa cI cJ cZ r_images r_asked n_likings n_day n_trust n_ill n_done t_tears t_gains t_likings t_settings t_goodbyes t_women) sz)) 0 0 (va_A (wcRNT qa cI cJ cZ r_images r_asked n_likings n_day n_trust n_ill n_done t_tears t_gains t_likings t_settings t_goodbyes t_women) sz) := by
  refine Met.ofW (cc := cX6_rateOfKiss) (maxL := 2) (ret := (some .int)) (by decide) rfl ?_
  intro p e s m args below meth c s₁ B hml hv
  obtain ⟨rfl, hsz, hP, hK, hD0, hE⟩ := hv
  have hx := B.exec
  have hb := B.bytes
  have hr := B.returns
  have hts := atoms_spec (ws := wsX6_rateOfKiss) B.pre
  have hown : s.vm.findClass RX6 = some m.cls := findClass_of_methodNamed B.named
  have hlocks := B.notSynchronized
  subst hsz
  have hD := hD0.self (sz := s.heap.size)
  generalize hAe : va_A (wcRNT qa cI cJ cZ r_images r_asked n_likings n_day n_trust n_ill n_done t_tears t_gains t_likings t_settings t_goodbyes t_women) s.heap.size = A at hD hE ⊢
  have hA : ∀ q : Nat, s.heap.size ≤ q → A q := fun q h => by rw [← hAe]; exact Or.inr h
  have hS : va_S A s.heap s.heap [] := va_S.rf
  have hinX6 : ∀ w ∈ u_ws RX6 TX6 9, w ∈ wsX6_rateOfKiss := by decide +kernel
  have hinX0 : ∀ w ∈ u_ws RX0 TX0 5, w ∈ wsX6_rateOfKiss := by decide +kernel
  have k1 := hts (.fieldLink RX6 60 "DoorMornings" "asked" "J") (by decide +kernel)
  have k2 := hts (.constantLong RX6 268 (100000)) (by decide +kernel)
  have k3 := hts (.fieldLink RX6 19 "DoorMornings" "today" "LDoorMornings$Now;") (by decide +kernel)
  have k4 := hts (.fieldLink RX6 109 "DoorMornings$Now" "day" "I") (by decide +kernel)
  have hl := lv_entry ([.ref (qa 0), .int a1]) (n := 2) (Nat.le_of_ble_eq_true rfl)
  rw [lg_entry_eq]
  generalize (lg_sl ([.ref (qa 0), .int a1]) ++ List.replicate (2 - (lg_sl ([.ref (qa 0), .int a1])).length) Slot.unset).toArray = ls at hl ⊢
  have hl : lv_has ls 2 [(0, .ref (qa 0)), (1, .int a1)] := hl
  unfold gX6_rateOfKiss at hG
  refine lv_aload_n hx hb dX6_rateOfKiss_0 rfl (lv_at hl 0 rfl) ?_
  refine lv_dup hx hb dX6_rateOfKiss_1 rfl ?_
  refine va_get (D := (dC, dI)) (ci := 6) (v := .long r_asked) (C := RX6) (T := TX6) (N := 9) hx hb hts hinX6 hown hK hP 0 rfl rfl 8 (by decide) k1 (fun _ h9 => h9) rfl dX6_rateOfKiss_2 ?_
  refine lv_ldc2 (v := 100000) hx hb hown k2 dX6_rateOfKiss_5 ?_
  refine lv_ladd hx hb dX6_rateOfKiss_8 ?_
  refine va_put (D := (dC, dI)) (ci := 6) (v := .long (r_asked + 100000)) (ty := tyX6 8) (C := RX6) (T := TX6) (N := 9) hx hb hts hinX6 tyX6 tyX6_ok nmX6 hown hK hP hD hS 0 rfl rfl 8 (by decide) k1 (fun _ h9 => h9) rfl (tyX6_ok 8 (by decide)) rfl rfl (Nat.le_of_ble_eq_true rfl) dX6_rateOfKiss_9 (fun H locs hP hD hS => ?_)
  replace hP : va_P (dC, dI) vwCl (wcRNT qa cI cJ cZ r_images (r_asked + 100000) n_likings n_day n_trust n_ill n_done t_tears t_gains t_likings t_settings t_goodbyes t_women) H := hP
  replace hD : va_D A (wcRNT qa cI cJ cZ r_images (r_asked + 100000) n_likings n_day n_trust n_ill n_done t_tears t_gains t_likings t_settings t_goodbyes t_women) := hD
  refine lv_aload_n hx hb dX6_rateOfKiss_12 rfl (lv_at hl 0 rfl) ?_
  refine lv_iload_n hx hb dX6_rateOfKiss_13 rfl (lv_at hl 1 rfl) ?_
  obtain ⟨v2, w3, g1, hG⟩ := wq_b2_s hG
  have hFc := va_free (wc := wcRT qa cI cJ cZ r_images (r_asked + 100000) t_tears t_gains t_likings t_settings t_goodbyes t_women) hD hS hA [0, 1, 4, 5, 6, 7, 8] rfl
  refine wq_di (D := (dC, dI)) (v := v2) (B := wq_tr) (wr := wcN qa cI cJ cZ n_likings n_day n_trust n_ill n_done) (w1 := wcRT qa cI cJ cZ r_images w3 t_tears t_gains t_likings t_settings t_goodbyes t_women) (w2 := wcRNT qa cI cJ cZ r_images w3 n_likings n_day n_trust n_ill n_done t_tears t_gains t_likings t_settings t_goodbyes t_women) (va_runV (As := [.int a1]) (rest := []) ⟨hx, hb, hml, hown, hts⟩ (C_X6_rateOfGoodbye l dC dI cI cJ cZ qa H.size r_images (r_asked + 100000) t_tears t_gains t_likings t_settings t_goodbyes t_women a1 v2 w3 g1) (cwV 1 hts gX6_rateOfKiss_X6_rateOfGoodbye rfl rfl rfl hdV_X6_rateOfGoodbye ⟨Nat.le_of_ble_eq_true rfl, Nat.le_of_ble_eq_true rfl⟩) (wq_pwV hK (hP.sub (ws' := wcRT qa cI cJ cZ r_images (r_asked + 100000) t_tears t_gains t_likings t_settings t_goodbyes t_women) [0, 1, 4, 5, 6, 7, 8] rfl) (hD.sub (ws' := wcRT qa cI cJ cZ r_images (r_asked + 100000) t_tears t_gains t_likings t_settings t_goodbyes t_women) [0, 1, 4, 5, 6, 7, 8] (by decide) rfl) hE hS hFc (ci := 6) (q0 := 0) rfl rfl) rfl rfl hl.1 rfl (lv_room (Nat.le_of_ble_eq_true rfl)) dX6_rateOfKiss_14 ⟨Nat.zero_le _, Nat.zero_le _⟩) hP hD hS hFc [0, 1, 4, 5, 6, 7, 8] [2, 3] [2, 3, 0, 1, 4, 5, 6, 7, 8] rfl rfl (by decide) (by decide) (by decide) rfl (fun H locs b4 hP hD hS => ?_)
  clear hFc
  refine lv_aload_n hx hb dX6_rateOfKiss_17 rfl (lv_at hl 0 rfl) ?_
  refine va_get (D := (dC, dI)) (ci := 6) (v := .ref (qa 3)) (C := RX6) (T := TX6) (N := 9) hx hb hts hinX6 hown hK hP 0 rfl rfl 1 (by decide) k3 (fun _ h9 => h9) rfl dX6_rateOfKiss_18 ?_
  refine va_get (D := (dC, dI)) (ci := 0) (v := .int n_day) (C := RX0) (T := TX0) (N := 5) hx hb hts hinX0 hown hK hP 2 rfl rfl 1 (by decide) k4 (fun _ h9 => h9) rfl dX6_rateOfKiss_21 ?_
  refine lv_iadd hx hb dX6_rateOfKiss_24 ?_
  obtain ⟨e0, e1⟩ := wq_j2 hG
  subst e0
  subst e1
  exact W.iret hx hb hr (fun t ht hW => ⟨⟨_, (), rfl, ⟨rfl, trivial⟩, by rw [ht]; exact hP, hD⟩, hS.F ht⟩) hS.2.2 dX6_rateOfKiss_25

