def gX6_keep (r_images : Nat → Int64) (n_likings : Nat → Int32) (n_day : Int32) (n_trust : Int32) (n_ill : Int32) (n_done : Int32) (a1 : Int32) : Option (Int32 × (Nat → Int64)) :=
    if a1 < 0 then
    some ((-1), r_images)
    else
    (if a1 < 2 then
    wq_b1 (gX0_folded n_likings n_day n_trust n_ill n_done) (fun v4 =>
    wq_chk a1 2 (some (n_day, (vp_updL r_images (Int32.toNatClampNeg a1) v4))))
    else
    some ((-1), r_images))
theorem hdV_X6_keep : yX6_keep.cls = RX6 ∧ yX6_keep.cls ≠ "java/lang/invoke/MethodHandle" ∧ yX6_keep.cls ≠ "java/lang/invoke/VarHandle" ∧ (parseMethodDescriptor yX6_keep.desc).map (fun d => d.parameters.length) = some 1 := by decide +kernel
set_option maxHeartbeats 4000000 in
set_option maxRecDepth 100000 in
theorem C_X6_keep (l : Launch) (dC : Nat → ClassId) (dI : Nat → Nat → Nat) (cI cJ cZ : ClassId) (qa : Nat → Nat) (sz : Nat) (r_images : Nat → Int64) (r_asked : Int64) (n_likings : Nat → Int32) (n_day : Int32) (n_trust : Int32) (n_ill : Int32) (n_done : Int32) (a1 : Int32) (r0 : Int32) (r_r_images : Nat → Int64) (hG : gX6_keep r_images n_likings n_day n_trust n_ill n_done a1 = some (r0, r_r_images)) : Met l yX6_keep wsX6_keep ({ frames := 1, cells := 0, slots := 0, locals := 23 } : Room) (va_Pc [.ref (qa 0), .int a1] (wq_pw (dC, dI) [(cI, .int), (cJ, .long), (cZ, .boolean)] (wcRN qa cI cJ cZ r_images r_asked n_likings n_day n_trust n_ill n_done) sz)) (wq_Wi (dC, dI) r0 wq_tr (wcRN qa cI cJ cZ r_r_images r_asked n_likings n_day n_trust n_ill n_done) (va_A (wcRN qa cI cJ cZ r_images r_asked n_likings n_day n_trust n_ill n_done) sz)) 0 0 (va_A (wcRN qa cI cJ cZ r_images r_asked n_likings n_day n_trust n_ill n_done) sz) := by
  refine Met.ofW (cc := cX6_keep) (maxL := 2) (ret := (some .int)) (by decide) rfl ?_
  intro p e s m args below meth c s₁ B hml hv
  obtain ⟨rfl, hsz, hP, hK, hD0, hE⟩ := hv
  have hx := B.exec
  have hb := B.bytes
  have hr := B.returns
  have hts := atoms_spec (ws := wsX6_keep) B.pre
  have hown : s.vm.findClass RX6 = some m.cls := findClass_of_methodNamed B.named
  have hlocks := B.notSynchronized
  subst hsz
  have hD := hD0.self (sz := s.heap.size)
  generalize hAe : va_A (wcRN qa cI cJ cZ r_images r_asked n_likings n_day n_trust n_ill n_done) s.heap.size = A at hD hE ⊢
  have hA : ∀ q : Nat, s.heap.size ≤ q → A q := fun q h => by rw [← hAe]; exact Or.inr h
  have hS : va_S A s.heap s.heap [] := va_S.rf
  have hinX6 : ∀ w ∈ u_ws RX6 TX6 9, w ∈ wsX6_keep := by decide +kernel
  have hinX0 : ∀ w ∈ u_ws RX0 TX0 5, w ∈ wsX6_keep := by decide +kernel
  have k1 := hts (.fieldLink RX6 46 "DoorMornings" "images" "[J") (by decide +kernel)
  have k2 := hts (.fieldLink RX6 19 "DoorMornings" "today" "LDoorMornings$Now;") (by decide +kernel)
  have k3 := hts (.fieldLink RX6 109 "DoorMornings$Now" "day" "I") (by decide +kernel)
  have hl := lv_entry ([.ref (qa 0), .int a1]) (n := 2) (Nat.le_of_ble_eq_true rfl)
  rw [lg_entry_eq]
  generalize (lg_sl ([.ref (qa 0), .int a1]) ++ List.replicate (2 - (lg_sl ([.ref (qa 0), .int a1])).length) Slot.unset).toArray = ls at hl ⊢
  have hl : lv_has ls 2 [(0, .ref (qa 0)), (1, .int a1)] := hl
  unfold gX6_keep at hG
  refine lv_iload_n hx hb dX6_keep_0 rfl (lv_at hl 1 rfl) ?_
  refine lv_if_lt (tgt := 9) hx hb dX6_keep_1 (by decide) (fun c1 => ?_) (fun c1 => ?_)
  · replace hG := wq_t c1 hG
    refine lv_iconst (v := (-1)) hx hb dX6_keep_9 (by decide) ?_
    cases hG
    exact W.iret hx hb hr (fun t ht hW => ⟨⟨_, (), rfl, ⟨rfl, trivial⟩, by rw [ht]; exact hP, hD⟩, hS.F ht⟩) hS.2.2 dX6_keep_10
  · replace hG := wq_f c1 hG
    refine lv_iload_n hx hb dX6_keep_4 rfl (lv_at hl 1 rfl) ?_
    refine lv_iconst (v := 2) hx hb dX6_keep_5 (by decide) ?_
    refine lv_icmp_lt (tgt := 11) hx hb dX6_keep_6 (by decide) (fun c2 => ?_) (fun c2 => ?_)
    · replace hG := wq_t c2 hG
      refine lv_aload_n hx hb dX6_keep_11 rfl (lv_at hl 0 rfl) ?_
      refine va_get (D := (dC, dI)) (ci := 6) (v := .ref (qa 15)) (C := RX6) (T := TX6) (N := 9) hx hb hts hinX6 hown hK hP 0 rfl rfl 5 (by decide) k1 (fun _ h9 => h9) rfl dX6_keep_12 ?_
      refine lv_iload_n hx hb dX6_keep_15 rfl (lv_at hl 1 rfl) ?_
      refine lv_aload_n hx hb dX6_keep_16 rfl (lv_at hl 0 rfl) ?_
      refine va_get (D := (dC, dI)) (ci := 6) (v := .ref (qa 3)) (C := RX6) (T := TX6) (N := 9) hx hb hts hinX6 hown hK hP 0 rfl rfl 1 (by decide) k2 (fun _ h9 => h9) rfl dX6_keep_17 ?_
      obtain ⟨v4, g3, hG⟩ := wq_b1_s hG
      refine wq_cl (v := v4) (va_runV (As := []) (rest := [.int a1, .ref (qa 15)]) ⟨hx, hb, hml, hown, hts⟩ (C_X0_folded l dC dI cI cJ cZ qa s.heap.size n_likings n_day n_trust n_ill n_done  v4 g3) (cwV 0 hts gX6_keep_X0_folded rfl rfl rfl hdV_X0_folded ⟨Nat.le_of_ble_eq_true rfl, Nat.le_of_ble_eq_true rfl⟩) (wq_ppV hK (hP.sub (ws' := wcN qa cI cJ cZ n_likings n_day n_trust n_ill n_done) [2, 3] rfl) hE hS hA (ci := 0) (q0 := 0) rfl rfl) rfl rfl hl.1 rfl (lv_room (Nat.le_of_ble_eq_true rfl)) dX6_keep_20 ⟨Nat.zero_le _, Nat.zero_le _⟩) hS hA (fun H locs hk hS => ?_)
      replace hP := wq_kp hP hk
      clear hk
      obtain ⟨h5, hG⟩ := wq_chk_s hG
      refine wq_last (D := (dC, dI)) hx hb hK hP hD hS 1 1 rfl rfl h5 (Int32.toNatClampNeg a1) rfl (wcRN qa cI cJ cZ (vp_updL r_images (Int32.toNatClampNeg a1) v4) r_asked n_likings n_day n_trust n_ill n_done) rfl dX6_keep_23 (fun H locs hP hD hS => ?_)
      refine lv_aload_n hx hb dX6_keep_24 rfl (lv_at hl 0 rfl) ?_
      refine va_get (D := (dC, dI)) (ci := 6) (v := .ref (qa 3)) (C := RX6) (T := TX6) (N := 9) hx hb hts hinX6 hown hK hP 0 rfl rfl 1 (by decide) k2 (fun _ h9 => h9) rfl dX6_keep_25 ?_
      refine va_get (D := (dC, dI)) (ci := 0) (v := .int n_day) (C := RX0) (T := TX0) (N := 5) hx hb hts hinX0 hown hK hP 2 rfl rfl 1 (by decide) k3 (fun _ h9 => h9) rfl dX6_keep_28 ?_
      cases hG
      exact W.iret hx hb hr (fun t ht hW => ⟨⟨_, (), rfl, ⟨rfl, trivial⟩, by rw [ht]; exact hP, hD⟩, hS.F ht⟩) hS.2.2 dX6_keep_31
    · replace hG := wq_f c2 hG
      refine lv_iconst (v := (-1)) hx hb dX6_keep_9 (by decide) ?_
      cases hG
      exact W.iret hx hb hr (fun t ht hW => ⟨⟨_, (), rfl, ⟨rfl, trivial⟩, by rw [ht]; exact hP, hD⟩, hS.F ht⟩) hS.2.2 dX6_keep_10

def gX6_back (r_images : Nat → Int64) (n_likings : Nat → Int32) (n_day : Int32) (n_trust : Int32) (n_ill : Int32) (n_done : Int32) (p_known : Int32) (a1 : Int32) : Option (Int32 × (Nat → Int32) × Int32 × Int32 × Int32 × Int32 × Int32) :=
    if a1 < 0 then
    some ((-1), n_likings, n_day, n_trust, n_ill, n_done, p_known)
    else
    (if a1 < 2 then
    wq_chk a1 2 (if (lg_cmp (r_images (Int32.toNatClampNeg a1)) (-1)) = 0 then
    some ((-2), n_likings, n_day, n_trust, n_ill, n_done, p_known)
    else
    wq_b5 (gX0_unfold n_likings n_day n_trust n_ill n_done (r_images (Int32.toNatClampNeg a1))) (fun w6 w7 w8 w9 w10 =>
    wq_b1 (gX2_empty p_known) (fun w12 =>
    some (w7, w6, w7, w8, w9, w10, w12))))
    else
    some ((-1), n_likings, n_day, n_trust, n_ill, n_done, p_known))
theorem hdV_X6_back : yX6_back.cls = RX6 ∧ yX6_back.cls ≠ "java/lang/invoke/MethodHandle" ∧ yX6_back.cls ≠ "java/lang/invoke/VarHandle" ∧ (parseMethodDescriptor yX6_back.desc).map (fun d => d.parameters.length) = some 1 := by decide +kernel
set_option maxHeartbeats 4000000 in
set_option maxRecDepth 100000 in
theorem C_X6_back (l : Launch) (dC : Nat → ClassId) (dI : Nat → Nat → Nat) (cI cJ cZ : ClassId) (qa : Nat → Nat) (sz : Nat) (r_images : Nat → Int64) (r_asked : Int64) (n_likings : Nat → Int32) (n_day : Int32) (n_trust : Int32) (n_ill : Int32) (n_done : Int32) (p_befores : Nat → Int64) (p_known : Int32) (a1 : Int32) (r0 : Int32) (r_n_likings : Nat → Int32) (r_n_day : Int32) (r_n_trust : Int32) (r_n_ill : Int32) (r_n_done : Int32) (r_p_known : Int32) (hG : gX6_back r_images n_likings n_day n_trust n_ill n_done p_known a1 = some (r0, r_n_likings, r_n_day, r_n_trust, r_n_ill, r_n_done, r_p_known)) : Met l yX6_back wsX6_back ({ frames := 1, cells := 0, slots := 0, locals := 25 } : Room) (va_Pc [.ref (qa 0), .int a1] (wq_pw (dC, dI) [(cI, .int), (cJ, .long), (cZ, .boolean)] (wcRNP qa cI cJ cZ r_images r_asked n_likings n_day n_trust n_ill n_done p_befores p_known) sz)) (wq_Wi (dC, dI) r0 wq_tr (wcRNP qa cI cJ cZ r_images r_asked r_n_likings r_n_day r_n_trust r_n_ill r_n_done p_befores r_p_known) (va_A (wcRNP qa cI cJ cZ r_images r_asked n_likings n_day n_trust n_ill n_done p_befores p_known) sz)) 0 0 (va_A (wcRNP qa cI cJ cZ r_images r_asked n_likings n_day n_trust n_ill n_done p_befores p_known) sz) := by
  refine Met.ofW (cc := cX6_back) (maxL := 2) (ret := (some .int)) (by decide) rfl ?_
  intro p e s m args below meth c s₁ B hml hv
  obtain ⟨rfl, hsz, hP, hK, hD0, hE⟩ := hv
  have hx := B.exec
  have hb := B.bytes
  have hr := B.returns
  have hts := atoms_spec (ws := wsX6_back) B.pre
  have hown : s.vm.findClass RX6 = some m.cls := findClass_of_methodNamed B.named
  have hlocks := B.notSynchronized
  subst hsz
  have hD := hD0.self (sz := s.heap.size)
  generalize hAe : va_A (wcRNP qa cI cJ cZ r_images r_asked n_likings n_day n_trust n_ill n_done p_befores p_known) s.heap.size = A at hD hE ⊢
  have hA : ∀ q : Nat, s.heap.size ≤ q → A q := fun q h => by rw [← hAe]; exact Or.inr h
  have hS : va_S A s.heap s.heap [] := va_S.rf
  have hinX6 : ∀ w ∈ u_ws RX6 TX6 9, w ∈ wsX6_back := by decide +kernel
  have hinX0 : ∀ w ∈ u_ws RX0 TX0 5, w ∈ wsX6_back := by decide +kernel
  have k1 := hts (.fieldLink RX6 46 "DoorMornings" "images" "[J") (by decide +kernel)
  have k2 := hts (.constantLong RX6 44 (-1)) (by decide +kernel)
  have k3 := hts (.fieldLink RX6 19 "DoorMornings" "today" "LDoorMornings$Now;") (by decide +kernel)
  have k4 := hts (.fieldLink RX6 26 "DoorMornings" "past" "LDoorMornings$Past;") (by decide +kernel)
  have k5 := hts (.fieldLink RX6 109 "DoorMornings$Now" "day" "I") (by decide +kernel)
  have hl := lv_entry ([.ref (qa 0), .int a1]) (n := 2) (Nat.le_of_ble_eq_true rfl)
  rw [lg_entry_eq]
  generalize (lg_sl ([.ref (qa 0), .int a1]) ++ List.replicate (2 - (lg_sl ([.ref (qa 0), .int a1])).length) Slot.unset).toArray = ls at hl ⊢
  have hl : lv_has ls 2 [(0, .ref (qa 0)), (1, .int a1)] := hl
  unfold gX6_back at hG
  refine lv_iload_n hx hb dX6_back_0 rfl (lv_at hl 1 rfl) ?_
  refine lv_if_lt (tgt := 9) hx hb dX6_back_1 (by decide) (fun c1 => ?_) (fun c1 => ?_)
  · replace hG := wq_t c1 hG
    refine lv_iconst (v := (-1)) hx hb dX6_back_9 (by decide) ?_
    cases hG
    exact W.iret hx hb hr (fun t ht hW => ⟨⟨_, (), rfl, ⟨rfl, trivial⟩, by rw [ht]; exact hP, hD⟩, hS.F ht⟩) hS.2.2 dX6_back_10
  · replace hG := wq_f c1 hG
    refine lv_iload_n hx hb dX6_back_4 rfl (lv_at hl 1 rfl) ?_
    refine lv_iconst (v := 2) hx hb dX6_back_5 (by decide) ?_
    refine lv_icmp_lt (tgt := 11) hx hb dX6_back_6 (by decide) (fun c2 => ?_) (fun c2 => ?_)
    · replace hG := wq_t c2 hG
      refine lv_aload_n hx hb dX6_back_11 rfl (lv_at hl 0 rfl) ?_
      refine va_get (D := (dC, dI)) (ci := 6) (v := .ref (qa 15)) (C := RX6) (T := TX6) (N := 9) hx hb hts hinX6 hown hK hP 0 rfl rfl 5 (by decide) k1 (fun _ h9 => h9) rfl dX6_back_12 ?_
      refine lv_iload_n hx hb dX6_back_15 rfl (lv_at hl 1 rfl) ?_
      obtain ⟨h3, hG⟩ := wq_chk_s hG
      refine wq_lald (D := (dC, dI)) hx hb hK hP 1 1 rfl rfl h3 (Int32.toNatClampNeg a1) rfl dX6_back_16 ?_
      refine lv_ldc2 (v := (-1)) hx hb hown k2 dX6_back_17 ?_
      refine W.lcmp hx hb dX6_back_20 ?_
      refine lv_if_ne (tgt := 27) hx hb dX6_back_21 (by decide) (fun c4 => ?_) (fun c4 => ?_)
      · replace hG := wq_f c4 hG
        refine lv_aload_n hx hb dX6_back_27 rfl (lv_at hl 0 rfl) ?_
        refine va_get (D := (dC, dI)) (ci := 6) (v := .ref (qa 3)) (C := RX6) (T := TX6) (N := 9) hx hb hts hinX6 hown hK hP 0 rfl rfl 1 (by decide) k3 (fun _ h9 => h9) rfl dX6_back_28 ?_
        refine lv_aload_n hx hb dX6_back_31 rfl (lv_at hl 0 rfl) ?_
        refine va_get (D := (dC, dI)) (ci := 6) (v := .ref (qa 15)) (C := RX6) (T := TX6) (N := 9) hx hb hts hinX6 hown hK hP 0 rfl rfl 5 (by decide) k1 (fun _ h9 => h9) rfl dX6_back_32 ?_
        refine lv_iload_n hx hb dX6_back_35 rfl (lv_at hl 1 rfl) ?_
        refine wq_lald (D := (dC, dI)) hx hb hK hP 1 1 rfl rfl h3 (Int32.toNatClampNeg a1) rfl dX6_back_36 ?_
        obtain ⟨w6, w7, w8, w9, w10, g5, hG⟩ := wq_b5_s hG
        have hFc := va_free (wc := wcN qa cI cJ cZ n_likings n_day n_trust n_ill n_done) hD hS hA [2, 3] rfl
        refine wq_dv (D := (dC, dI)) (wr := wcRP qa cI cJ cZ r_images r_asked p_befores p_known) (w1 := wcN qa cI cJ cZ w6 w7 w8 w9 w10) (w2 := wcRNP qa cI cJ cZ r_images r_asked w6 w7 w8 w9 w10 p_befores p_known) (va_runV (As := [.long (r_images (Int32.toNatClampNeg a1))]) (rest := []) ⟨hx, hb, hml, hown, hts⟩ (C_X0_unfold l dC dI cI cJ cZ qa s.heap.size n_likings n_day n_trust n_ill n_done (r_images (Int32.toNatClampNeg a1)) w6 w7 w8 w9 w10 g5) (cwV 1 hts gX6_back_X0_unfold rfl rfl rfl hdV_X0_unfold ⟨Nat.le_of_ble_eq_true rfl, Nat.le_of_ble_eq_true rfl⟩) (wq_pwV hK (hP.sub (ws' := wcN qa cI cJ cZ n_likings n_day n_trust n_ill n_done) [2, 3] rfl) (hD.sub (ws' := wcN qa cI cJ cZ n_likings n_day n_trust n_ill n_done) [2, 3] (by decide) rfl) hE hS hFc (ci := 0) (q0 := 0) rfl rfl) rfl rfl hl.1 rfl (lv_room (Nat.le_of_ble_eq_true rfl)) dX6_back_37 ⟨Nat.zero_le _, Nat.zero_le _⟩) hP hD hS hFc [2, 3] [0, 1, 4, 5] [0, 1, 4, 5, 2, 3] rfl rfl (by decide) (by decide) (by decide) rfl (fun H locs hP hD hS => ?_)
        clear hFc
        refine lv_aload_n hx hb dX6_back_40 rfl (lv_at hl 0 rfl) ?_
        refine va_get (D := (dC, dI)) (ci := 6) (v := .ref (qa 5)) (C := RX6) (T := TX6) (N := 9) hx hb hts hinX6 hown hK hP 0 rfl rfl 2 (by decide) k4 (fun _ h9 => h9) rfl dX6_back_41 ?_
        obtain ⟨w12, g11, hG⟩ := wq_b1_s hG
        have hFc := va_free (wc := wcP qa cI cJ cZ p_befores p_known) hD hS hA [4, 5] rfl
        refine wq_dv (D := (dC, dI)) (wr := wcRN qa cI cJ cZ r_images r_asked w6 w7 w8 w9 w10) (w1 := wcP qa cI cJ cZ p_befores w12) (w2 := wcRNP qa cI cJ cZ r_images r_asked w6 w7 w8 w9 w10 p_befores w12) (va_runV (As := []) (rest := []) ⟨hx, hb, hml, hown, hts⟩ (C_X2_empty l dC dI cI cJ cZ qa H.size p_befores p_known  w12 g11) (cwV 0 hts gX6_back_X2_empty rfl rfl rfl hdV_X2_empty ⟨Nat.le_of_ble_eq_true rfl, Nat.le_of_ble_eq_true rfl⟩) (wq_pwV hK (hP.sub (ws' := wcP qa cI cJ cZ p_befores p_known) [4, 5] rfl) (hD.sub (ws' := wcP qa cI cJ cZ p_befores p_known) [4, 5] (by decide) rfl) hE hS hFc (ci := 2) (q0 := 0) rfl rfl) rfl rfl hl.1 rfl (lv_room (Nat.le_of_ble_eq_true rfl)) dX6_back_44 ⟨Nat.zero_le _, Nat.zero_le _⟩) hP hD hS hFc [4, 5] [0, 1, 2, 3] [0, 1, 2, 3, 4, 5] rfl rfl (by decide) (by decide) (by decide) rfl (fun H locs hP hD hS => ?_)
        clear hFc
        refine lv_aload_n hx hb dX6_back_47 rfl (lv_at hl 0 rfl) ?_
        refine va_get (D := (dC, dI)) (ci := 6) (v := .ref (qa 3)) (C := RX6) (T := TX6) (N := 9) hx hb hts hinX6 hown hK hP 0 rfl rfl 1 (by decide) k3 (fun _ h9 => h9) rfl dX6_back_48 ?_
        refine va_get (D := (dC, dI)) (ci := 0) (v := .int w7) (C := RX0) (T := TX0) (N := 5) hx hb hts hinX0 hown hK hP 2 rfl rfl 1 (by decide) k5 (fun _ h9 => h9) rfl dX6_back_51 ?_
        cases hG
        exact W.iret hx hb hr (fun t ht hW => ⟨⟨_, (), rfl, ⟨rfl, trivial⟩, by rw [ht]; exact hP, hD⟩, hS.F ht⟩) hS.2.2 dX6_back_54
      · replace hG := wq_t c4 hG
        refine lv_bipush (v := (-2)) hx hb dX6_back_24 (by decide) ?_
        cases hG
        exact W.iret hx hb hr (fun t ht hW => ⟨⟨_, (), rfl, ⟨rfl, trivial⟩, by rw [ht]; exact hP, hD⟩, hS.F ht⟩) hS.2.2 dX6_back_26
    · replace hG := wq_f c2 hG
      refine lv_iconst (v := (-1)) hx hb dX6_back_9 (by decide) ?_
      cases hG
      exact W.iret hx hb hr (fun t ht hW => ⟨⟨_, (), rfl, ⟨rfl, trivial⟩, by rw [ht]; exact hP, hD⟩, hS.F ht⟩) hS.2.2 dX6_back_10

def gX6_count (x_size : Int32) (h_size : Int32) (t_settings : Nat → Int32) (t_goodbyes : Int32) (t_women : Int32) (a1 : Int32) : Option (Int32) :=
    if a1 = 0 then
    some t_goodbyes
    else
    (if a1 = 1 then
    some t_women
    else
    (if a1 = 2 then
    wq_b1 (gX5_setting t_settings 0) (fun v5 =>
    some v5)
    else
    (if a1 = 3 then
    wq_b1 (gX5_setting t_settings 1) (fun v9 =>
    some v9)
    else
    (if a1 = 4 then
    wq_b1 (gX5_setting t_settings 2) (fun v13 =>
    some v13)
    else
    (if a1 = 5 then
    wq_b1 (gX5_setting t_settings 3) (fun v17 =>
    some v17)
    else
    (if a1 = 6 then
    some h_size
    else
    (if a1 = 7 then
    some x_size
    else
    some (-1))))))))
theorem hdV_X6_count : yX6_count.cls = RX6 ∧ yX6_count.cls ≠ "java/lang/invoke/MethodHandle" ∧ yX6_count.cls ≠ "java/lang/invoke/VarHandle" ∧ (parseMethodDescriptor yX6_count.desc).map (fun d => d.parameters.length) = some 1 := by decide +kernel
set_option maxHeartbeats 4000000 in
set_option maxRecDepth 100000 in
theorem C_X6_count (l : Launch) (dC : Nat → ClassId) (dI : Nat → Nat → Nat) (cI cJ cZ : ClassId) (qa : Nat → Nat) (sz : Nat) (r_images : Nat → Int64) (r_asked : Int64) (x_letters : Nat → Int32) (x_size : Int32) (x_place : Int32) (x_fault : Int32) (x_stold : Int32) (h_tll : Nat → Int32) (h_beyond : Nat → Int32) (h_minutes : Nat → Int32) (h_size : Int32) (t_tears : Nat → Int32) (t_gains : Nat → Int32) (t_likings : Nat → Int32) (t_settings : Nat → Int32) (t_goodbyes : Int32) (t_women : Int32) (a1 : Int32) (r0 : Int32) (hG : gX6_count x_size h_size t_settings t_goodbyes t_women a1 = some r0) : Met l yX6_count wsX6_count ({ frames := 1, cells := 0, slots := 0, locals := 21 } : Room) (va_Pc [.ref (qa 0), .int a1] (wq_pp (dC, dI) [(cI, .int), (cJ, .long), (cZ, .boolean)] (wcRXST qa cI cJ cZ r_images r_asked x_letters x_size x_place x_fault x_stold h_tll h_beyond h_minutes h_size t_tears t_gains t_likings t_settings t_goodbyes t_women) sz)) (wq_Qi r0 wq_tr (va_A [] sz)) 0 0 (va_A [] sz) := by
  refine Met.ofW (cc := cX6_count) (maxL := 2) (ret := (some .int)) (by decide) rfl ?_
  intro p e s m args below meth c s₁ B hml hv
  obtain ⟨rfl, hsz, hP, hK, hE⟩ := hv
  have hx := B.exec
  have hb := B.bytes
  have hr := B.returns
  have hts := atoms_spec (ws := wsX6_count) B.pre
  have hown : s.vm.findClass RX6 = some m.cls := findClass_of_methodNamed B.named
  have hlocks := B.notSynchronized
  subst hsz
  generalize hAe : va_A [] s.heap.size = A at hE ⊢
  have hA : ∀ q : Nat, s.heap.size ≤ q → A q := fun q h => by rw [← hAe]; exact Or.inr h
  have hS : va_S A s.heap s.heap [] := va_S.rf
  have hinX6 : ∀ w ∈ u_ws RX6 TX6 9, w ∈ wsX6_count := by decide +kernel
  have hinX5 : ∀ w ∈ u_ws RX5 TX5 6, w ∈ wsX6_count := by decide +kernel
  have hinX3 : ∀ w ∈ u_ws RX3 TX3 4, w ∈ wsX6_count := by decide +kernel
  have hinX4 : ∀ w ∈ u_ws RX4 TX4 5, w ∈ wsX6_count := by decide +kernel
  have k1 := hts (.fieldLink RX6 53 "DoorMornings" "told" "LDoorMornings$Told;") (by decide +kernel)
  have k2 := hts (.fieldLink RX6 241 "DoorMornings$Told" "goodbyes" "I") (by decide +kernel)
  have k3 := hts (.fieldLink RX6 244 "DoorMornings$Told" "women" "I") (by decide +kernel)
  have k4 := hts (.fieldLink RX6 33 "DoorMornings" "shown" "LDoorMornings$Shown;") (by decide +kernel)
  have k5 := hts (.fieldLink RX6 247 "DoorMornings$Shown" "size" "I") (by decide +kernel)
  have k6 := hts (.fieldLink RX6 10 "DoorMornings" "text" "LDoorMornings$Text;") (by decide +kernel)
  have k7 := hts (.fieldLink RX6 250 "DoorMornings$Text" "size" "I") (by decide +kernel)
  have hl := lv_entry ([.ref (qa 0), .int a1]) (n := 2) (Nat.le_of_ble_eq_true rfl)
  rw [lg_entry_eq]
  generalize (lg_sl ([.ref (qa 0), .int a1]) ++ List.replicate (2 - (lg_sl ([.ref (qa 0), .int a1])).length) Slot.unset).toArray = ls at hl ⊢
  have hl : lv_has ls 2 [(0, .ref (qa 0)), (1, .int a1)] := hl
  unfold gX6_count at hG
  refine lv_iload_n hx hb dX6_count_0 rfl (lv_at hl 1 rfl) ?_
  by_cases c1 : a1 = 0
  · replace hG := wq_t c1 hG
    refine lv_tableIn (off := 47) (tgt := 48) hx hb dX6_count_1 (by rw [c1]; decide) (by rw [c1]; decide) (by rw [c1]; decide) (by decide) ?_
    refine lv_aload_n hx hb dX6_count_48 rfl (lv_at hl 0 rfl) ?_
    refine va_get (D := (dC, dI)) (ci := 6) (v := .ref (qa 16)) (C := RX6) (T := TX6) (N := 9) hx hb hts hinX6 hown hK hP 0 rfl rfl 6 (by decide) k1 (fun _ h9 => h9) rfl dX6_count_49 ?_
    refine va_get (D := (dC, dI)) (ci := 5) (v := .int t_goodbyes) (C := RX5) (T := TX5) (N := 6) hx hb hts hinX5 hown hK hP 8 rfl rfl 4 (by decide) k2 (fun _ h9 => h9) rfl dX6_count_52 ?_
    exact W.iret (v := t_goodbyes) hx hb hr (fun t ht hW => ⟨⟨t_goodbyes, (), rfl, ⟨Option.some.inj hG, trivial⟩, trivial⟩, hS.F ht⟩) hS.2.2 dX6_count_55
  · replace hG := wq_f c1 hG
    by_cases c2 : a1 = 1
    · replace hG := wq_t c2 hG
      refine lv_tableIn (off := 55) (tgt := 56) hx hb dX6_count_1 (by rw [c2]; decide) (by rw [c2]; decide) (by rw [c2]; decide) (by decide) ?_
      refine lv_aload_n hx hb dX6_count_56 rfl (lv_at hl 0 rfl) ?_
      refine va_get (D := (dC, dI)) (ci := 6) (v := .ref (qa 16)) (C := RX6) (T := TX6) (N := 9) hx hb hts hinX6 hown hK hP 0 rfl rfl 6 (by decide) k1 (fun _ h9 => h9) rfl dX6_count_57 ?_
      refine va_get (D := (dC, dI)) (ci := 5) (v := .int t_women) (C := RX5) (T := TX5) (N := 6) hx hb hts hinX5 hown hK hP 8 rfl rfl 5 (by decide) k3 (fun _ h9 => h9) rfl dX6_count_60 ?_
      exact W.iret (v := t_women) hx hb hr (fun t ht hW => ⟨⟨t_women, (), rfl, ⟨Option.some.inj hG, trivial⟩, trivial⟩, hS.F ht⟩) hS.2.2 dX6_count_63
    · replace hG := wq_f c2 hG
      by_cases c3 : a1 = 2
      · replace hG := wq_t c3 hG
        refine lv_tableIn (off := 63) (tgt := 64) hx hb dX6_count_1 (by rw [c3]; decide) (by rw [c3]; decide) (by rw [c3]; decide) (by decide) ?_
        refine lv_aload_n hx hb dX6_count_64 rfl (lv_at hl 0 rfl) ?_
        refine va_get (D := (dC, dI)) (ci := 6) (v := .ref (qa 16)) (C := RX6) (T := TX6) (N := 9) hx hb hts hinX6 hown hK hP 0 rfl rfl 6 (by decide) k1 (fun _ h9 => h9) rfl dX6_count_65 ?_
        refine lv_iconst (v := 0) hx hb dX6_count_68 (by decide) ?_
        obtain ⟨v5, g4, hG⟩ := wq_b1_s hG
        refine wq_ci (v := v5) (B := wq_tr) (va_runV (As := [.int 0]) (rest := []) ⟨hx, hb, hml, hown, hts⟩ (C_X5_setting l dC dI cI cJ cZ qa s.heap.size t_tears t_gains t_likings t_settings t_goodbyes t_women 0 v5 g4) (cwV 1 hts gX6_count_X5_setting rfl rfl rfl hdV_X5_setting ⟨Nat.le_of_ble_eq_true rfl, Nat.le_of_ble_eq_true rfl⟩) (wq_ppV hK (hP.sub (ws' := wcT qa cI cJ cZ t_tears t_gains t_likings t_settings t_goodbyes t_women) [8, 9, 10, 11, 12] rfl) hE hS hA (ci := 5) (q0 := 0) rfl rfl) rfl rfl hl.1 rfl (lv_room (Nat.le_of_ble_eq_true rfl)) dX6_count_69 ⟨Nat.zero_le _, Nat.zero_le _⟩) hS hA (fun H locs b6 hk hS => ?_)
        replace hP := wq_kp hP hk
        clear hk
        exact W.iret (v := v5) hx hb hr (fun t ht hW => ⟨⟨v5, (), rfl, ⟨Option.some.inj hG, trivial⟩, trivial⟩, hS.F ht⟩) hS.2.2 dX6_count_72
      · replace hG := wq_f c3 hG
        by_cases c7 : a1 = 3
        · replace hG := wq_t c7 hG
          refine lv_tableIn (off := 72) (tgt := 73) hx hb dX6_count_1 (by rw [c7]; decide) (by rw [c7]; decide) (by rw [c7]; decide) (by decide) ?_
          refine lv_aload_n hx hb dX6_count_73 rfl (lv_at hl 0 rfl) ?_
          refine va_get (D := (dC, dI)) (ci := 6) (v := .ref (qa 16)) (C := RX6) (T := TX6) (N := 9) hx hb hts hinX6 hown hK hP 0 rfl rfl 6 (by decide) k1 (fun _ h9 => h9) rfl dX6_count_74 ?_
          refine lv_iconst (v := 1) hx hb dX6_count_77 (by decide) ?_
          obtain ⟨v9, g8, hG⟩ := wq_b1_s hG
          refine wq_ci (v := v9) (B := wq_tr) (va_runV (As := [.int 1]) (rest := []) ⟨hx, hb, hml, hown, hts⟩ (C_X5_setting l dC dI cI cJ cZ qa s.heap.size t_tears t_gains t_likings t_settings t_goodbyes t_women 1 v9 g8) (cwV 1 hts gX6_count_X5_setting rfl rfl rfl hdV_X5_setting ⟨Nat.le_of_ble_eq_true rfl, Nat.le_of_ble_eq_true rfl⟩) (wq_ppV hK (hP.sub (ws' := wcT qa cI cJ cZ t_tears t_gains t_likings t_settings t_goodbyes t_women) [8, 9, 10, 11, 12] rfl) hE hS hA (ci := 5) (q0 := 0) rfl rfl) rfl rfl hl.1 rfl (lv_room (Nat.le_of_ble_eq_true rfl)) dX6_count_78 ⟨Nat.zero_le _, Nat.zero_le _⟩) hS hA (fun H locs b10 hk hS => ?_)
          replace hP := wq_kp hP hk
          clear hk
          exact W.iret (v := v9) hx hb hr (fun t ht hW => ⟨⟨v9, (), rfl, ⟨Option.some.inj hG, trivial⟩, trivial⟩, hS.F ht⟩) hS.2.2 dX6_count_81
        · replace hG := wq_f c7 hG
          by_cases c11 : a1 = 4
          · replace hG := wq_t c11 hG
            refine lv_tableIn (off := 81) (tgt := 82) hx hb dX6_count_1 (by rw [c11]; decide) (by rw [c11]; decide) (by rw [c11]; decide) (by decide) ?_
            refine lv_aload_n hx hb dX6_count_82 rfl (lv_at hl 0 rfl) ?_
            refine va_get (D := (dC, dI)) (ci := 6) (v := .ref (qa 16)) (C := RX6) (T := TX6) (N := 9) hx hb hts hinX6 hown hK hP 0 rfl rfl 6 (by decide) k1 (fun _ h9 => h9) rfl dX6_count_83 ?_
            refine lv_iconst (v := 2) hx hb dX6_count_86 (by decide) ?_
            obtain ⟨v13, g12, hG⟩ := wq_b1_s hG
            refine wq_ci (v := v13) (B := wq_tr) (va_runV (As := [.int 2]) (rest := []) ⟨hx, hb, hml, hown, hts⟩ (C_X5_setting l dC dI cI cJ cZ qa s.heap.size t_tears t_gains t_likings t_settings t_goodbyes t_women 2 v13 g12) (cwV 1 hts gX6_count_X5_setting rfl rfl rfl hdV_X5_setting ⟨Nat.le_of_ble_eq_true rfl, Nat.le_of_ble_eq_true rfl⟩) (wq_ppV hK (hP.sub (ws' := wcT qa cI cJ cZ t_tears t_gains t_likings t_settings t_goodbyes t_women) [8, 9, 10, 11, 12] rfl) hE hS hA (ci := 5) (q0 := 0) rfl rfl) rfl rfl hl.1 rfl (lv_room (Nat.le_of_ble_eq_true rfl)) dX6_count_87 ⟨Nat.zero_le _, Nat.zero_le _⟩) hS hA (fun H locs b14 hk hS => ?_)
            replace hP := wq_kp hP hk
            clear hk
            exact W.iret (v := v13) hx hb hr (fun t ht hW => ⟨⟨v13, (), rfl, ⟨Option.some.inj hG, trivial⟩, trivial⟩, hS.F ht⟩) hS.2.2 dX6_count_90
          · replace hG := wq_f c11 hG
            by_cases c15 : a1 = 5
            · replace hG := wq_t c15 hG
              refine lv_tableIn (off := 90) (tgt := 91) hx hb dX6_count_1 (by rw [c15]; decide) (by rw [c15]; decide) (by rw [c15]; decide) (by decide) ?_
              refine lv_aload_n hx hb dX6_count_91 rfl (lv_at hl 0 rfl) ?_
              refine va_get (D := (dC, dI)) (ci := 6) (v := .ref (qa 16)) (C := RX6) (T := TX6) (N := 9) hx hb hts hinX6 hown hK hP 0 rfl rfl 6 (by decide) k1 (fun _ h9 => h9) rfl dX6_count_92 ?_
              refine lv_iconst (v := 3) hx hb dX6_count_95 (by decide) ?_
              obtain ⟨v17, g16, hG⟩ := wq_b1_s hG
              refine wq_ci (v := v17) (B := wq_tr) (va_runV (As := [.int 3]) (rest := []) ⟨hx, hb, hml, hown, hts⟩ (C_X5_setting l dC dI cI cJ cZ qa s.heap.size t_tears t_gains t_likings t_settings t_goodbyes t_women 3 v17 g16) (cwV 1 hts gX6_count_X5_setting rfl rfl rfl hdV_X5_setting ⟨Nat.le_of_ble_eq_true rfl, Nat.le_of_ble_eq_true rfl⟩) (wq_ppV hK (hP.sub (ws' := wcT qa cI cJ cZ t_tears t_gains t_likings t_settings t_goodbyes t_women) [8, 9, 10, 11, 12] rfl) hE hS hA (ci := 5) (q0 := 0) rfl rfl) rfl rfl hl.1 rfl (lv_room (Nat.le_of_ble_eq_true rfl)) dX6_count_96 ⟨Nat.zero_le _, Nat.zero_le _⟩) hS hA (fun H locs b18 hk hS => ?_)
              replace hP := wq_kp hP hk
              clear hk
              exact W.iret (v := v17) hx hb hr (fun t ht hW => ⟨⟨v17, (), rfl, ⟨Option.some.inj hG, trivial⟩, trivial⟩, hS.F ht⟩) hS.2.2 dX6_count_99
            · replace hG := wq_f c15 hG
              by_cases c19 : a1 = 6
              · replace hG := wq_t c19 hG
                refine lv_tableIn (off := 99) (tgt := 100) hx hb dX6_count_1 (by rw [c19]; decide) (by rw [c19]; decide) (by rw [c19]; decide) (by decide) ?_
                refine lv_aload_n hx hb dX6_count_100 rfl (lv_at hl 0 rfl) ?_
                refine va_get (D := (dC, dI)) (ci := 6) (v := .ref (qa 7)) (C := RX6) (T := TX6) (N := 9) hx hb hts hinX6 hown hK hP 0 rfl rfl 3 (by decide) k4 (fun _ h9 => h9) rfl dX6_count_101 ?_
                refine va_get (D := (dC, dI)) (ci := 3) (v := .int h_size) (C := RX3) (T := TX3) (N := 4) hx hb hts hinX3 hown hK hP 4 rfl rfl 3 (by decide) k5 (fun _ h9 => h9) rfl dX6_count_104 ?_
                exact W.iret (v := h_size) hx hb hr (fun t ht hW => ⟨⟨h_size, (), rfl, ⟨Option.some.inj hG, trivial⟩, trivial⟩, hS.F ht⟩) hS.2.2 dX6_count_107
              · replace hG := wq_f c19 hG
                by_cases c20 : a1 = 7
                · replace hG := wq_t c20 hG
                  refine lv_tableIn (off := 107) (tgt := 108) hx hb dX6_count_1 (by rw [c20]; decide) (by rw [c20]; decide) (by rw [c20]; decide) (by decide) ?_
                  refine lv_aload_n hx hb dX6_count_108 rfl (lv_at hl 0 rfl) ?_
                  refine va_get (D := (dC, dI)) (ci := 6) (v := .ref (qa 1)) (C := RX6) (T := TX6) (N := 9) hx hb hts hinX6 hown hK hP 0 rfl rfl 0 (by decide) k6 (fun _ h9 => h9) rfl dX6_count_109 ?_
                  refine va_get (D := (dC, dI)) (ci := 4) (v := .int x_size) (C := RX4) (T := TX4) (N := 5) hx hb hts hinX4 hown hK hP 2 rfl rfl 1 (by decide) k7 (fun _ h9 => h9) rfl dX6_count_112 ?_
                  exact W.iret (v := x_size) hx hb hr (fun t ht hW => ⟨⟨x_size, (), rfl, ⟨Option.some.inj hG, trivial⟩, trivial⟩, hS.F ht⟩) hS.2.2 dX6_count_115
                · replace hG := wq_f c20 hG
                  refine lv_tableOut (tgt := 116) hx hb dX6_count_1 (by have e0 := lv_neT c1 (a := 0) (by decide); have e1 := lv_neT c2 (a := 1) (by decide); have e2 := lv_neT c3 (a := 2) (by decide); have e3 := lv_neT c7 (a := 3) (by decide); have e4 := lv_neT c11 (a := 4) (by decide); have e5 := lv_neT c15 (a := 5) (by decide); have e6 := lv_neT c19 (a := 6) (by decide); have e7 := lv_neT c20 (a := 7) (by decide); omega) (by decide) ?_
                  refine lv_iconst (v := (-1)) hx hb dX6_count_116 (by decide) ?_
                  exact W.iret (v := (-1)) hx hb hr (fun t ht hW => ⟨⟨(-1), (), rfl, ⟨Option.some.inj hG, trivial⟩, trivial⟩, hS.F ht⟩) hS.2.2 dX6_count_117

def gX6_trace (r_asked : Int64) : Option (Int64) :=
    some r_asked
theorem hdV_X6_trace : yX6_trace.cls = RX6 ∧ yX6_trace.cls ≠ "java/lang/invoke/MethodHandle" ∧ yX6_trace.cls ≠ "java/lang/invoke/VarHandle" ∧ (parseMethodDescriptor yX6_trace.desc).map (fun d => d.parameters.length) = some 0 := by decide +kernel
set_option maxHeartbeats 4000000 in
set_option maxRecDepth 100000 in
theorem C_X6_trace (l : Launch) (dC : Nat → ClassId) (dI : Nat → Nat → Nat) (cI cJ cZ : ClassId) (qa : Nat → Nat) (sz : Nat) (r_images : Nat → Int64) (r_asked : Int64) (r0 : Int64) (hG : gX6_trace r_asked = some r0) : Met l yX6_trace wsX6_trace ({ frames := 0, cells := 0, slots := 0, locals := 0 } : Room) (va_Pc [.ref (qa 0)] (wq_pp (dC, dI) [(cI, .int), (cJ, .long), (cZ, .boolean)] (wcR qa cI cJ cZ r_images r_asked) sz)) (wq_Ql r0 (va_A [] sz)) 0 0 (va_A [] sz) := by
  refine Met.ofW (cc := cX6_trace) (maxL := 1) (ret := (some .long)) (by decide) rfl ?_
  intro p e s m args below meth c s₁ B hml hv
  obtain ⟨rfl, hsz, hP, hK, hE⟩ := hv
  have hx := B.exec
  have hb := B.bytes
  have hr := B.returns
  have hts := atoms_spec (ws := wsX6_trace) B.pre
  have hown : s.vm.findClass RX6 = some m.cls := findClass_of_methodNamed B.named
  have hlocks := B.notSynchronized
  subst hsz
  generalize hAe : va_A [] s.heap.size = A at hE ⊢
  have hA : ∀ q : Nat, s.heap.size ≤ q → A q := fun q h => by rw [← hAe]; exact Or.inr h
  have hS : va_S A s.heap s.heap [] := va_S.rf
  have hinX6 : ∀ w ∈ u_ws RX6 TX6 9, w ∈ wsX6_trace := by decide +kernel
  have k1 := hts (.fieldLink RX6 60 "DoorMornings" "asked" "J") (by decide +kernel)
  have hl := lv_entry ([.ref (qa 0)]) (n := 1) (Nat.le_of_ble_eq_true rfl)
  rw [lg_entry_eq]
  generalize (lg_sl ([.ref (qa 0)]) ++ List.replicate (1 - (lg_sl ([.ref (qa 0)])).length) Slot.unset).toArray = ls at hl ⊢
  have hl : lv_has ls 1 [(0, .ref (qa 0))] := hl
  unfold gX6_trace at hG
  refine lv_aload_n hx hb dX6_trace_0 rfl (lv_at hl 0 rfl) ?_
  refine va_get (D := (dC, dI)) (ci := 6) (v := .long r_asked) (C := RX6) (T := TX6) (N := 9) hx hb hts hinX6 hown hK hP 0 rfl rfl 8 (by decide) k1 (fun _ h9 => h9) rfl dX6_trace_1 ?_
  exact W.lret (v := r_asked) hx hb hr (fun t ht hW => ⟨⟨r_asked, (), rfl, Option.some.inj hG, trivial⟩, hS.F ht⟩) hS.2.2 dX6_trace_4

