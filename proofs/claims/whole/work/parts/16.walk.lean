def gX5_likingAfter (t_settings : Nat → Int32) (a1 : Int32) (a2 : Int32) : Option (Int32) :=
    wq_b1 (gX5_isCalm t_settings a2) (fun v2 =>
    if v2 = 0 then
    wq_b1 (gX5_isWild t_settings a2) (fun v6 =>
    if v6 = 0 then
    some a1
    else
    some (if 0 < (a1 - 1) then (a1 - 1) else 0))
    else
    wq_b1 (gX5_calmerLiking a1) (fun v10 =>
    some v10))
theorem hdV_X5_likingAfter : yX5_likingAfter.cls = RX5 ∧ yX5_likingAfter.cls ≠ "java/lang/invoke/MethodHandle" ∧ yX5_likingAfter.cls ≠ "java/lang/invoke/VarHandle" ∧ (parseMethodDescriptor yX5_likingAfter.desc).map (fun d => d.parameters.length) = some 2 := by decide +kernel
set_option maxHeartbeats 4000000 in
set_option maxRecDepth 100000 in
theorem C_X5_likingAfter (l : Launch) (dC : Nat → ClassId) (dI : Nat → Nat → Nat) (cI cJ cZ : ClassId) (qa : Nat → Nat) (sz : Nat) (t_tears : Nat → Int32) (t_gains : Nat → Int32) (t_likings : Nat → Int32) (t_settings : Nat → Int32) (t_goodbyes : Int32) (t_women : Int32) (a1 : Int32) (a2 : Int32) (r0 : Int32) (hG : gX5_likingAfter t_settings a1 a2 = some r0) : Met l yX5_likingAfter wsX5_likingAfter ({ frames := 2, cells := 0, slots := 0, locals := 42 } : Room) (va_Pc [.ref (qa 16), .int a1, .int a2] (wq_pp (dC, dI) [(cI, .int), (cJ, .long), (cZ, .boolean)] (wcT qa cI cJ cZ t_tears t_gains t_likings t_settings t_goodbyes t_women) sz)) (wq_Qi r0 wq_tr (va_A [] sz)) 0 0 (va_A [] sz) := by
  refine Met.ofW (cc := cX5_likingAfter) (maxL := 3) (ret := (some .int)) (by decide) rfl ?_
  intro p e s m args below meth c s₁ B hml hv
  obtain ⟨rfl, hsz, hP, hK, hE⟩ := hv
  have hx := B.exec
  have hb := B.bytes
  have hr := B.returns
  have hts := atoms_spec (ws := wsX5_likingAfter) B.pre
  have hown : s.vm.findClass RX5 = some m.cls := findClass_of_methodNamed B.named
  have hlocks := B.notSynchronized
  subst hsz
  generalize hAe : va_A [] s.heap.size = A at hE ⊢
  have hA : ∀ q : Nat, s.heap.size ≤ q → A q := fun q h => by rw [← hAe]; exact Or.inr h
  have hS : va_S A s.heap s.heap [] := va_S.rf
  have k1 := hts (.methodLink RX5 69 Lib.Math.max.name) (by decide +kernel)
  have k2 := hts (.static Lib.Math.max.name) (by decide +kernel)
  have k3 := hts (.initialized "java/lang/Math") (by decide +kernel)
  have k4 := hts (.code Lib.Math.max.name Lib.Math.max.code 2 (some .int)) (by decide +kernel)
  have hl := lv_entry ([.ref (qa 16), .int a1, .int a2]) (n := 3) (Nat.le_of_ble_eq_true rfl)
  rw [lg_entry_eq]
  generalize (lg_sl ([.ref (qa 16), .int a1, .int a2]) ++ List.replicate (3 - (lg_sl ([.ref (qa 16), .int a1, .int a2])).length) Slot.unset).toArray = ls at hl ⊢
  have hl : lv_has ls 3 [(0, .ref (qa 16)), (1, .int a1), (2, .int a2)] := hl
  unfold gX5_likingAfter at hG
  refine lv_aload_n hx hb dX5_likingAfter_0 rfl (lv_at hl 0 rfl) ?_
  refine lv_iload_n hx hb dX5_likingAfter_1 rfl (lv_at hl 2 rfl) ?_
  obtain ⟨v2, g1, hG⟩ := wq_b1_s hG
  refine wq_ci (v := v2) (B := wq_Z1) (va_runV (As := [.int a2]) (rest := []) ⟨hx, hb, hml, hown, hts⟩ (C_X5_isCalm l dC dI cI cJ cZ qa s.heap.size t_tears t_gains t_likings t_settings t_goodbyes t_women a2 v2 g1) (cwV 1 hts gX5_likingAfter_X5_isCalm rfl rfl rfl hdV_X5_isCalm ⟨Nat.le_of_ble_eq_true rfl, Nat.le_of_ble_eq_true rfl⟩) (wq_ppV hK hP hE hS hA (ci := 5) (q0 := 0) rfl rfl) rfl rfl hl.1 rfl (lv_room (Nat.le_of_ble_eq_true rfl)) dX5_likingAfter_2 ⟨Nat.zero_le _, Nat.zero_le _⟩) hS hA (fun H locs b3 hk hS => ?_)
  replace hP := wq_kp hP hk
  clear hk
  refine lv_if_eq (tgt := 14) hx hb dX5_likingAfter_5 (by decide) (fun c4 => ?_) (fun c4 => ?_)
  · replace hG := wq_t c4 hG
    refine lv_aload_n hx hb dX5_likingAfter_14 rfl (lv_at hl 0 rfl) ?_
    refine lv_iload_n hx hb dX5_likingAfter_15 rfl (lv_at hl 2 rfl) ?_
    obtain ⟨v6, g5, hG⟩ := wq_b1_s hG
    refine wq_ci (v := v6) (B := wq_Z1) (va_runV (As := [.int a2]) (rest := []) ⟨hx, hb, hml, hown, hts⟩ (C_X5_isWild l dC dI cI cJ cZ qa H.size t_tears t_gains t_likings t_settings t_goodbyes t_women a2 v6 g5) (cwV 1 hts gX5_likingAfter_X5_isWild rfl rfl rfl hdV_X5_isWild ⟨Nat.le_of_ble_eq_true rfl, Nat.le_of_ble_eq_true rfl⟩) (wq_ppV hK hP hE hS hA (ci := 5) (q0 := 0) rfl rfl) rfl rfl hl.1 rfl (lv_room (Nat.le_of_ble_eq_true rfl)) dX5_likingAfter_16 ⟨Nat.zero_le _, Nat.zero_le _⟩) hS hA (fun H locs b7 hk hS => ?_)
    replace hP := wq_kp hP hk
    clear hk
    refine lv_if_eq (tgt := 32) hx hb dX5_likingAfter_19 (by decide) (fun c8 => ?_) (fun c8 => ?_)
    · replace hG := wq_t c8 hG
      refine lv_iload_n hx hb dX5_likingAfter_32 rfl (lv_at hl 1 rfl) ?_
      exact W.iret (v := a1) hx hb hr (fun t ht hW => ⟨⟨a1, (), rfl, ⟨Option.some.inj hG, trivial⟩, trivial⟩, hS.F ht⟩) hS.2.2 dX5_likingAfter_33
    · replace hG := wq_f c8 hG
      refine lv_iconst (v := 0) hx hb dX5_likingAfter_22 (by decide) ?_
      refine lv_iload_n hx hb dX5_likingAfter_23 rfl (lv_at hl 1 rfl) ?_
      refine lv_iconst (v := 1) hx hb dX5_likingAfter_24 (by decide) ?_
      refine lv_isub hx hb dX5_likingAfter_25 ?_
      refine va_mmax (x := 0) (y := (a1 - 1)) hx hb (hml.trans hl.1.symm) hown k1 k2 k3 k4 (Nat.le_of_ble_eq_true rfl) (Nat.le_of_ble_eq_true rfl) (Nat.zero_le _) (Nat.zero_le _) dX5_likingAfter_26 ?_
      refine lv_goto (tgt := 33) hx hb dX5_likingAfter_29 (by decide) ?_
      exact W.iret (v := (if 0 < (a1 - 1) then (a1 - 1) else 0)) hx hb hr (fun t ht hW => ⟨⟨(if 0 < (a1 - 1) then (a1 - 1) else 0), (), rfl, ⟨Option.some.inj hG, trivial⟩, trivial⟩, hS.F ht⟩) hS.2.2 dX5_likingAfter_33
  · replace hG := wq_f c4 hG
    refine lv_aload_n hx hb dX5_likingAfter_8 rfl (lv_at hl 0 rfl) ?_
    refine lv_iload_n hx hb dX5_likingAfter_9 rfl (lv_at hl 1 rfl) ?_
    obtain ⟨v10, g9, hG⟩ := wq_b1_s hG
    refine wq_ci (v := v10) (B := wq_tr) (va_runV (As := [.int a1]) (rest := []) ⟨hx, hb, hml, hown, hts⟩ (C_X5_calmerLiking l dC dI cI cJ cZ qa H.size t_tears t_gains t_likings t_settings t_goodbyes t_women a1 v10 g9) (cwV 1 hts gX5_likingAfter_X5_calmerLiking rfl rfl rfl hdV_X5_calmerLiking ⟨Nat.le_of_ble_eq_true rfl, Nat.le_of_ble_eq_true rfl⟩) (wq_ppV hK hP hE hS hA (ci := 5) (q0 := 0) rfl rfl) rfl rfl hl.1 rfl (lv_room (Nat.le_of_ble_eq_true rfl)) dX5_likingAfter_10 ⟨Nat.zero_le _, Nat.zero_le _⟩) hS hA (fun H locs b11 hk hS => ?_)
    replace hP := wq_kp hP hk
    clear hk
    exact W.iret (v := v10) hx hb hr (fun t ht hW => ⟨⟨v10, (), rfl, ⟨Option.some.inj hG, trivial⟩, trivial⟩, hS.F ht⟩) hS.2.2 dX5_likingAfter_13

def gX0_setLiking (n_likings : Nat → Int32) (a1 : Int32) (a2 : Int32) : Option ((Nat → Int32)) :=
    if a1 < 0 then
    some n_likings
    else
    (if 4 ≤ a1 then
    some n_likings
    else
    wq_chk a1 4 (some (upd n_likings (Int32.toNatClampNeg a1) a2)))
theorem hdV_X0_setLiking : yX0_setLiking.cls = RX0 ∧ yX0_setLiking.cls ≠ "java/lang/invoke/MethodHandle" ∧ yX0_setLiking.cls ≠ "java/lang/invoke/VarHandle" ∧ (parseMethodDescriptor yX0_setLiking.desc).map (fun d => d.parameters.length) = some 2 := by decide +kernel
set_option maxHeartbeats 4000000 in
set_option maxRecDepth 100000 in
theorem C_X0_setLiking (l : Launch) (dC : Nat → ClassId) (dI : Nat → Nat → Nat) (cI cJ cZ : ClassId) (qa : Nat → Nat) (sz : Nat) (n_likings : Nat → Int32) (n_day : Int32) (n_trust : Int32) (n_ill : Int32) (n_done : Int32) (a1 : Int32) (a2 : Int32) (r_n_likings : Nat → Int32) (hG : gX0_setLiking n_likings a1 a2 = some r_n_likings) : Met l yX0_setLiking wsX0_setLiking ({ frames := 0, cells := 0, slots := 0, locals := 0 } : Room) (va_Pc [.ref (qa 3), .int a1, .int a2] (wq_pw (dC, dI) [(cI, .int), (cJ, .long), (cZ, .boolean)] (wcN qa cI cJ cZ n_likings n_day n_trust n_ill n_done) sz)) (wq_Wv (dC, dI) (wcN qa cI cJ cZ r_n_likings n_day n_trust n_ill n_done) (va_A (wcN qa cI cJ cZ n_likings n_day n_trust n_ill n_done) sz)) 0 0 (va_A (wcN qa cI cJ cZ n_likings n_day n_trust n_ill n_done) sz) := by
  refine Met.ofW (cc := cX0_setLiking) (maxL := 3) (ret := none) (by decide) rfl ?_
  intro p e s m args below meth c s₁ B hml hv
  obtain ⟨rfl, hsz, hP, hK, hD0, hE⟩ := hv
  have hx := B.exec
  have hb := B.bytes
  have hr := B.returns
  have hts := atoms_spec (ws := wsX0_setLiking) B.pre
  have hown : s.vm.findClass RX0 = some m.cls := findClass_of_methodNamed B.named
  have hlocks := B.notSynchronized
  subst hsz
  have hD := hD0.self (sz := s.heap.size)
  generalize hAe : va_A (wcN qa cI cJ cZ n_likings n_day n_trust n_ill n_done) s.heap.size = A at hD hE ⊢
  have hA : ∀ q : Nat, s.heap.size ≤ q → A q := fun q h => by rw [← hAe]; exact Or.inr h
  have hS : va_S A s.heap s.heap [] := va_S.rf
  have hinX0 : ∀ w ∈ u_ws RX0 TX0 5, w ∈ wsX0_setLiking := by decide +kernel
  have k1 := hts (.fieldLink RX0 9 "DoorMornings$Now" "likings" "[I") (by decide +kernel)
  have hl := lv_entry ([.ref (qa 3), .int a1, .int a2]) (n := 3) (Nat.le_of_ble_eq_true rfl)
  rw [lg_entry_eq]
  generalize (lg_sl ([.ref (qa 3), .int a1, .int a2]) ++ List.replicate (3 - (lg_sl ([.ref (qa 3), .int a1, .int a2])).length) Slot.unset).toArray = ls at hl ⊢
  have hl : lv_has ls 3 [(0, .ref (qa 3)), (1, .int a1), (2, .int a2)] := hl
  unfold gX0_setLiking at hG
  refine lv_iload_n hx hb dX0_setLiking_0 rfl (lv_at hl 1 rfl) ?_
  refine lv_if_lt (tgt := 16) hx hb dX0_setLiking_1 (by decide) (fun c1 => ?_) (fun c1 => ?_)
  · replace hG := wq_t c1 hG
    cases hG
    exact W.vret hx hb hr (fun t ht hW => ⟨⟨(), rfl, trivial, by rw [ht]; exact hP, hD⟩, hS.F ht⟩) hS.2.2 dX0_setLiking_16
  · replace hG := wq_f c1 hG
    refine lv_iload_n hx hb dX0_setLiking_4 rfl (lv_at hl 1 rfl) ?_
    refine lv_iconst (v := 4) hx hb dX0_setLiking_5 (by decide) ?_
    refine lv_icmp_ge (tgt := 16) hx hb dX0_setLiking_6 (by decide) (fun c2 => ?_) (fun c2 => ?_)
    · replace hG := wq_t c2 hG
      cases hG
      exact W.vret hx hb hr (fun t ht hW => ⟨⟨(), rfl, trivial, by rw [ht]; exact hP, hD⟩, hS.F ht⟩) hS.2.2 dX0_setLiking_16
    · replace hG := wq_f c2 hG
      refine lv_aload_n hx hb dX0_setLiking_9 rfl (lv_at hl 0 rfl) ?_
      refine va_get (D := (dC, dI)) (ci := 0) (v := .ref (qa 4)) (C := RX0) (T := TX0) (N := 5) hx hb hts hinX0 hown hK hP 0 rfl rfl 0 (by decide) k1 (fun _ h9 => h9) rfl dX0_setLiking_10 ?_
      refine lv_iload_n hx hb dX0_setLiking_13 rfl (lv_at hl 1 rfl) ?_
      refine lv_iload_n hx hb dX0_setLiking_14 rfl (lv_at hl 2 rfl) ?_
      obtain ⟨h3, hG⟩ := wq_chk_s hG
      refine wq_iast (D := (dC, dI)) hx hb hK hP hD hS 1 0 rfl rfl h3 (Int32.toNatClampNeg a1) rfl (wcN qa cI cJ cZ (upd n_likings (Int32.toNatClampNeg a1) a2) n_day n_trust n_ill n_done) rfl dX0_setLiking_15 (fun H locs hP hD hS => ?_)
      cases hG
      exact W.vret hx hb hr (fun t ht hW => ⟨⟨(), rfl, trivial, by rw [ht]; exact hP, hD⟩, hS.F ht⟩) hS.2.2 dX0_setLiking_16

def gX6_morning (n_likings : Nat → Int32) (n_day : Int32) (n_trust : Int32) (n_ill : Int32) (n_done : Int32) (p_befores : Nat → Int64) (p_known : Int32) (t_tears : Nat → Int32) (t_gains : Nat → Int32) (t_settings : Nat → Int32) (t_goodbyes : Int32) (t_women : Int32) (a1 : Int32) (a2 : Int32) (a3 : Int32) : Option (Int32 × (Nat → Int32) × Int32 × Int32 × Int32 × (Nat → Int64) × Int32) :=
    wq_b1 (gX6_isMorning t_goodbyes t_women a1 a2 a3) (fun v2 =>
    if v2 = 0 then
    some ((-1), n_likings, n_day, n_trust, n_done, p_befores, p_known)
    else
    wq_b1 (gX0_isIll n_ill a3) (fun v6 =>
    if v6 = 0 then
    (if n_day < 999 then
    wq_b1 (gX0_folded n_likings n_day n_trust n_ill n_done) (fun v11 =>
    wq_b2 (gX2_add p_befores p_known v11) (fun w13 w14 =>
    wq_b1 (gX6_minutesNow n_likings n_trust t_tears t_settings t_goodbyes a1 a2 a3) (fun v16 =>
    wq_b1 (gX5_trustAfter t_gains t_settings t_goodbyes a1 n_trust v16) (fun v19 =>
    wq_b1 (gX0_likingOf n_likings a3) (fun v22 =>
    wq_b1 (gX5_likingAfter t_settings v22 v16) (fun v25 =>
    wq_b1 (gX0_setLiking n_likings a3 v25) (fun w28 =>
    wq_b1 (gX5_isCalm t_settings v16) (fun v30 =>
    if v30 = 0 then
    some (v16, w28, (n_day + 1), v19, n_done, w13, w14)
    else
    wq_b1 (gX5_setting t_settings 3) (fun v34 =>
    if a2 < v34 then
    some (v16, w28, (n_day + 1), v19, n_done, w13, w14)
    else
    some (v16, w28, (n_day + 1), v19, 1, w13, w14))))))))))
    else
    some ((-2), n_likings, n_day, n_trust, n_done, p_befores, p_known))
    else
    some ((-2), n_likings, n_day, n_trust, n_done, p_befores, p_known)))
theorem hdV_X6_morning : yX6_morning.cls = RX6 ∧ yX6_morning.cls ≠ "java/lang/invoke/MethodHandle" ∧ yX6_morning.cls ≠ "java/lang/invoke/VarHandle" ∧ (parseMethodDescriptor yX6_morning.desc).map (fun d => d.parameters.length) = some 3 := by decide +kernel
set_option maxHeartbeats 4000000 in
set_option maxRecDepth 100000 in
theorem C_X6_morning (l : Launch) (dC : Nat → ClassId) (dI : Nat → Nat → Nat) (cI cJ cZ : ClassId) (qa : Nat → Nat) (sz : Nat) (r_images : Nat → Int64) (r_asked : Int64) (n_likings : Nat → Int32) (n_day : Int32) (n_trust : Int32) (n_ill : Int32) (n_done : Int32) (p_befores : Nat → Int64) (p_known : Int32) (t_tears : Nat → Int32) (t_gains : Nat → Int32) (t_likings : Nat → Int32) (t_settings : Nat → Int32) (t_goodbyes : Int32) (t_women : Int32) (a1 : Int32) (a2 : Int32) (a3 : Int32) (r0 : Int32) (r_n_likings : Nat → Int32) (r_n_day : Int32) (r_n_trust : Int32) (r_n_done : Int32) (r_p_befores : Nat → Int64) (r_p_known : Int32) (hG : gX6_morning n_likings n_day n_trust n_ill n_done p_befores p_known t_tears t_gains t_settings t_goodbyes t_women a1 a2 a3 = some (r0, r_n_likings, r_n_day, r_n_trust, r_n_done, r_p_befores, r_p_known)) : Met l yX6_morning wsX6_morning ({ frames := 4, cells := 0, slots := 0, locals := 89 } : Room) (va_Pc [.ref (qa 0), .int a1, .int a2, .int a3] (wq_pw (dC, dI) [(cI, .int), (cJ, .long), (cZ, .boolean)] (wcRNPT qa cI cJ cZ r_images r_asked n_likings n_day n_trust n_ill n_done p_befores p_known t_tears t_gains t_likings t_settings t_goodbyes t_women) sz)) (wq_Wi (dC, dI) r0 wq_tr (wcRNPT qa cI cJ cZ r_images r_asked r_n_likings r_n_day r_n_trust n_ill r_n_done r_p_befores r_p_known t_tears t_gains t_likings t_settings t_goodbyes t_women) (va_A (wcRNPT qa cI cJ cZ r_images r_asked n_likings n_day n_trust n_ill n_done p_befores p_known t_tears t_gains t_likings t_settings t_goodbyes t_women) sz)) 0 0 (va_A (wcRNPT qa cI cJ cZ r_images r_asked n_likings n_day n_trust n_ill n_done p_befores p_known t_tears t_gains t_likings t_settings t_goodbyes t_women) sz) := by
  refine Met.ofW (cc := cX6_morning) (maxL := 5) (ret := (some .int)) (by decide) rfl ?_
  intro p e s m args below meth c s₁ B hml hv
  obtain ⟨rfl, hsz, hP, hK, hD0, hE⟩ := hv
  have hx := B.exec
  have hb := B.bytes
  have hr := B.returns
  have hts := atoms_spec (ws := wsX6_morning) B.pre
  have hown : s.vm.findClass RX6 = some m.cls := findClass_of_methodNamed B.named
  have hlocks := B.notSynchronized
  subst hsz
  have hD := hD0.self (sz := s.heap.size)
  generalize hAe : va_A (wcRNPT qa cI cJ cZ r_images r_asked n_likings n_day n_trust n_ill n_done p_befores p_known t_tears t_gains t_likings t_settings t_goodbyes t_women) s.heap.size = A at hD hE ⊢
  have hA : ∀ q : Nat, s.heap.size ≤ q → A q := fun q h => by rw [← hAe]; exact Or.inr h
  have hS : va_S A s.heap s.heap [] := va_S.rf
  have hinX6 : ∀ w ∈ u_ws RX6 TX6 9, w ∈ wsX6_morning := by decide +kernel
  have hinX0 : ∀ w ∈ u_ws RX0 TX0 5, w ∈ wsX6_morning := by decide +kernel
  have k1 := hts (.fieldLink RX6 19 "DoorMornings" "today" "LDoorMornings$Now;") (by decide +kernel)
  have k2 := hts (.fieldLink RX6 109 "DoorMornings$Now" "day" "I") (by decide +kernel)
  have k3 := hts (.fieldLink RX6 26 "DoorMornings" "past" "LDoorMornings$Past;") (by decide +kernel)
  have k4 := hts (.fieldLink RX6 53 "DoorMornings" "told" "LDoorMornings$Told;") (by decide +kernel)
  have k5 := hts (.fieldLink RX6 113 "DoorMornings$Now" "trust" "I") (by decide +kernel)
  have k6 := hts (.fieldLink RX6 116 "DoorMornings$Now" "done" "Z") (by decide +kernel)
  have hl := lv_entry ([.ref (qa 0), .int a1, .int a2, .int a3]) (n := 5) (Nat.le_of_ble_eq_true rfl)
  rw [lg_entry_eq]
  generalize (lg_sl ([.ref (qa 0), .int a1, .int a2, .int a3]) ++ List.replicate (5 - (lg_sl ([.ref (qa 0), .int a1, .int a2, .int a3])).length) Slot.unset).toArray = ls at hl ⊢
  have hl : lv_has ls 5 [(0, .ref (qa 0)), (1, .int a1), (2, .int a2), (3, .int a3)] := hl
  unfold gX6_morning at hG
  refine lv_aload_n hx hb dX6_morning_0 rfl (lv_at hl 0 rfl) ?_
  refine lv_iload_n hx hb dX6_morning_1 rfl (lv_at hl 1 rfl) ?_
  refine lv_iload_n hx hb dX6_morning_2 rfl (lv_at hl 2 rfl) ?_
  refine lv_iload_n hx hb dX6_morning_3 rfl (lv_at hl 3 rfl) ?_
  obtain ⟨v2, g1, hG⟩ := wq_b1_s hG
  refine wq_ci (v := v2) (B := wq_Z1) (va_runV (As := [.int a1, .int a2, .int a3]) (rest := []) ⟨hx, hb, hml, hown, hts⟩ (C_X6_isMorning l dC dI cI cJ cZ qa s.heap.size r_images r_asked t_tears t_gains t_likings t_settings t_goodbyes t_women a1 a2 a3 v2 g1) (cwV 3 hts gX6_morning_X6_isMorning rfl rfl rfl hdV_X6_isMorning ⟨Nat.le_of_ble_eq_true rfl, Nat.le_of_ble_eq_true rfl⟩) (wq_ppV hK (hP.sub (ws' := wcRT qa cI cJ cZ r_images r_asked t_tears t_gains t_likings t_settings t_goodbyes t_women) [0, 1, 6, 7, 8, 9, 10] rfl) hE hS hA (ci := 6) (q0 := 0) rfl rfl) rfl rfl hl.1 rfl (lv_room (Nat.le_of_ble_eq_true rfl)) dX6_morning_4 ⟨Nat.zero_le _, Nat.zero_le _⟩) hS hA (fun H locs b3 hk hS => ?_)
  replace hP := wq_kp hP hk
  clear hk
  refine lv_if_ne (tgt := 12) hx hb dX6_morning_7 (by decide) (fun c4 => ?_) (fun c4 => ?_)
  · replace hG := wq_f c4 hG
    refine lv_aload_n hx hb dX6_morning_12 rfl (lv_at hl 0 rfl) ?_
    refine va_get (D := (dC, dI)) (ci := 6) (v := .ref (qa 3)) (C := RX6) (T := TX6) (N := 9) hx hb hts hinX6 hown hK hP 0 rfl rfl 1 (by decide) k1 (fun _ h9 => h9) rfl dX6_morning_13 ?_
    refine lv_iload_n hx hb dX6_morning_16 rfl (lv_at hl 3 rfl) ?_
    obtain ⟨v6, g5, hG⟩ := wq_b1_s hG
    refine wq_ci (v := v6) (B := wq_Z1) (va_runV (As := [.int a3]) (rest := []) ⟨hx, hb, hml, hown, hts⟩ (C_X0_isIll l dC dI cI cJ cZ qa H.size n_likings n_day n_trust n_ill n_done a3 v6 g5) (cwV 1 hts gX6_morning_X0_isIll rfl rfl rfl hdV_X0_isIll ⟨Nat.le_of_ble_eq_true rfl, Nat.le_of_ble_eq_true rfl⟩) (wq_ppV hK (hP.sub (ws' := wcN qa cI cJ cZ n_likings n_day n_trust n_ill n_done) [2, 3] rfl) hE hS hA (ci := 0) (q0 := 0) rfl rfl) rfl rfl hl.1 rfl (lv_room (Nat.le_of_ble_eq_true rfl)) dX6_morning_17 ⟨Nat.zero_le _, Nat.zero_le _⟩) hS hA (fun H locs b7 hk hS => ?_)
    replace hP := wq_kp hP hk
    clear hk
    refine lv_if_ne (tgt := 36) hx hb dX6_morning_20 (by decide) (fun c8 => ?_) (fun c8 => ?_)
    · replace hG := wq_f c8 hG
      refine lv_bipush (v := (-2)) hx hb dX6_morning_36 (by decide) ?_
      cases hG
      exact W.iret hx hb hr (fun t ht hW => ⟨⟨_, (), rfl, ⟨rfl, trivial⟩, by rw [ht]; exact hP, hD⟩, hS.F ht⟩) hS.2.2 dX6_morning_38
    · replace hG := wq_t c8 hG
      refine lv_aload_n hx hb dX6_morning_23 rfl (lv_at hl 0 rfl) ?_
      refine va_get (D := (dC, dI)) (ci := 6) (v := .ref (qa 3)) (C := RX6) (T := TX6) (N := 9) hx hb hts hinX6 hown hK hP 0 rfl rfl 1 (by decide) k1 (fun _ h9 => h9) rfl dX6_morning_24 ?_
      refine va_get (D := (dC, dI)) (ci := 0) (v := .int n_day) (C := RX0) (T := TX0) (N := 5) hx hb hts hinX0 hown hK hP 2 rfl rfl 1 (by decide) k2 (fun _ h9 => h9) rfl dX6_morning_27 ?_
      refine lv_sipush (v := 999) hx hb dX6_morning_30 (by decide) ?_
      refine lv_icmp_lt (tgt := 39) hx hb dX6_morning_33 (by decide) (fun c9 => ?_) (fun c9 => ?_)
      · replace hG := wq_t c9 hG
        refine lv_aload_n hx hb dX6_morning_39 rfl (lv_at hl 0 rfl) ?_
        refine va_get (D := (dC, dI)) (ci := 6) (v := .ref (qa 5)) (C := RX6) (T := TX6) (N := 9) hx hb hts hinX6 hown hK hP 0 rfl rfl 2 (by decide) k3 (fun _ h9 => h9) rfl dX6_morning_40 ?_
        refine lv_aload_n hx hb dX6_morning_43 rfl (lv_at hl 0 rfl) ?_
        refine va_get (D := (dC, dI)) (ci := 6) (v := .ref (qa 3)) (C := RX6) (T := TX6) (N := 9) hx hb hts hinX6 hown hK hP 0 rfl rfl 1 (by decide) k1 (fun _ h9 => h9) rfl dX6_morning_44 ?_
        obtain ⟨v11, g10, hG⟩ := wq_b1_s hG
        refine wq_cl (v := v11) (va_runV (As := []) (rest := [.ref (qa 5)]) ⟨hx, hb, hml, hown, hts⟩ (C_X0_folded l dC dI cI cJ cZ qa H.size n_likings n_day n_trust n_ill n_done  v11 g10) (cwV 0 hts gX6_morning_X0_folded rfl rfl rfl hdV_X0_folded ⟨Nat.le_of_ble_eq_true rfl, Nat.le_of_ble_eq_true rfl⟩) (wq_ppV hK (hP.sub (ws' := wcN qa cI cJ cZ n_likings n_day n_trust n_ill n_done) [2, 3] rfl) hE hS hA (ci := 0) (q0 := 0) rfl rfl) rfl rfl hl.1 rfl (lv_room (Nat.le_of_ble_eq_true rfl)) dX6_morning_47 ⟨Nat.zero_le _, Nat.zero_le _⟩) hS hA (fun H locs hk hS => ?_)
        replace hP := wq_kp hP hk
        clear hk
        obtain ⟨w13, w14, g12, hG⟩ := wq_b2_s hG
        have hFc := va_free (wc := wcP qa cI cJ cZ p_befores p_known) hD hS hA [4, 5] rfl
        refine wq_dv (D := (dC, dI)) (wr := wcRNT qa cI cJ cZ r_images r_asked n_likings n_day n_trust n_ill n_done t_tears t_gains t_likings t_settings t_goodbyes t_women) (w1 := wcP qa cI cJ cZ w13 w14) (w2 := wcRNPT qa cI cJ cZ r_images r_asked n_likings n_day n_trust n_ill n_done w13 w14 t_tears t_gains t_likings t_settings t_goodbyes t_women) (va_runV (As := [.long v11]) (rest := []) ⟨hx, hb, hml, hown, hts⟩ (C_X2_add l dC dI cI cJ cZ qa H.size p_befores p_known v11 w13 w14 g12) (cwV 1 hts gX6_morning_X2_add rfl rfl rfl hdV_X2_add ⟨Nat.le_of_ble_eq_true rfl, Nat.le_of_ble_eq_true rfl⟩) (wq_pwV hK (hP.sub (ws' := wcP qa cI cJ cZ p_befores p_known) [4, 5] rfl) (hD.sub (ws' := wcP qa cI cJ cZ p_befores p_known) [4, 5] (by decide) rfl) hE hS hFc (ci := 2) (q0 := 0) rfl rfl) rfl rfl hl.1 rfl (lv_room (Nat.le_of_ble_eq_true rfl)) dX6_morning_50 ⟨Nat.zero_le _, Nat.zero_le _⟩) hP hD hS hFc [4, 5] [0, 1, 2, 3, 6, 7, 8, 9, 10] [0, 1, 2, 3, 9, 10, 4, 5, 6, 7, 8] rfl rfl (by decide) (by decide) (by decide) rfl (fun H locs hP hD hS => ?_)
        clear hFc
        refine lv_aload_n hx hb dX6_morning_53 rfl (lv_at hl 0 rfl) ?_
        refine lv_iload_n hx hb dX6_morning_54 rfl (lv_at hl 1 rfl) ?_
        refine lv_iload_n hx hb dX6_morning_55 rfl (lv_at hl 2 rfl) ?_
        refine lv_iload_n hx hb dX6_morning_56 rfl (lv_at hl 3 rfl) ?_
        obtain ⟨v16, g15, hG⟩ := wq_b1_s hG
        refine wq_ci (v := v16) (B := wq_tr) (va_runV (As := [.int a1, .int a2, .int a3]) (rest := []) ⟨hx, hb, hml, hown, hts⟩ (C_X6_minutesNow l dC dI cI cJ cZ qa H.size r_images r_asked n_likings n_day n_trust n_ill n_done t_tears t_gains t_likings t_settings t_goodbyes t_women a1 a2 a3 v16 g15) (cwV 3 hts gX6_morning_X6_minutesNow rfl rfl rfl hdV_X6_minutesNow ⟨Nat.le_of_ble_eq_true rfl, Nat.le_of_ble_eq_true rfl⟩) (wq_ppV hK (hP.sub (ws' := wcRNT qa cI cJ cZ r_images r_asked n_likings n_day n_trust n_ill n_done t_tears t_gains t_likings t_settings t_goodbyes t_women) [0, 1, 2, 3, 6, 7, 8, 9, 10] rfl) hE hS hA (ci := 6) (q0 := 0) rfl rfl) rfl rfl hl.1 rfl (lv_room (Nat.le_of_ble_eq_true rfl)) dX6_morning_57 ⟨Nat.zero_le _, Nat.zero_le _⟩) hS hA (fun H locs b17 hk hS => ?_)
        replace hP := wq_kp hP hk
        clear hk
        refine lv_istore (lv' := [(4, .int v16), (0, .ref (qa 0)), (1, .int a1), (2, .int a2), (3, .int a3)]) hx hb dX6_morning_60 hl (by decide) rfl (fun ls hl => ?_)
        refine lv_aload_n hx hb dX6_morning_62 rfl (lv_at hl 1 rfl) ?_
        refine va_get (D := (dC, dI)) (ci := 6) (v := .ref (qa 3)) (C := RX6) (T := TX6) (N := 9) hx hb hts hinX6 hown hK hP 0 rfl rfl 1 (by decide) k1 (fun _ h9 => h9) rfl dX6_morning_63 ?_
        refine lv_aload_n hx hb dX6_morning_66 rfl (lv_at hl 1 rfl) ?_
        refine va_get (D := (dC, dI)) (ci := 6) (v := .ref (qa 16)) (C := RX6) (T := TX6) (N := 9) hx hb hts hinX6 hown hK hP 0 rfl rfl 6 (by decide) k4 (fun _ h9 => h9) rfl dX6_morning_67 ?_
        refine lv_iload_n hx hb dX6_morning_70 rfl (lv_at hl 2 rfl) ?_
        refine lv_aload_n hx hb dX6_morning_71 rfl (lv_at hl 1 rfl) ?_
        refine va_get (D := (dC, dI)) (ci := 6) (v := .ref (qa 3)) (C := RX6) (T := TX6) (N := 9) hx hb hts hinX6 hown hK hP 0 rfl rfl 1 (by decide) k1 (fun _ h9 => h9) rfl dX6_morning_72 ?_
        refine va_get (D := (dC, dI)) (ci := 0) (v := .int n_trust) (C := RX0) (T := TX0) (N := 5) hx hb hts hinX0 hown hK hP 2 rfl rfl 2 (by decide) k5 (fun _ h9 => h9) rfl dX6_morning_75 ?_
        refine lv_iload hx hb dX6_morning_78 (lv_at hl 0 rfl) ?_
        obtain ⟨v19, g18, hG⟩ := wq_b1_s hG
        refine wq_ci (v := v19) (B := wq_tr) (va_runV (As := [.int a1, .int n_trust, .int v16]) (rest := [.ref (qa 3)]) ⟨hx, hb, hml, hown, hts⟩ (C_X5_trustAfter l dC dI cI cJ cZ qa H.size t_tears t_gains t_likings t_settings t_goodbyes t_women a1 n_trust v16 v19 g18) (cwV 3 hts gX6_morning_X5_trustAfter rfl rfl rfl hdV_X5_trustAfter ⟨Nat.le_of_ble_eq_true rfl, Nat.le_of_ble_eq_true rfl⟩) (wq_ppV hK (hP.sub (ws' := wcT qa cI cJ cZ t_tears t_gains t_likings t_settings t_goodbyes t_women) [6, 7, 8, 9, 10] rfl) hE hS hA (ci := 5) (q0 := 0) rfl rfl) rfl rfl hl.1 rfl (lv_room (Nat.le_of_ble_eq_true rfl)) dX6_morning_80 ⟨Nat.zero_le _, Nat.zero_le _⟩) hS hA (fun H locs b20 hk hS => ?_)
        replace hP := wq_kp hP hk
        clear hk
        refine va_put (D := (dC, dI)) (ci := 0) (v := .int v19) (ty := tyX0 2) (C := RX0) (T := TX0) (N := 5) hx hb hts hinX0 tyX0 tyX0_ok nmX0 hown hK hP hD hS 2 rfl rfl 2 (by decide) k5 (fun _ h9 => h9) rfl (tyX0_ok 2 (by decide)) rfl rfl (Nat.le_of_ble_eq_true rfl) dX6_morning_83 (fun H locs hP hD hS => ?_)
        replace hP : va_P (dC, dI) vwCl (wcRNPT qa cI cJ cZ r_images r_asked n_likings n_day v19 n_ill n_done w13 w14 t_tears t_gains t_likings t_settings t_goodbyes t_women) H := hP
        replace hD : va_D A (wcRNPT qa cI cJ cZ r_images r_asked n_likings n_day v19 n_ill n_done w13 w14 t_tears t_gains t_likings t_settings t_goodbyes t_women) := hD
        refine lv_aload_n hx hb dX6_morning_86 rfl (lv_at hl 1 rfl) ?_
        refine va_get (D := (dC, dI)) (ci := 6) (v := .ref (qa 3)) (C := RX6) (T := TX6) (N := 9) hx hb hts hinX6 hown hK hP 0 rfl rfl 1 (by decide) k1 (fun _ h9 => h9) rfl dX6_morning_87 ?_
        refine lv_iload_n hx hb dX6_morning_90 rfl (lv_at hl 4 rfl) ?_
        refine lv_aload_n hx hb dX6_morning_91 rfl (lv_at hl 1 rfl) ?_
        refine va_get (D := (dC, dI)) (ci := 6) (v := .ref (qa 16)) (C := RX6) (T := TX6) (N := 9) hx hb hts hinX6 hown hK hP 0 rfl rfl 6 (by decide) k4 (fun _ h9 => h9) rfl dX6_morning_92 ?_
        refine lv_aload_n hx hb dX6_morning_95 rfl (lv_at hl 1 rfl) ?_
        refine va_get (D := (dC, dI)) (ci := 6) (v := .ref (qa 3)) (C := RX6) (T := TX6) (N := 9) hx hb hts hinX6 hown hK hP 0 rfl rfl 1 (by decide) k1 (fun _ h9 => h9) rfl dX6_morning_96 ?_
        refine lv_iload_n hx hb dX6_morning_99 rfl (lv_at hl 4 rfl) ?_
        obtain ⟨v22, g21, hG⟩ := wq_b1_s hG
        refine wq_ci (v := v22) (B := wq_tr) (va_runV (As := [.int a3]) (rest := [.ref (qa 16), .int a3, .ref (qa 3)]) ⟨hx, hb, hml, hown, hts⟩ (C_X0_likingOf l dC dI cI cJ cZ qa H.size n_likings n_day v19 n_ill n_done a3 v22 g21) (cwV 1 hts gX6_morning_X0_likingOf rfl rfl rfl hdV_X0_likingOf ⟨Nat.le_of_ble_eq_true rfl, Nat.le_of_ble_eq_true rfl⟩) (wq_ppV hK (hP.sub (ws' := wcN qa cI cJ cZ n_likings n_day v19 n_ill n_done) [2, 3] rfl) hE hS hA (ci := 0) (q0 := 0) rfl rfl) rfl rfl hl.1 rfl (lv_room (Nat.le_of_ble_eq_true rfl)) dX6_morning_100 ⟨Nat.zero_le _, Nat.zero_le _⟩) hS hA (fun H locs b23 hk hS => ?_)
        replace hP := wq_kp hP hk
        clear hk
        refine lv_iload hx hb dX6_morning_103 (lv_at hl 0 rfl) ?_
        obtain ⟨v25, g24, hG⟩ := wq_b1_s hG
        refine wq_ci (v := v25) (B := wq_tr) (va_runV (As := [.int v22, .int v16]) (rest := [.int a3, .ref (qa 3)]) ⟨hx, hb, hml, hown, hts⟩ (C_X5_likingAfter l dC dI cI cJ cZ qa H.size t_tears t_gains t_likings t_settings t_goodbyes t_women v22 v16 v25 g24) (cwV 2 hts gX6_morning_X5_likingAfter rfl rfl rfl hdV_X5_likingAfter ⟨Nat.le_of_ble_eq_true rfl, Nat.le_of_ble_eq_true rfl⟩) (wq_ppV hK (hP.sub (ws' := wcT qa cI cJ cZ t_tears t_gains t_likings t_settings t_goodbyes t_women) [6, 7, 8, 9, 10] rfl) hE hS hA (ci := 5) (q0 := 0) rfl rfl) rfl rfl hl.1 rfl (lv_room (Nat.le_of_ble_eq_true rfl)) dX6_morning_105 ⟨Nat.zero_le _, Nat.zero_le _⟩) hS hA (fun H locs b26 hk hS => ?_)
        replace hP := wq_kp hP hk
        clear hk
        obtain ⟨w28, g27, hG⟩ := wq_b1_s hG
        have hFc := va_free (wc := wcN qa cI cJ cZ n_likings n_day v19 n_ill n_done) hD hS hA [2, 3] rfl
        refine wq_dv (D := (dC, dI)) (wr := wcRPT qa cI cJ cZ r_images r_asked w13 w14 t_tears t_gains t_likings t_settings t_goodbyes t_women) (w1 := wcN qa cI cJ cZ w28 n_day v19 n_ill n_done) (w2 := wcRNPT qa cI cJ cZ r_images r_asked w28 n_day v19 n_ill n_done w13 w14 t_tears t_gains t_likings t_settings t_goodbyes t_women) (va_runV (As := [.int a3, .int v25]) (rest := []) ⟨hx, hb, hml, hown, hts⟩ (C_X0_setLiking l dC dI cI cJ cZ qa H.size n_likings n_day v19 n_ill n_done a3 v25 w28 g27) (cwV 2 hts gX6_morning_X0_setLiking rfl rfl rfl hdV_X0_setLiking ⟨Nat.le_of_ble_eq_true rfl, Nat.le_of_ble_eq_true rfl⟩) (wq_pwV hK (hP.sub (ws' := wcN qa cI cJ cZ n_likings n_day v19 n_ill n_done) [2, 3] rfl) (hD.sub (ws' := wcN qa cI cJ cZ n_likings n_day v19 n_ill n_done) [2, 3] (by decide) rfl) hE hS hFc (ci := 0) (q0 := 0) rfl rfl) rfl rfl hl.1 rfl (lv_room (Nat.le_of_ble_eq_true rfl)) dX6_morning_108 ⟨Nat.zero_le _, Nat.zero_le _⟩) hP hD hS hFc [2, 3] [0, 1, 4, 5, 6, 7, 8, 9, 10] [0, 1, 9, 10, 2, 3, 4, 5, 6, 7, 8] rfl rfl (by decide) (by decide) (by decide) rfl (fun H locs hP hD hS => ?_)
        clear hFc
        refine lv_aload_n hx hb dX6_morning_111 rfl (lv_at hl 1 rfl) ?_
        refine va_get (D := (dC, dI)) (ci := 6) (v := .ref (qa 16)) (C := RX6) (T := TX6) (N := 9) hx hb hts hinX6 hown hK hP 0 rfl rfl 6 (by decide) k4 (fun _ h9 => h9) rfl dX6_morning_112 ?_
        refine lv_iload hx hb dX6_morning_115 (lv_at hl 0 rfl) ?_
        obtain ⟨v30, g29, hG⟩ := wq_b1_s hG
        refine wq_ci (v := v30) (B := wq_Z1) (va_runV (As := [.int v16]) (rest := []) ⟨hx, hb, hml, hown, hts⟩ (C_X5_isCalm l dC dI cI cJ cZ qa H.size t_tears t_gains t_likings t_settings t_goodbyes t_women v16 v30 g29) (cwV 1 hts gX6_morning_X5_isCalm rfl rfl rfl hdV_X5_isCalm ⟨Nat.le_of_ble_eq_true rfl, Nat.le_of_ble_eq_true rfl⟩) (wq_ppV hK (hP.sub (ws' := wcT qa cI cJ cZ t_tears t_gains t_likings t_settings t_goodbyes t_women) [6, 7, 8, 9, 10] rfl) hE hS hA (ci := 5) (q0 := 0) rfl rfl) rfl rfl hl.1 rfl (lv_room (Nat.le_of_ble_eq_true rfl)) dX6_morning_117 ⟨Nat.zero_le _, Nat.zero_le _⟩) hS hA (fun H locs b31 hk hS => ?_)
        replace hP := wq_kp hP hk
        clear hk
        refine lv_if_eq (tgt := 143) hx hb dX6_morning_120 (by decide) (fun c32 => ?_) (fun c32 => ?_)
        · replace hG := wq_t c32 hG
          refine lv_aload_n hx hb dX6_morning_143 rfl (lv_at hl 1 rfl) ?_
          refine va_get (D := (dC, dI)) (ci := 6) (v := .ref (qa 3)) (C := RX6) (T := TX6) (N := 9) hx hb hts hinX6 hown hK hP 0 rfl rfl 1 (by decide) k1 (fun _ h9 => h9) rfl dX6_morning_144 ?_
          refine lv_dup hx hb dX6_morning_147 rfl ?_
          refine va_get (D := (dC, dI)) (ci := 0) (v := .int n_day) (C := RX0) (T := TX0) (N := 5) hx hb hts hinX0 hown hK hP 2 rfl rfl 1 (by decide) k2 (fun _ h9 => h9) rfl dX6_morning_148 ?_
          refine lv_iconst (v := 1) hx hb dX6_morning_151 (by decide) ?_
          refine lv_iadd hx hb dX6_morning_152 ?_
          refine va_put (D := (dC, dI)) (ci := 0) (v := .int (n_day + 1)) (ty := tyX0 1) (C := RX0) (T := TX0) (N := 5) hx hb hts hinX0 tyX0 tyX0_ok nmX0 hown hK hP hD hS 2 rfl rfl 1 (by decide) k2 (fun _ h9 => h9) rfl (tyX0_ok 1 (by decide)) rfl rfl (Nat.le_of_ble_eq_true rfl) dX6_morning_153 (fun H locs hP hD hS => ?_)
          replace hP : va_P (dC, dI) vwCl (wcRNPT qa cI cJ cZ r_images r_asked w28 (n_day + 1) v19 n_ill n_done w13 w14 t_tears t_gains t_likings t_settings t_goodbyes t_women) H := hP
          replace hD : va_D A (wcRNPT qa cI cJ cZ r_images r_asked w28 (n_day + 1) v19 n_ill n_done w13 w14 t_tears t_gains t_likings t_settings t_goodbyes t_women) := hD
          refine lv_iload hx hb dX6_morning_156 (lv_at hl 0 rfl) ?_
          cases hG
          exact W.iret hx hb hr (fun t ht hW => ⟨⟨_, (), rfl, ⟨rfl, trivial⟩, by rw [ht]; exact hP, hD⟩, hS.F ht⟩) hS.2.2 dX6_morning_158
        · replace hG := wq_f c32 hG
          refine lv_iload_n hx hb dX6_morning_123 rfl (lv_at hl 3 rfl) ?_
          refine lv_aload_n hx hb dX6_morning_124 rfl (lv_at hl 1 rfl) ?_
          refine va_get (D := (dC, dI)) (ci := 6) (v := .ref (qa 16)) (C := RX6) (T := TX6) (N := 9) hx hb hts hinX6 hown hK hP 0 rfl rfl 6 (by decide) k4 (fun _ h9 => h9) rfl dX6_morning_125 ?_
          refine lv_iconst (v := 3) hx hb dX6_morning_128 (by decide) ?_
          obtain ⟨v34, g33, hG⟩ := wq_b1_s hG
          refine wq_ci (v := v34) (B := wq_tr) (va_runV (As := [.int 3]) (rest := [.int a2]) ⟨hx, hb, hml, hown, hts⟩ (C_X5_setting l dC dI cI cJ cZ qa H.size t_tears t_gains t_likings t_settings t_goodbyes t_women 3 v34 g33) (cwV 1 hts gX6_morning_X5_setting rfl rfl rfl hdV_X5_setting ⟨Nat.le_of_ble_eq_true rfl, Nat.le_of_ble_eq_true rfl⟩) (wq_ppV hK (hP.sub (ws' := wcT qa cI cJ cZ t_tears t_gains t_likings t_settings t_goodbyes t_women) [6, 7, 8, 9, 10] rfl) hE hS hA (ci := 5) (q0 := 0) rfl rfl) rfl rfl hl.1 rfl (lv_room (Nat.le_of_ble_eq_true rfl)) dX6_morning_129 ⟨Nat.zero_le _, Nat.zero_le _⟩) hS hA (fun H locs b35 hk hS => ?_)
          replace hP := wq_kp hP hk
          clear hk
          refine lv_icmp_lt (tgt := 143) hx hb dX6_morning_132 (by decide) (fun c36 => ?_) (fun c36 => ?_)
          · replace hG := wq_t c36 hG
            refine lv_aload_n hx hb dX6_morning_143 rfl (lv_at hl 1 rfl) ?_
            refine va_get (D := (dC, dI)) (ci := 6) (v := .ref (qa 3)) (C := RX6) (T := TX6) (N := 9) hx hb hts hinX6 hown hK hP 0 rfl rfl 1 (by decide) k1 (fun _ h9 => h9) rfl dX6_morning_144 ?_
            refine lv_dup hx hb dX6_morning_147 rfl ?_
            refine va_get (D := (dC, dI)) (ci := 0) (v := .int n_day) (C := RX0) (T := TX0) (N := 5) hx hb hts hinX0 hown hK hP 2 rfl rfl 1 (by decide) k2 (fun _ h9 => h9) rfl dX6_morning_148 ?_
            refine lv_iconst (v := 1) hx hb dX6_morning_151 (by decide) ?_
            refine lv_iadd hx hb dX6_morning_152 ?_
            refine va_put (D := (dC, dI)) (ci := 0) (v := .int (n_day + 1)) (ty := tyX0 1) (C := RX0) (T := TX0) (N := 5) hx hb hts hinX0 tyX0 tyX0_ok nmX0 hown hK hP hD hS 2 rfl rfl 1 (by decide) k2 (fun _ h9 => h9) rfl (tyX0_ok 1 (by decide)) rfl rfl (Nat.le_of_ble_eq_true rfl) dX6_morning_153 (fun H locs hP hD hS => ?_)
            replace hP : va_P (dC, dI) vwCl (wcRNPT qa cI cJ cZ r_images r_asked w28 (n_day + 1) v19 n_ill n_done w13 w14 t_tears t_gains t_likings t_settings t_goodbyes t_women) H := hP
            replace hD : va_D A (wcRNPT qa cI cJ cZ r_images r_asked w28 (n_day + 1) v19 n_ill n_done w13 w14 t_tears t_gains t_likings t_settings t_goodbyes t_women) := hD
            refine lv_iload hx hb dX6_morning_156 (lv_at hl 0 rfl) ?_
            cases hG
            exact W.iret hx hb hr (fun t ht hW => ⟨⟨_, (), rfl, ⟨rfl, trivial⟩, by rw [ht]; exact hP, hD⟩, hS.F ht⟩) hS.2.2 dX6_morning_158
          · replace hG := wq_f c36 hG
            refine lv_aload_n hx hb dX6_morning_135 rfl (lv_at hl 1 rfl) ?_
            refine va_get (D := (dC, dI)) (ci := 6) (v := .ref (qa 3)) (C := RX6) (T := TX6) (N := 9) hx hb hts hinX6 hown hK hP 0 rfl rfl 1 (by decide) k1 (fun _ h9 => h9) rfl dX6_morning_136 ?_
            refine lv_iconst (v := 1) hx hb dX6_morning_139 (by decide) ?_
            refine va_put (D := (dC, dI)) (ci := 0) (v := .int 1) (ty := tyX0 4) (C := RX0) (T := TX0) (N := 5) hx hb hts hinX0 tyX0 tyX0_ok nmX0 hown hK hP hD hS 2 rfl rfl 4 (by decide) k6 (fun _ h9 => h9) rfl (tyX0_ok 4 (by decide)) rfl rfl (Nat.le_of_ble_eq_true rfl) dX6_morning_140 (fun H locs hP hD hS => ?_)
            replace hP : va_P (dC, dI) vwCl (wcRNPT qa cI cJ cZ r_images r_asked w28 n_day v19 n_ill 1 w13 w14 t_tears t_gains t_likings t_settings t_goodbyes t_women) H := hP
            replace hD : va_D A (wcRNPT qa cI cJ cZ r_images r_asked w28 n_day v19 n_ill 1 w13 w14 t_tears t_gains t_likings t_settings t_goodbyes t_women) := hD
            refine lv_aload_n hx hb dX6_morning_143 rfl (lv_at hl 1 rfl) ?_
            refine va_get (D := (dC, dI)) (ci := 6) (v := .ref (qa 3)) (C := RX6) (T := TX6) (N := 9) hx hb hts hinX6 hown hK hP 0 rfl rfl 1 (by decide) k1 (fun _ h9 => h9) rfl dX6_morning_144 ?_
            refine lv_dup hx hb dX6_morning_147 rfl ?_
            refine va_get (D := (dC, dI)) (ci := 0) (v := .int n_day) (C := RX0) (T := TX0) (N := 5) hx hb hts hinX0 hown hK hP 2 rfl rfl 1 (by decide) k2 (fun _ h9 => h9) rfl dX6_morning_148 ?_
            refine lv_iconst (v := 1) hx hb dX6_morning_151 (by decide) ?_
            refine lv_iadd hx hb dX6_morning_152 ?_
            refine va_put (D := (dC, dI)) (ci := 0) (v := .int (n_day + 1)) (ty := tyX0 1) (C := RX0) (T := TX0) (N := 5) hx hb hts hinX0 tyX0 tyX0_ok nmX0 hown hK hP hD hS 2 rfl rfl 1 (by decide) k2 (fun _ h9 => h9) rfl (tyX0_ok 1 (by decide)) rfl rfl (Nat.le_of_ble_eq_true rfl) dX6_morning_153 (fun H locs hP hD hS => ?_)
            replace hP : va_P (dC, dI) vwCl (wcRNPT qa cI cJ cZ r_images r_asked w28 (n_day + 1) v19 n_ill 1 w13 w14 t_tears t_gains t_likings t_settings t_goodbyes t_women) H := hP
            replace hD : va_D A (wcRNPT qa cI cJ cZ r_images r_asked w28 (n_day + 1) v19 n_ill 1 w13 w14 t_tears t_gains t_likings t_settings t_goodbyes t_women) := hD
            refine lv_iload hx hb dX6_morning_156 (lv_at hl 0 rfl) ?_
            cases hG
            exact W.iret hx hb hr (fun t ht hW => ⟨⟨_, (), rfl, ⟨rfl, trivial⟩, by rw [ht]; exact hP, hD⟩, hS.F ht⟩) hS.2.2 dX6_morning_158
      · replace hG := wq_f c9 hG
        refine lv_bipush (v := (-2)) hx hb dX6_morning_36 (by decide) ?_
        cases hG
        exact W.iret hx hb hr (fun t ht hW => ⟨⟨_, (), rfl, ⟨rfl, trivial⟩, by rw [ht]; exact hP, hD⟩, hS.F ht⟩) hS.2.2 dX6_morning_38
  · replace hG := wq_t c4 hG
    refine lv_iconst (v := (-1)) hx hb dX6_morning_10 (by decide) ?_
    cases hG
    exact W.iret hx hb hr (fun t ht hW => ⟨⟨_, (), rfl, ⟨rfl, trivial⟩, by rw [ht]; exact hP, hD⟩, hS.F ht⟩) hS.2.2 dX6_morning_11

def gX6_home (n_likings : Nat → Int32) (n_day : Int32) (n_trust : Int32) (n_ill : Int32) (n_done : Int32) (p_befores : Nat → Int64) (p_known : Int32) (a1 : Int32) : Option (Int32 × Int32 × Int32 × (Nat → Int64) × Int32) :=
    if a1 < 1 then
    some ((-1), n_day, n_trust, p_befores, p_known)
    else
    (if a1 ≤ 9 then
    (if (n_day + a1) ≤ 999 then
    wq_b1 (gX0_folded n_likings n_day n_trust n_ill n_done) (fun v5 =>
    wq_b2 (gX2_add p_befores p_known v5) (fun w7 w8 =>
    some ((if 0 < (n_trust - a1) then (n_trust - a1) else 0), (n_day + a1), (if 0 < (n_trust - a1) then (n_trust - a1) else 0), w7, w8)))
    else
    some ((-2), n_day, n_trust, p_befores, p_known))
    else
    some ((-1), n_day, n_trust, p_befores, p_known))
theorem hdV_X6_home : yX6_home.cls = RX6 ∧ yX6_home.cls ≠ "java/lang/invoke/MethodHandle" ∧ yX6_home.cls ≠ "java/lang/invoke/VarHandle" ∧ (parseMethodDescriptor yX6_home.desc).map (fun d => d.parameters.length) = some 1 := by decide +kernel
set_option maxHeartbeats 4000000 in
set_option maxRecDepth 100000 in
theorem C_X6_home (l : Launch) (dC : Nat → ClassId) (dI : Nat → Nat → Nat) (cI cJ cZ : ClassId) (qa : Nat → Nat) (sz : Nat) (r_images : Nat → Int64) (r_asked : Int64) (n_likings : Nat → Int32) (n_day : Int32) (n_trust : Int32) (n_ill : Int32) (n_done : Int32) (p_befores : Nat → Int64) (p_known : Int32) (a1 : Int32) (r0 : Int32) (r_n_day : Int32) (r_n_trust : Int32) (r_p_befores : Nat → Int64) (r_p_known : Int32) (hG : gX6_home n_likings n_day n_trust n_ill n_done p_befores p_known a1 = some (r0, r_n_day, r_n_trust, r_p_befores, r_p_known)) : Met l yX6_home wsX6_home ({ frames := 2, cells := 0, slots := 0, locals := 43 } : Room) (va_Pc [.ref (qa 0), .int a1] (wq_pw (dC, dI) [(cI, .int), (cJ, .long), (cZ, .boolean)] (wcRNP qa cI cJ cZ r_images r_asked n_likings n_day n_trust n_ill n_done p_befores p_known) sz)) (wq_Wi (dC, dI) r0 wq_tr (wcRNP qa cI cJ cZ r_images r_asked n_likings r_n_day r_n_trust n_ill n_done r_p_befores r_p_known) (va_A (wcRNP qa cI cJ cZ r_images r_asked n_likings n_day n_trust n_ill n_done p_befores p_known) sz)) 0 0 (va_A (wcRNP qa cI cJ cZ r_images r_asked n_likings n_day n_trust n_ill n_done p_befores p_known) sz) := by
  refine Met.ofW (cc := cX6_home) (maxL := 2) (ret := (some .int)) (by decide) rfl ?_
  intro p e s m args below meth c s₁ B hml hv
  obtain ⟨rfl, hsz, hP, hK, hD0, hE⟩ := hv
  have hx := B.exec
  have hb := B.bytes
  have hr := B.returns
  have hts := atoms_spec (ws := wsX6_home) B.pre
  have hown : s.vm.findClass RX6 = some m.cls := findClass_of_methodNamed B.named
  have hlocks := B.notSynchronized
  subst hsz
  have hD := hD0.self (sz := s.heap.size)
  generalize hAe : va_A (wcRNP qa cI cJ cZ r_images r_asked n_likings n_day n_trust n_ill n_done p_befores p_known) s.heap.size = A at hD hE ⊢
  have hA : ∀ q : Nat, s.heap.size ≤ q → A q := fun q h => by rw [← hAe]; exact Or.inr h
  have hS : va_S A s.heap s.heap [] := va_S.rf
  have hinX6 : ∀ w ∈ u_ws RX6 TX6 9, w ∈ wsX6_home := by decide +kernel
  have hinX0 : ∀ w ∈ u_ws RX0 TX0 5, w ∈ wsX6_home := by decide +kernel
  have k1 := hts (.fieldLink RX6 19 "DoorMornings" "today" "LDoorMornings$Now;") (by decide +kernel)
  have k2 := hts (.fieldLink RX6 109 "DoorMornings$Now" "day" "I") (by decide +kernel)
  have k3 := hts (.fieldLink RX6 26 "DoorMornings" "past" "LDoorMornings$Past;") (by decide +kernel)
  have k4 := hts (.fieldLink RX6 113 "DoorMornings$Now" "trust" "I") (by decide +kernel)
  have k5 := hts (.methodLink RX6 160 Lib.Math.max.name) (by decide +kernel)
  have k6 := hts (.static Lib.Math.max.name) (by decide +kernel)
  have k7 := hts (.initialized "java/lang/Math") (by decide +kernel)
  have k8 := hts (.code Lib.Math.max.name Lib.Math.max.code 2 (some .int)) (by decide +kernel)
  have hl := lv_entry ([.ref (qa 0), .int a1]) (n := 2) (Nat.le_of_ble_eq_true rfl)
  rw [lg_entry_eq]
  generalize (lg_sl ([.ref (qa 0), .int a1]) ++ List.replicate (2 - (lg_sl ([.ref (qa 0), .int a1])).length) Slot.unset).toArray = ls at hl ⊢
  have hl : lv_has ls 2 [(0, .ref (qa 0)), (1, .int a1)] := hl
  unfold gX6_home at hG
  refine lv_iload_n hx hb dX6_home_0 rfl (lv_at hl 1 rfl) ?_
  refine lv_iconst (v := 1) hx hb dX6_home_1 (by decide) ?_
  refine lv_icmp_lt (tgt := 11) hx hb dX6_home_2 (by decide) (fun c1 => ?_) (fun c1 => ?_)
  · replace hG := wq_t c1 hG
    refine lv_iconst (v := (-1)) hx hb dX6_home_11 (by decide) ?_
    cases hG
    exact W.iret hx hb hr (fun t ht hW => ⟨⟨_, (), rfl, ⟨rfl, trivial⟩, by rw [ht]; exact hP, hD⟩, hS.F ht⟩) hS.2.2 dX6_home_12
  · replace hG := wq_f c1 hG
    refine lv_iload_n hx hb dX6_home_5 rfl (lv_at hl 1 rfl) ?_
    refine lv_bipush (v := 9) hx hb dX6_home_6 (by decide) ?_
    refine lv_icmp_le (tgt := 13) hx hb dX6_home_8 (by decide) (fun c2 => ?_) (fun c2 => ?_)
    · replace hG := wq_t c2 hG
      refine lv_aload_n hx hb dX6_home_13 rfl (lv_at hl 0 rfl) ?_
      refine va_get (D := (dC, dI)) (ci := 6) (v := .ref (qa 3)) (C := RX6) (T := TX6) (N := 9) hx hb hts hinX6 hown hK hP 0 rfl rfl 1 (by decide) k1 (fun _ h9 => h9) rfl dX6_home_14 ?_
      refine va_get (D := (dC, dI)) (ci := 0) (v := .int n_day) (C := RX0) (T := TX0) (N := 5) hx hb hts hinX0 hown hK hP 2 rfl rfl 1 (by decide) k2 (fun _ h9 => h9) rfl dX6_home_17 ?_
      refine lv_iload_n hx hb dX6_home_20 rfl (lv_at hl 1 rfl) ?_
      refine lv_iadd hx hb dX6_home_21 ?_
      refine lv_sipush (v := 999) hx hb dX6_home_22 (by decide) ?_
      refine lv_icmp_le (tgt := 31) hx hb dX6_home_25 (by decide) (fun c3 => ?_) (fun c3 => ?_)
      · replace hG := wq_t c3 hG
        refine lv_aload_n hx hb dX6_home_31 rfl (lv_at hl 0 rfl) ?_
        refine va_get (D := (dC, dI)) (ci := 6) (v := .ref (qa 5)) (C := RX6) (T := TX6) (N := 9) hx hb hts hinX6 hown hK hP 0 rfl rfl 2 (by decide) k3 (fun _ h9 => h9) rfl dX6_home_32 ?_
        refine lv_aload_n hx hb dX6_home_35 rfl (lv_at hl 0 rfl) ?_
        refine va_get (D := (dC, dI)) (ci := 6) (v := .ref (qa 3)) (C := RX6) (T := TX6) (N := 9) hx hb hts hinX6 hown hK hP 0 rfl rfl 1 (by decide) k1 (fun _ h9 => h9) rfl dX6_home_36 ?_
        obtain ⟨v5, g4, hG⟩ := wq_b1_s hG
        refine wq_cl (v := v5) (va_runV (As := []) (rest := [.ref (qa 5)]) ⟨hx, hb, hml, hown, hts⟩ (C_X0_folded l dC dI cI cJ cZ qa s.heap.size n_likings n_day n_trust n_ill n_done  v5 g4) (cwV 0 hts gX6_home_X0_folded rfl rfl rfl hdV_X0_folded ⟨Nat.le_of_ble_eq_true rfl, Nat.le_of_ble_eq_true rfl⟩) (wq_ppV hK (hP.sub (ws' := wcN qa cI cJ cZ n_likings n_day n_trust n_ill n_done) [2, 3] rfl) hE hS hA (ci := 0) (q0 := 0) rfl rfl) rfl rfl hl.1 rfl (lv_room (Nat.le_of_ble_eq_true rfl)) dX6_home_39 ⟨Nat.zero_le _, Nat.zero_le _⟩) hS hA (fun H locs hk hS => ?_)
        replace hP := wq_kp hP hk
        clear hk
        obtain ⟨w7, w8, g6, hG⟩ := wq_b2_s hG
        have hFc := va_free (wc := wcP qa cI cJ cZ p_befores p_known) hD hS hA [4, 5] rfl
        refine wq_dv (D := (dC, dI)) (wr := wcRN qa cI cJ cZ r_images r_asked n_likings n_day n_trust n_ill n_done) (w1 := wcP qa cI cJ cZ w7 w8) (w2 := wcRNP qa cI cJ cZ r_images r_asked n_likings n_day n_trust n_ill n_done w7 w8) (va_runV (As := [.long v5]) (rest := []) ⟨hx, hb, hml, hown, hts⟩ (C_X2_add l dC dI cI cJ cZ qa H.size p_befores p_known v5 w7 w8 g6) (cwV 1 hts gX6_home_X2_add rfl rfl rfl hdV_X2_add ⟨Nat.le_of_ble_eq_true rfl, Nat.le_of_ble_eq_true rfl⟩) (wq_pwV hK (hP.sub (ws' := wcP qa cI cJ cZ p_befores p_known) [4, 5] rfl) (hD.sub (ws' := wcP qa cI cJ cZ p_befores p_known) [4, 5] (by decide) rfl) hE hS hFc (ci := 2) (q0 := 0) rfl rfl) rfl rfl hl.1 rfl (lv_room (Nat.le_of_ble_eq_true rfl)) dX6_home_42 ⟨Nat.zero_le _, Nat.zero_le _⟩) hP hD hS hFc [4, 5] [0, 1, 2, 3] [0, 1, 2, 3, 4, 5] rfl rfl (by decide) (by decide) (by decide) rfl (fun H locs hP hD hS => ?_)
        clear hFc
        refine lv_aload_n hx hb dX6_home_45 rfl (lv_at hl 0 rfl) ?_
        refine va_get (D := (dC, dI)) (ci := 6) (v := .ref (qa 3)) (C := RX6) (T := TX6) (N := 9) hx hb hts hinX6 hown hK hP 0 rfl rfl 1 (by decide) k1 (fun _ h9 => h9) rfl dX6_home_46 ?_
        refine lv_dup hx hb dX6_home_49 rfl ?_
        refine va_get (D := (dC, dI)) (ci := 0) (v := .int n_day) (C := RX0) (T := TX0) (N := 5) hx hb hts hinX0 hown hK hP 2 rfl rfl 1 (by decide) k2 (fun _ h9 => h9) rfl dX6_home_50 ?_
        refine lv_iload_n hx hb dX6_home_53 rfl (lv_at hl 1 rfl) ?_
        refine lv_iadd hx hb dX6_home_54 ?_
        refine va_put (D := (dC, dI)) (ci := 0) (v := .int (n_day + a1)) (ty := tyX0 1) (C := RX0) (T := TX0) (N := 5) hx hb hts hinX0 tyX0 tyX0_ok nmX0 hown hK hP hD hS 2 rfl rfl 1 (by decide) k2 (fun _ h9 => h9) rfl (tyX0_ok 1 (by decide)) rfl rfl (Nat.le_of_ble_eq_true rfl) dX6_home_55 (fun H locs hP hD hS => ?_)
        replace hP : va_P (dC, dI) vwCl (wcRNP qa cI cJ cZ r_images r_asked n_likings (n_day + a1) n_trust n_ill n_done w7 w8) H := hP
        replace hD : va_D A (wcRNP qa cI cJ cZ r_images r_asked n_likings (n_day + a1) n_trust n_ill n_done w7 w8) := hD
        refine lv_aload_n hx hb dX6_home_58 rfl (lv_at hl 0 rfl) ?_
        refine va_get (D := (dC, dI)) (ci := 6) (v := .ref (qa 3)) (C := RX6) (T := TX6) (N := 9) hx hb hts hinX6 hown hK hP 0 rfl rfl 1 (by decide) k1 (fun _ h9 => h9) rfl dX6_home_59 ?_
        refine lv_iconst (v := 0) hx hb dX6_home_62 (by decide) ?_
        refine lv_aload_n hx hb dX6_home_63 rfl (lv_at hl 0 rfl) ?_
        refine va_get (D := (dC, dI)) (ci := 6) (v := .ref (qa 3)) (C := RX6) (T := TX6) (N := 9) hx hb hts hinX6 hown hK hP 0 rfl rfl 1 (by decide) k1 (fun _ h9 => h9) rfl dX6_home_64 ?_
        refine va_get (D := (dC, dI)) (ci := 0) (v := .int n_trust) (C := RX0) (T := TX0) (N := 5) hx hb hts hinX0 hown hK hP 2 rfl rfl 2 (by decide) k4 (fun _ h9 => h9) rfl dX6_home_67 ?_
        refine lv_iload_n hx hb dX6_home_70 rfl (lv_at hl 1 rfl) ?_
        refine lv_isub hx hb dX6_home_71 ?_
        refine va_mmax (x := 0) (y := (n_trust - a1)) hx hb (hml.trans hl.1.symm) hown k5 k6 k7 k8 (Nat.le_of_ble_eq_true rfl) (Nat.le_of_ble_eq_true rfl) (Nat.zero_le _) (Nat.zero_le _) dX6_home_72 ?_
        refine va_put (D := (dC, dI)) (ci := 0) (v := .int (if 0 < (n_trust - a1) then (n_trust - a1) else 0)) (ty := tyX0 2) (C := RX0) (T := TX0) (N := 5) hx hb hts hinX0 tyX0 tyX0_ok nmX0 hown hK hP hD hS 2 rfl rfl 2 (by decide) k4 (fun _ h9 => h9) rfl (tyX0_ok 2 (by decide)) rfl rfl (Nat.le_of_ble_eq_true rfl) dX6_home_75 (fun H locs hP hD hS => ?_)
        replace hP : va_P (dC, dI) vwCl (wcRNP qa cI cJ cZ r_images r_asked n_likings (n_day + a1) (if 0 < (n_trust - a1) then (n_trust - a1) else 0) n_ill n_done w7 w8) H := hP
        replace hD : va_D A (wcRNP qa cI cJ cZ r_images r_asked n_likings (n_day + a1) (if 0 < (n_trust - a1) then (n_trust - a1) else 0) n_ill n_done w7 w8) := hD
        refine lv_aload_n hx hb dX6_home_78 rfl (lv_at hl 0 rfl) ?_
        refine va_get (D := (dC, dI)) (ci := 6) (v := .ref (qa 3)) (C := RX6) (T := TX6) (N := 9) hx hb hts hinX6 hown hK hP 0 rfl rfl 1 (by decide) k1 (fun _ h9 => h9) rfl dX6_home_79 ?_
        refine va_get (D := (dC, dI)) (ci := 0) (v := .int (if 0 < (n_trust - a1) then (n_trust - a1) else 0)) (C := RX0) (T := TX0) (N := 5) hx hb hts hinX0 hown hK hP 2 rfl rfl 2 (by decide) k4 (fun _ h9 => h9) rfl dX6_home_82 ?_
        cases hG
        exact W.iret hx hb hr (fun t ht hW => ⟨⟨_, (), rfl, ⟨rfl, trivial⟩, by rw [ht]; exact hP, hD⟩, hS.F ht⟩) hS.2.2 dX6_home_85
      · replace hG := wq_f c3 hG
        refine lv_bipush (v := (-2)) hx hb dX6_home_28 (by decide) ?_
        cases hG
        exact W.iret hx hb hr (fun t ht hW => ⟨⟨_, (), rfl, ⟨rfl, trivial⟩, by rw [ht]; exact hP, hD⟩, hS.F ht⟩) hS.2.2 dX6_home_30
    · replace hG := wq_f c2 hG
      refine lv_iconst (v := (-1)) hx hb dX6_home_11 (by decide) ?_
      cases hG
      exact W.iret hx hb hr (fun t ht hW => ⟨⟨_, (), rfl, ⟨rfl, trivial⟩, by rw [ht]; exact hP, hD⟩, hS.F ht⟩) hS.2.2 dX6_home_12

def gJ6_bitCount_0f7a4 (a0 : Int32) : Option (Int32) :=
    some ((((((((a0 - ((Int32.toUInt32 a0 >>> (Int32.toUInt32 1 &&& Int32.toUInt32 31)).toInt32 &&& 1431655765)) &&& 858993459) + ((Int32.toUInt32 (a0 - ((Int32.toUInt32 a0 >>> (Int32.toUInt32 1 &&& Int32.toUInt32 31)).toInt32 &&& 1431655765)) >>> (Int32.toUInt32 2 &&& Int32.toUInt32 31)).toInt32 &&& 858993459)) + (Int32.toUInt32 (((a0 - ((Int32.toUInt32 a0 >>> (Int32.toUInt32 1 &&& Int32.toUInt32 31)).toInt32 &&& 1431655765)) &&& 858993459) + ((Int32.toUInt32 (a0 - ((Int32.toUInt32 a0 >>> (Int32.toUInt32 1 &&& Int32.toUInt32 31)).toInt32 &&& 1431655765)) >>> (Int32.toUInt32 2 &&& Int32.toUInt32 31)).toInt32 &&& 858993459)) >>> (Int32.toUInt32 4 &&& Int32.toUInt32 31)).toInt32) &&& 252645135) + (Int32.toUInt32 (((((a0 - ((Int32.toUInt32 a0 >>> (Int32.toUInt32 1 &&& Int32.toUInt32 31)).toInt32 &&& 1431655765)) &&& 858993459) + ((Int32.toUInt32 (a0 - ((Int32.toUInt32 a0 >>> (Int32.toUInt32 1 &&& Int32.toUInt32 31)).toInt32 &&& 1431655765)) >>> (Int32.toUInt32 2 &&& Int32.toUInt32 31)).toInt32 &&& 858993459)) + (Int32.toUInt32 (((a0 - ((Int32.toUInt32 a0 >>> (Int32.toUInt32 1 &&& Int32.toUInt32 31)).toInt32 &&& 1431655765)) &&& 858993459) + ((Int32.toUInt32 (a0 - ((Int32.toUInt32 a0 >>> (Int32.toUInt32 1 &&& Int32.toUInt32 31)).toInt32 &&& 1431655765)) >>> (Int32.toUInt32 2 &&& Int32.toUInt32 31)).toInt32 &&& 858993459)) >>> (Int32.toUInt32 4 &&& Int32.toUInt32 31)).toInt32) &&& 252645135) >>> (Int32.toUInt32 8 &&& Int32.toUInt32 31)).toInt32) + (Int32.toUInt32 ((((((a0 - ((Int32.toUInt32 a0 >>> (Int32.toUInt32 1 &&& Int32.toUInt32 31)).toInt32 &&& 1431655765)) &&& 858993459) + ((Int32.toUInt32 (a0 - ((Int32.toUInt32 a0 >>> (Int32.toUInt32 1 &&& Int32.toUInt32 31)).toInt32 &&& 1431655765)) >>> (Int32.toUInt32 2 &&& Int32.toUInt32 31)).toInt32 &&& 858993459)) + (Int32.toUInt32 (((a0 - ((Int32.toUInt32 a0 >>> (Int32.toUInt32 1 &&& Int32.toUInt32 31)).toInt32 &&& 1431655765)) &&& 858993459) + ((Int32.toUInt32 (a0 - ((Int32.toUInt32 a0 >>> (Int32.toUInt32 1 &&& Int32.toUInt32 31)).toInt32 &&& 1431655765)) >>> (Int32.toUInt32 2 &&& Int32.toUInt32 31)).toInt32 &&& 858993459)) >>> (Int32.toUInt32 4 &&& Int32.toUInt32 31)).toInt32) &&& 252645135) + (Int32.toUInt32 (((((a0 - ((Int32.toUInt32 a0 >>> (Int32.toUInt32 1 &&& Int32.toUInt32 31)).toInt32 &&& 1431655765)) &&& 858993459) + ((Int32.toUInt32 (a0 - ((Int32.toUInt32 a0 >>> (Int32.toUInt32 1 &&& Int32.toUInt32 31)).toInt32 &&& 1431655765)) >>> (Int32.toUInt32 2 &&& Int32.toUInt32 31)).toInt32 &&& 858993459)) + (Int32.toUInt32 (((a0 - ((Int32.toUInt32 a0 >>> (Int32.toUInt32 1 &&& Int32.toUInt32 31)).toInt32 &&& 1431655765)) &&& 858993459) + ((Int32.toUInt32 (a0 - ((Int32.toUInt32 a0 >>> (Int32.toUInt32 1 &&& Int32.toUInt32 31)).toInt32 &&& 1431655765)) >>> (Int32.toUInt32 2 &&& Int32.toUInt32 31)).toInt32 &&& 858993459)) >>> (Int32.toUInt32 4 &&& Int32.toUInt32 31)).toInt32) &&& 252645135) >>> (Int32.toUInt32 8 &&& Int32.toUInt32 31)).toInt32) >>> (Int32.toUInt32 16 &&& Int32.toUInt32 31)).toInt32) &&& 63)
theorem hdS_J6_bitCount_0f7a4 : yJ6_bitCount_0f7a4.cls ≠ "java/lang/invoke/MethodHandle" ∧ yJ6_bitCount_0f7a4.cls ≠ "java/lang/invoke/VarHandle" ∧ (parseMethodDescriptor yJ6_bitCount_0f7a4.desc).map (fun d => d.parameters.length) = some 1 := by decide +kernel
set_option maxHeartbeats 4000000 in
set_option maxRecDepth 100000 in
theorem C_J6_bitCount_0f7a4 (l : Launch) (dC : Nat → ClassId) (dI : Nat → Nat → Nat) (cI cJ cZ : ClassId) (qa : Nat → Nat) (sz : Nat) (a0 : Int32) (r0 : Int32) (hG : gJ6_bitCount_0f7a4 a0 = some r0) : Met l yJ6_bitCount_0f7a4 wsJ6_bitCount_0f7a4 ({ frames := 0, cells := 0, slots := 0, locals := 0 } : Room) (va_Pc [.int a0] (wq_pp (dC, dI) [(cI, .int), (cJ, .long), (cZ, .boolean)] ([]) sz)) (wq_Qi r0 wq_tr (va_A [] sz)) 0 0 (va_A [] sz) := by
  refine Met.ofW (cc := cJ6_bitCount_0f7a4) (maxL := 1) (ret := (some .int)) (by decide) rfl ?_
  intro p e s m args below meth c s₁ B hml hv
  obtain ⟨rfl, hsz, hP, hK, hE⟩ := hv
  have hx := B.exec
  have hb := B.bytes
  have hr := B.returns
  have hts := atoms_spec (ws := wsJ6_bitCount_0f7a4) B.pre
  have hown : s.vm.findClass RJ6 = some m.cls := findClass_of_methodNamed B.named
  have hlocks := B.notSynchronized
  subst hsz
  generalize hAe : va_A [] s.heap.size = A at hE ⊢
  have hA : ∀ q : Nat, s.heap.size ≤ q → A q := fun q h => by rw [← hAe]; exact Or.inr h
  have hS : va_S A s.heap s.heap [] := va_S.rf
  have k1 := hts (.constant RJ6 265 (1431655765)) (by decide +kernel)
  have k2 := hts (.constant RJ6 266 (858993459)) (by decide +kernel)
  have k3 := hts (.constant RJ6 267 (252645135)) (by decide +kernel)
  have hl := lv_entry ([.int a0]) (n := 1) (Nat.le_of_ble_eq_true rfl)
  rw [lg_entry_eq]
  generalize (lg_sl ([.int a0]) ++ List.replicate (1 - (lg_sl ([.int a0])).length) Slot.unset).toArray = ls at hl ⊢
  have hl : lv_has ls 1 [(0, .int a0)] := hl
  unfold gJ6_bitCount_0f7a4 at hG
  refine lv_iload_n hx hb dJ6_bitCount_0f7a4_0 rfl (lv_at hl 0 rfl) ?_
  refine lv_iload_n hx hb dJ6_bitCount_0f7a4_1 rfl (lv_at hl 0 rfl) ?_
  refine lv_iconst (v := 1) hx hb dJ6_bitCount_0f7a4_2 (by decide) ?_
  refine lv_iushr hx hb dJ6_bitCount_0f7a4_3 rfl ?_
  refine lv_ldcw (v := 1431655765) hx hb hown k1 dJ6_bitCount_0f7a4_4 ?_
  refine lv_iand hx hb dJ6_bitCount_0f7a4_7 ?_
  refine lv_isub hx hb dJ6_bitCount_0f7a4_8 ?_
  refine lv_istore_n (lv' := [(0, .int (a0 - ((Int32.toUInt32 a0 >>> (Int32.toUInt32 1 &&& Int32.toUInt32 31)).toInt32 &&& 1431655765)))]) hx hb dJ6_bitCount_0f7a4_9 rfl hl (by decide) rfl (fun ls hl => ?_)
  refine lv_iload_n hx hb dJ6_bitCount_0f7a4_10 rfl (lv_at hl 0 rfl) ?_
  refine lv_ldcw (v := 858993459) hx hb hown k2 dJ6_bitCount_0f7a4_11 ?_
  refine lv_iand hx hb dJ6_bitCount_0f7a4_14 ?_
  refine lv_iload_n hx hb dJ6_bitCount_0f7a4_15 rfl (lv_at hl 0 rfl) ?_
  refine lv_iconst (v := 2) hx hb dJ6_bitCount_0f7a4_16 (by decide) ?_
  refine lv_iushr hx hb dJ6_bitCount_0f7a4_17 rfl ?_
  refine lv_ldcw (v := 858993459) hx hb hown k2 dJ6_bitCount_0f7a4_18 ?_
  refine lv_iand hx hb dJ6_bitCount_0f7a4_21 ?_
  refine lv_iadd hx hb dJ6_bitCount_0f7a4_22 ?_
  refine lv_istore_n (lv' := [(0, .int (((a0 - ((Int32.toUInt32 a0 >>> (Int32.toUInt32 1 &&& Int32.toUInt32 31)).toInt32 &&& 1431655765)) &&& 858993459) + ((Int32.toUInt32 (a0 - ((Int32.toUInt32 a0 >>> (Int32.toUInt32 1 &&& Int32.toUInt32 31)).toInt32 &&& 1431655765)) >>> (Int32.toUInt32 2 &&& Int32.toUInt32 31)).toInt32 &&& 858993459)))]) hx hb dJ6_bitCount_0f7a4_23 rfl hl (by decide) rfl (fun ls hl => ?_)
  refine lv_iload_n hx hb dJ6_bitCount_0f7a4_24 rfl (lv_at hl 0 rfl) ?_
  refine lv_iload_n hx hb dJ6_bitCount_0f7a4_25 rfl (lv_at hl 0 rfl) ?_
  refine lv_iconst (v := 4) hx hb dJ6_bitCount_0f7a4_26 (by decide) ?_
  refine lv_iushr hx hb dJ6_bitCount_0f7a4_27 rfl ?_
  refine lv_iadd hx hb dJ6_bitCount_0f7a4_28 ?_
  refine lv_ldcw (v := 252645135) hx hb hown k3 dJ6_bitCount_0f7a4_29 ?_
  refine lv_iand hx hb dJ6_bitCount_0f7a4_32 ?_
  refine lv_istore_n (lv' := [(0, .int (((((a0 - ((Int32.toUInt32 a0 >>> (Int32.toUInt32 1 &&& Int32.toUInt32 31)).toInt32 &&& 1431655765)) &&& 858993459) + ((Int32.toUInt32 (a0 - ((Int32.toUInt32 a0 >>> (Int32.toUInt32 1 &&& Int32.toUInt32 31)).toInt32 &&& 1431655765)) >>> (Int32.toUInt32 2 &&& Int32.toUInt32 31)).toInt32 &&& 858993459)) + (Int32.toUInt32 (((a0 - ((Int32.toUInt32 a0 >>> (Int32.toUInt32 1 &&& Int32.toUInt32 31)).toInt32 &&& 1431655765)) &&& 858993459) + ((Int32.toUInt32 (a0 - ((Int32.toUInt32 a0 >>> (Int32.toUInt32 1 &&& Int32.toUInt32 31)).toInt32 &&& 1431655765)) >>> (Int32.toUInt32 2 &&& Int32.toUInt32 31)).toInt32 &&& 858993459)) >>> (Int32.toUInt32 4 &&& Int32.toUInt32 31)).toInt32) &&& 252645135))]) hx hb dJ6_bitCount_0f7a4_33 rfl hl (by decide) rfl (fun ls hl => ?_)
  refine lv_iload_n hx hb dJ6_bitCount_0f7a4_34 rfl (lv_at hl 0 rfl) ?_
  refine lv_iload_n hx hb dJ6_bitCount_0f7a4_35 rfl (lv_at hl 0 rfl) ?_
  refine lv_bipush (v := 8) hx hb dJ6_bitCount_0f7a4_36 (by decide) ?_
  refine lv_iushr hx hb dJ6_bitCount_0f7a4_38 rfl ?_
  refine lv_iadd hx hb dJ6_bitCount_0f7a4_39 ?_
  refine lv_istore_n (lv' := [(0, .int ((((((a0 - ((Int32.toUInt32 a0 >>> (Int32.toUInt32 1 &&& Int32.toUInt32 31)).toInt32 &&& 1431655765)) &&& 858993459) + ((Int32.toUInt32 (a0 - ((Int32.toUInt32 a0 >>> (Int32.toUInt32 1 &&& Int32.toUInt32 31)).toInt32 &&& 1431655765)) >>> (Int32.toUInt32 2 &&& Int32.toUInt32 31)).toInt32 &&& 858993459)) + (Int32.toUInt32 (((a0 - ((Int32.toUInt32 a0 >>> (Int32.toUInt32 1 &&& Int32.toUInt32 31)).toInt32 &&& 1431655765)) &&& 858993459) + ((Int32.toUInt32 (a0 - ((Int32.toUInt32 a0 >>> (Int32.toUInt32 1 &&& Int32.toUInt32 31)).toInt32 &&& 1431655765)) >>> (Int32.toUInt32 2 &&& Int32.toUInt32 31)).toInt32 &&& 858993459)) >>> (Int32.toUInt32 4 &&& Int32.toUInt32 31)).toInt32) &&& 252645135) + (Int32.toUInt32 (((((a0 - ((Int32.toUInt32 a0 >>> (Int32.toUInt32 1 &&& Int32.toUInt32 31)).toInt32 &&& 1431655765)) &&& 858993459) + ((Int32.toUInt32 (a0 - ((Int32.toUInt32 a0 >>> (Int32.toUInt32 1 &&& Int32.toUInt32 31)).toInt32 &&& 1431655765)) >>> (Int32.toUInt32 2 &&& Int32.toUInt32 31)).toInt32 &&& 858993459)) + (Int32.toUInt32 (((a0 - ((Int32.toUInt32 a0 >>> (Int32.toUInt32 1 &&& Int32.toUInt32 31)).toInt32 &&& 1431655765)) &&& 858993459) + ((Int32.toUInt32 (a0 - ((Int32.toUInt32 a0 >>> (Int32.toUInt32 1 &&& Int32.toUInt32 31)).toInt32 &&& 1431655765)) >>> (Int32.toUInt32 2 &&& Int32.toUInt32 31)).toInt32 &&& 858993459)) >>> (Int32.toUInt32 4 &&& Int32.toUInt32 31)).toInt32) &&& 252645135) >>> (Int32.toUInt32 8 &&& Int32.toUInt32 31)).toInt32))]) hx hb dJ6_bitCount_0f7a4_40 rfl hl (by decide) rfl (fun ls hl => ?_)
  refine lv_iload_n hx hb dJ6_bitCount_0f7a4_41 rfl (lv_at hl 0 rfl) ?_
  refine lv_iload_n hx hb dJ6_bitCount_0f7a4_42 rfl (lv_at hl 0 rfl) ?_
  refine lv_bipush (v := 16) hx hb dJ6_bitCount_0f7a4_43 (by decide) ?_
  refine lv_iushr hx hb dJ6_bitCount_0f7a4_45 rfl ?_
  refine lv_iadd hx hb dJ6_bitCount_0f7a4_46 ?_
  refine lv_istore_n (lv' := [(0, .int (((((((a0 - ((Int32.toUInt32 a0 >>> (Int32.toUInt32 1 &&& Int32.toUInt32 31)).toInt32 &&& 1431655765)) &&& 858993459) + ((Int32.toUInt32 (a0 - ((Int32.toUInt32 a0 >>> (Int32.toUInt32 1 &&& Int32.toUInt32 31)).toInt32 &&& 1431655765)) >>> (Int32.toUInt32 2 &&& Int32.toUInt32 31)).toInt32 &&& 858993459)) + (Int32.toUInt32 (((a0 - ((Int32.toUInt32 a0 >>> (Int32.toUInt32 1 &&& Int32.toUInt32 31)).toInt32 &&& 1431655765)) &&& 858993459) + ((Int32.toUInt32 (a0 - ((Int32.toUInt32 a0 >>> (Int32.toUInt32 1 &&& Int32.toUInt32 31)).toInt32 &&& 1431655765)) >>> (Int32.toUInt32 2 &&& Int32.toUInt32 31)).toInt32 &&& 858993459)) >>> (Int32.toUInt32 4 &&& Int32.toUInt32 31)).toInt32) &&& 252645135) + (Int32.toUInt32 (((((a0 - ((Int32.toUInt32 a0 >>> (Int32.toUInt32 1 &&& Int32.toUInt32 31)).toInt32 &&& 1431655765)) &&& 858993459) + ((Int32.toUInt32 (a0 - ((Int32.toUInt32 a0 >>> (Int32.toUInt32 1 &&& Int32.toUInt32 31)).toInt32 &&& 1431655765)) >>> (Int32.toUInt32 2 &&& Int32.toUInt32 31)).toInt32 &&& 858993459)) + (Int32.toUInt32 (((a0 - ((Int32.toUInt32 a0 >>> (Int32.toUInt32 1 &&& Int32.toUInt32 31)).toInt32 &&& 1431655765)) &&& 858993459) + ((Int32.toUInt32 (a0 - ((Int32.toUInt32 a0 >>> (Int32.toUInt32 1 &&& Int32.toUInt32 31)).toInt32 &&& 1431655765)) >>> (Int32.toUInt32 2 &&& Int32.toUInt32 31)).toInt32 &&& 858993459)) >>> (Int32.toUInt32 4 &&& Int32.toUInt32 31)).toInt32) &&& 252645135) >>> (Int32.toUInt32 8 &&& Int32.toUInt32 31)).toInt32) + (Int32.toUInt32 ((((((a0 - ((Int32.toUInt32 a0 >>> (Int32.toUInt32 1 &&& Int32.toUInt32 31)).toInt32 &&& 1431655765)) &&& 858993459) + ((Int32.toUInt32 (a0 - ((Int32.toUInt32 a0 >>> (Int32.toUInt32 1 &&& Int32.toUInt32 31)).toInt32 &&& 1431655765)) >>> (Int32.toUInt32 2 &&& Int32.toUInt32 31)).toInt32 &&& 858993459)) + (Int32.toUInt32 (((a0 - ((Int32.toUInt32 a0 >>> (Int32.toUInt32 1 &&& Int32.toUInt32 31)).toInt32 &&& 1431655765)) &&& 858993459) + ((Int32.toUInt32 (a0 - ((Int32.toUInt32 a0 >>> (Int32.toUInt32 1 &&& Int32.toUInt32 31)).toInt32 &&& 1431655765)) >>> (Int32.toUInt32 2 &&& Int32.toUInt32 31)).toInt32 &&& 858993459)) >>> (Int32.toUInt32 4 &&& Int32.toUInt32 31)).toInt32) &&& 252645135) + (Int32.toUInt32 (((((a0 - ((Int32.toUInt32 a0 >>> (Int32.toUInt32 1 &&& Int32.toUInt32 31)).toInt32 &&& 1431655765)) &&& 858993459) + ((Int32.toUInt32 (a0 - ((Int32.toUInt32 a0 >>> (Int32.toUInt32 1 &&& Int32.toUInt32 31)).toInt32 &&& 1431655765)) >>> (Int32.toUInt32 2 &&& Int32.toUInt32 31)).toInt32 &&& 858993459)) + (Int32.toUInt32 (((a0 - ((Int32.toUInt32 a0 >>> (Int32.toUInt32 1 &&& Int32.toUInt32 31)).toInt32 &&& 1431655765)) &&& 858993459) + ((Int32.toUInt32 (a0 - ((Int32.toUInt32 a0 >>> (Int32.toUInt32 1 &&& Int32.toUInt32 31)).toInt32 &&& 1431655765)) >>> (Int32.toUInt32 2 &&& Int32.toUInt32 31)).toInt32 &&& 858993459)) >>> (Int32.toUInt32 4 &&& Int32.toUInt32 31)).toInt32) &&& 252645135) >>> (Int32.toUInt32 8 &&& Int32.toUInt32 31)).toInt32) >>> (Int32.toUInt32 16 &&& Int32.toUInt32 31)).toInt32))]) hx hb dJ6_bitCount_0f7a4_47 rfl hl (by decide) rfl (fun ls hl => ?_)
  refine lv_iload_n hx hb dJ6_bitCount_0f7a4_48 rfl (lv_at hl 0 rfl) ?_
  refine lv_bipush (v := 63) hx hb dJ6_bitCount_0f7a4_49 (by decide) ?_
  refine lv_iand hx hb dJ6_bitCount_0f7a4_51 ?_
  exact W.iret (v := ((((((((a0 - ((Int32.toUInt32 a0 >>> (Int32.toUInt32 1 &&& Int32.toUInt32 31)).toInt32 &&& 1431655765)) &&& 858993459) + ((Int32.toUInt32 (a0 - ((Int32.toUInt32 a0 >>> (Int32.toUInt32 1 &&& Int32.toUInt32 31)).toInt32 &&& 1431655765)) >>> (Int32.toUInt32 2 &&& Int32.toUInt32 31)).toInt32 &&& 858993459)) + (Int32.toUInt32 (((a0 - ((Int32.toUInt32 a0 >>> (Int32.toUInt32 1 &&& Int32.toUInt32 31)).toInt32 &&& 1431655765)) &&& 858993459) + ((Int32.toUInt32 (a0 - ((Int32.toUInt32 a0 >>> (Int32.toUInt32 1 &&& Int32.toUInt32 31)).toInt32 &&& 1431655765)) >>> (Int32.toUInt32 2 &&& Int32.toUInt32 31)).toInt32 &&& 858993459)) >>> (Int32.toUInt32 4 &&& Int32.toUInt32 31)).toInt32) &&& 252645135) + (Int32.toUInt32 (((((a0 - ((Int32.toUInt32 a0 >>> (Int32.toUInt32 1 &&& Int32.toUInt32 31)).toInt32 &&& 1431655765)) &&& 858993459) + ((Int32.toUInt32 (a0 - ((Int32.toUInt32 a0 >>> (Int32.toUInt32 1 &&& Int32.toUInt32 31)).toInt32 &&& 1431655765)) >>> (Int32.toUInt32 2 &&& Int32.toUInt32 31)).toInt32 &&& 858993459)) + (Int32.toUInt32 (((a0 - ((Int32.toUInt32 a0 >>> (Int32.toUInt32 1 &&& Int32.toUInt32 31)).toInt32 &&& 1431655765)) &&& 858993459) + ((Int32.toUInt32 (a0 - ((Int32.toUInt32 a0 >>> (Int32.toUInt32 1 &&& Int32.toUInt32 31)).toInt32 &&& 1431655765)) >>> (Int32.toUInt32 2 &&& Int32.toUInt32 31)).toInt32 &&& 858993459)) >>> (Int32.toUInt32 4 &&& Int32.toUInt32 31)).toInt32) &&& 252645135) >>> (Int32.toUInt32 8 &&& Int32.toUInt32 31)).toInt32) + (Int32.toUInt32 ((((((a0 - ((Int32.toUInt32 a0 >>> (Int32.toUInt32 1 &&& Int32.toUInt32 31)).toInt32 &&& 1431655765)) &&& 858993459) + ((Int32.toUInt32 (a0 - ((Int32.toUInt32 a0 >>> (Int32.toUInt32 1 &&& Int32.toUInt32 31)).toInt32 &&& 1431655765)) >>> (Int32.toUInt32 2 &&& Int32.toUInt32 31)).toInt32 &&& 858993459)) + (Int32.toUInt32 (((a0 - ((Int32.toUInt32 a0 >>> (Int32.toUInt32 1 &&& Int32.toUInt32 31)).toInt32 &&& 1431655765)) &&& 858993459) + ((Int32.toUInt32 (a0 - ((Int32.toUInt32 a0 >>> (Int32.toUInt32 1 &&& Int32.toUInt32 31)).toInt32 &&& 1431655765)) >>> (Int32.toUInt32 2 &&& Int32.toUInt32 31)).toInt32 &&& 858993459)) >>> (Int32.toUInt32 4 &&& Int32.toUInt32 31)).toInt32) &&& 252645135) + (Int32.toUInt32 (((((a0 - ((Int32.toUInt32 a0 >>> (Int32.toUInt32 1 &&& Int32.toUInt32 31)).toInt32 &&& 1431655765)) &&& 858993459) + ((Int32.toUInt32 (a0 - ((Int32.toUInt32 a0 >>> (Int32.toUInt32 1 &&& Int32.toUInt32 31)).toInt32 &&& 1431655765)) >>> (Int32.toUInt32 2 &&& Int32.toUInt32 31)).toInt32 &&& 858993459)) + (Int32.toUInt32 (((a0 - ((Int32.toUInt32 a0 >>> (Int32.toUInt32 1 &&& Int32.toUInt32 31)).toInt32 &&& 1431655765)) &&& 858993459) + ((Int32.toUInt32 (a0 - ((Int32.toUInt32 a0 >>> (Int32.toUInt32 1 &&& Int32.toUInt32 31)).toInt32 &&& 1431655765)) >>> (Int32.toUInt32 2 &&& Int32.toUInt32 31)).toInt32 &&& 858993459)) >>> (Int32.toUInt32 4 &&& Int32.toUInt32 31)).toInt32) &&& 252645135) >>> (Int32.toUInt32 8 &&& Int32.toUInt32 31)).toInt32) >>> (Int32.toUInt32 16 &&& Int32.toUInt32 31)).toInt32) &&& 63)) hx hb hr (fun t ht hW => ⟨⟨((((((((a0 - ((Int32.toUInt32 a0 >>> (Int32.toUInt32 1 &&& Int32.toUInt32 31)).toInt32 &&& 1431655765)) &&& 858993459) + ((Int32.toUInt32 (a0 - ((Int32.toUInt32 a0 >>> (Int32.toUInt32 1 &&& Int32.toUInt32 31)).toInt32 &&& 1431655765)) >>> (Int32.toUInt32 2 &&& Int32.toUInt32 31)).toInt32 &&& 858993459)) + (Int32.toUInt32 (((a0 - ((Int32.toUInt32 a0 >>> (Int32.toUInt32 1 &&& Int32.toUInt32 31)).toInt32 &&& 1431655765)) &&& 858993459) + ((Int32.toUInt32 (a0 - ((Int32.toUInt32 a0 >>> (Int32.toUInt32 1 &&& Int32.toUInt32 31)).toInt32 &&& 1431655765)) >>> (Int32.toUInt32 2 &&& Int32.toUInt32 31)).toInt32 &&& 858993459)) >>> (Int32.toUInt32 4 &&& Int32.toUInt32 31)).toInt32) &&& 252645135) + (Int32.toUInt32 (((((a0 - ((Int32.toUInt32 a0 >>> (Int32.toUInt32 1 &&& Int32.toUInt32 31)).toInt32 &&& 1431655765)) &&& 858993459) + ((Int32.toUInt32 (a0 - ((Int32.toUInt32 a0 >>> (Int32.toUInt32 1 &&& Int32.toUInt32 31)).toInt32 &&& 1431655765)) >>> (Int32.toUInt32 2 &&& Int32.toUInt32 31)).toInt32 &&& 858993459)) + (Int32.toUInt32 (((a0 - ((Int32.toUInt32 a0 >>> (Int32.toUInt32 1 &&& Int32.toUInt32 31)).toInt32 &&& 1431655765)) &&& 858993459) + ((Int32.toUInt32 (a0 - ((Int32.toUInt32 a0 >>> (Int32.toUInt32 1 &&& Int32.toUInt32 31)).toInt32 &&& 1431655765)) >>> (Int32.toUInt32 2 &&& Int32.toUInt32 31)).toInt32 &&& 858993459)) >>> (Int32.toUInt32 4 &&& Int32.toUInt32 31)).toInt32) &&& 252645135) >>> (Int32.toUInt32 8 &&& Int32.toUInt32 31)).toInt32) + (Int32.toUInt32 ((((((a0 - ((Int32.toUInt32 a0 >>> (Int32.toUInt32 1 &&& Int32.toUInt32 31)).toInt32 &&& 1431655765)) &&& 858993459) + ((Int32.toUInt32 (a0 - ((Int32.toUInt32 a0 >>> (Int32.toUInt32 1 &&& Int32.toUInt32 31)).toInt32 &&& 1431655765)) >>> (Int32.toUInt32 2 &&& Int32.toUInt32 31)).toInt32 &&& 858993459)) + (Int32.toUInt32 (((a0 - ((Int32.toUInt32 a0 >>> (Int32.toUInt32 1 &&& Int32.toUInt32 31)).toInt32 &&& 1431655765)) &&& 858993459) + ((Int32.toUInt32 (a0 - ((Int32.toUInt32 a0 >>> (Int32.toUInt32 1 &&& Int32.toUInt32 31)).toInt32 &&& 1431655765)) >>> (Int32.toUInt32 2 &&& Int32.toUInt32 31)).toInt32 &&& 858993459)) >>> (Int32.toUInt32 4 &&& Int32.toUInt32 31)).toInt32) &&& 252645135) + (Int32.toUInt32 (((((a0 - ((Int32.toUInt32 a0 >>> (Int32.toUInt32 1 &&& Int32.toUInt32 31)).toInt32 &&& 1431655765)) &&& 858993459) + ((Int32.toUInt32 (a0 - ((Int32.toUInt32 a0 >>> (Int32.toUInt32 1 &&& Int32.toUInt32 31)).toInt32 &&& 1431655765)) >>> (Int32.toUInt32 2 &&& Int32.toUInt32 31)).toInt32 &&& 858993459)) + (Int32.toUInt32 (((a0 - ((Int32.toUInt32 a0 >>> (Int32.toUInt32 1 &&& Int32.toUInt32 31)).toInt32 &&& 1431655765)) &&& 858993459) + ((Int32.toUInt32 (a0 - ((Int32.toUInt32 a0 >>> (Int32.toUInt32 1 &&& Int32.toUInt32 31)).toInt32 &&& 1431655765)) >>> (Int32.toUInt32 2 &&& Int32.toUInt32 31)).toInt32 &&& 858993459)) >>> (Int32.toUInt32 4 &&& Int32.toUInt32 31)).toInt32) &&& 252645135) >>> (Int32.toUInt32 8 &&& Int32.toUInt32 31)).toInt32) >>> (Int32.toUInt32 16 &&& Int32.toUInt32 31)).toInt32) &&& 63), (), rfl, ⟨Option.some.inj hG, trivial⟩, trivial⟩, hS.F ht⟩) hS.2.2 dJ6_bitCount_0f7a4_52

def gX6_falls (n_likings : Nat → Int32) (n_day : Int32) (n_trust : Int32) (n_ill : Int32) (n_done : Int32) (p_befores : Nat → Int64) (p_known : Int32) (t_women : Int32) (a1 : Int32) (a2 : Int32) : Option (Int32 × Int32 × (Nat → Int64) × Int32) :=
    wq_b1 (gX5_hasWoman t_women a1) (fun v2 =>
    if v2 = 0 then
    some ((-1), n_ill, p_befores, p_known)
    else
    (if a2 < 0 then
    some ((-1), n_ill, p_befores, p_known)
    else
    (if a2 ≤ 1 then
    wq_b1 (gX0_isIll n_ill a1) (fun v8 =>
    if a2 = 1 then
    (if v8 = 1 then
    some ((-2), n_ill, p_befores, p_known)
    else
    wq_b1 (gX0_folded n_likings n_day n_trust n_ill n_done) (fun v22 =>
    wq_b2 (gX2_add p_befores p_known v22) (fun w24 w25 =>
    wq_b1 (gJ6_bitCount_0f7a4 (n_ill ^^^ (1 <<< (a1 &&& 31)))) (fun v27 =>
    some (v27, (n_ill ^^^ (1 <<< (a1 &&& 31))), w24, w25)))))
    else
    (if v8 = 0 then
    some ((-2), n_ill, p_befores, p_known)
    else
    wq_b1 (gX0_folded n_likings n_day n_trust n_ill n_done) (fun v13 =>
    wq_b2 (gX2_add p_befores p_known v13) (fun w15 w16 =>
    wq_b1 (gJ6_bitCount_0f7a4 (n_ill ^^^ (1 <<< (a1 &&& 31)))) (fun v18 =>
    some (v18, (n_ill ^^^ (1 <<< (a1 &&& 31))), w15, w16))))))
    else
    some ((-1), n_ill, p_befores, p_known))))
theorem hdV_X6_falls : yX6_falls.cls = RX6 ∧ yX6_falls.cls ≠ "java/lang/invoke/MethodHandle" ∧ yX6_falls.cls ≠ "java/lang/invoke/VarHandle" ∧ (parseMethodDescriptor yX6_falls.desc).map (fun d => d.parameters.length) = some 2 := by decide +kernel
set_option maxHeartbeats 4000000 in
set_option maxRecDepth 100000 in
theorem C_X6_falls (l : Launch) (dC : Nat → ClassId) (dI : Nat → Nat → Nat) (cI cJ cZ : ClassId) (qa : Nat → Nat) (sz : Nat) (r_images : Nat → Int64) (r_asked : Int64) (n_likings : Nat → Int32) (n_day : Int32) (n_trust : Int32) (n_ill : Int32) (n_done : Int32) (p_befores : Nat → Int64) (p_known : Int32) (t_tears : Nat → Int32) (t_gains : Nat → Int32) (t_likings : Nat → Int32) (t_settings : Nat → Int32) (t_goodbyes : Int32) (t_women : Int32) (a1 : Int32) (a2 : Int32) (r0 : Int32) (r_n_ill : Int32) (r_p_befores : Nat → Int64) (r_p_known : Int32) (hG : gX6_falls n_likings n_day n_trust n_ill n_done p_befores p_known t_women a1 a2 = some (r0, r_n_ill, r_p_befores, r_p_known)) : Met l yX6_falls wsX6_falls ({ frames := 2, cells := 0, slots := 0, locals := 43 } : Room) (va_Pc [.ref (qa 0), .int a1, .int a2] (wq_pw (dC, dI) [(cI, .int), (cJ, .long), (cZ, .boolean)] (wcRNPT qa cI cJ cZ r_images r_asked n_likings n_day n_trust n_ill n_done p_befores p_known t_tears t_gains t_likings t_settings t_goodbyes t_women) sz)) (wq_Wi (dC, dI) r0 wq_tr (wcRNPT qa cI cJ cZ r_images r_asked n_likings n_day n_trust r_n_ill n_done r_p_befores r_p_known t_tears t_gains t_likings t_settings t_goodbyes t_women) (va_A (wcRNPT qa cI cJ cZ r_images r_asked n_likings n_day n_trust n_ill n_done p_befores p_known t_tears t_gains t_likings t_settings t_goodbyes t_women) sz)) 0 0 (va_A (wcRNPT qa cI cJ cZ r_images r_asked n_likings n_day n_trust n_ill n_done p_befores p_known t_tears t_gains t_likings t_settings t_goodbyes t_women) sz) := by
  refine Met.ofW (cc := cX6_falls) (maxL := 3) (ret := (some .int)) (by decide) rfl ?_
  intro p e s m args below meth c s₁ B hml hv
  obtain ⟨rfl, hsz, hP, hK, hD0, hE⟩ := hv
  have hx := B.exec
  have hb := B.bytes
  have hr := B.returns
  have hts := atoms_spec (ws := wsX6_falls) B.pre
  have hown : s.vm.findClass RX6 = some m.cls := findClass_of_methodNamed B.named
  have hlocks := B.notSynchronized
  subst hsz
  have hD := hD0.self (sz := s.heap.size)
  generalize hAe : va_A (wcRNPT qa cI cJ cZ r_images r_asked n_likings n_day n_trust n_ill n_done p_befores p_known t_tears t_gains t_likings t_settings t_goodbyes t_women) s.heap.size = A at hD hE ⊢
  have hA : ∀ q : Nat, s.heap.size ≤ q → A q := fun q h => by rw [← hAe]; exact Or.inr h
  have hS : va_S A s.heap s.heap [] := va_S.rf
  have hinX6 : ∀ w ∈ u_ws RX6 TX6 9, w ∈ wsX6_falls := by decide +kernel
  have hinX0 : ∀ w ∈ u_ws RX0 TX0 5, w ∈ wsX6_falls := by decide +kernel
  have k1 := hts (.fieldLink RX6 53 "DoorMornings" "told" "LDoorMornings$Told;") (by decide +kernel)
  have k2 := hts (.fieldLink RX6 19 "DoorMornings" "today" "LDoorMornings$Now;") (by decide +kernel)
  have k3 := hts (.fieldLink RX6 26 "DoorMornings" "past" "LDoorMornings$Past;") (by decide +kernel)
  have k4 := hts (.fieldLink RX6 122 "DoorMornings$Now" "ill" "I") (by decide +kernel)
  have hl := lv_entry ([.ref (qa 0), .int a1, .int a2]) (n := 3) (Nat.le_of_ble_eq_true rfl)
  rw [lg_entry_eq]
  generalize (lg_sl ([.ref (qa 0), .int a1, .int a2]) ++ List.replicate (3 - (lg_sl ([.ref (qa 0), .int a1, .int a2])).length) Slot.unset).toArray = ls at hl ⊢
  have hl : lv_has ls 3 [(0, .ref (qa 0)), (1, .int a1), (2, .int a2)] := hl
  unfold gX6_falls at hG
  refine lv_aload_n hx hb dX6_falls_0 rfl (lv_at hl 0 rfl) ?_
  refine va_get (D := (dC, dI)) (ci := 6) (v := .ref (qa 16)) (C := RX6) (T := TX6) (N := 9) hx hb hts hinX6 hown hK hP 0 rfl rfl 6 (by decide) k1 (fun _ h9 => h9) rfl dX6_falls_1 ?_
  refine lv_iload_n hx hb dX6_falls_4 rfl (lv_at hl 1 rfl) ?_
  obtain ⟨v2, g1, hG⟩ := wq_b1_s hG
  refine wq_ci (v := v2) (B := wq_Z1) (va_runV (As := [.int a1]) (rest := []) ⟨hx, hb, hml, hown, hts⟩ (C_X5_hasWoman l dC dI cI cJ cZ qa s.heap.size t_tears t_gains t_likings t_settings t_goodbyes t_women a1 v2 g1) (cwV 1 hts gX6_falls_X5_hasWoman rfl rfl rfl hdV_X5_hasWoman ⟨Nat.le_of_ble_eq_true rfl, Nat.le_of_ble_eq_true rfl⟩) (wq_ppV hK (hP.sub (ws' := wcT qa cI cJ cZ t_tears t_gains t_likings t_settings t_goodbyes t_women) [6, 7, 8, 9, 10] rfl) hE hS hA (ci := 5) (q0 := 0) rfl rfl) rfl rfl hl.1 rfl (lv_room (Nat.le_of_ble_eq_true rfl)) dX6_falls_5 ⟨Nat.zero_le _, Nat.zero_le _⟩) hS hA (fun H locs b3 hk hS => ?_)
  replace hP := wq_kp hP hk
  clear hk
  refine lv_if_eq (tgt := 20) hx hb dX6_falls_8 (by decide) (fun c4 => ?_) (fun c4 => ?_)
  · replace hG := wq_t c4 hG
    refine lv_iconst (v := (-1)) hx hb dX6_falls_20 (by decide) ?_
    cases hG
    exact W.iret hx hb hr (fun t ht hW => ⟨⟨_, (), rfl, ⟨rfl, trivial⟩, by rw [ht]; exact hP, hD⟩, hS.F ht⟩) hS.2.2 dX6_falls_21
  · replace hG := wq_f c4 hG
    refine lv_iload_n hx hb dX6_falls_11 rfl (lv_at hl 2 rfl) ?_
    refine lv_if_lt (tgt := 20) hx hb dX6_falls_12 (by decide) (fun c5 => ?_) (fun c5 => ?_)
    · replace hG := wq_t c5 hG
      refine lv_iconst (v := (-1)) hx hb dX6_falls_20 (by decide) ?_
      cases hG
      exact W.iret hx hb hr (fun t ht hW => ⟨⟨_, (), rfl, ⟨rfl, trivial⟩, by rw [ht]; exact hP, hD⟩, hS.F ht⟩) hS.2.2 dX6_falls_21
    · replace hG := wq_f c5 hG
      refine lv_iload_n hx hb dX6_falls_15 rfl (lv_at hl 2 rfl) ?_
      refine lv_iconst (v := 1) hx hb dX6_falls_16 (by decide) ?_
      refine lv_icmp_le (tgt := 22) hx hb dX6_falls_17 (by decide) (fun c6 => ?_) (fun c6 => ?_)
      · replace hG := wq_t c6 hG
        refine lv_aload_n hx hb dX6_falls_22 rfl (lv_at hl 0 rfl) ?_
        refine va_get (D := (dC, dI)) (ci := 6) (v := .ref (qa 3)) (C := RX6) (T := TX6) (N := 9) hx hb hts hinX6 hown hK hP 0 rfl rfl 1 (by decide) k2 (fun _ h9 => h9) rfl dX6_falls_23 ?_
        refine lv_iload_n hx hb dX6_falls_26 rfl (lv_at hl 1 rfl) ?_
        obtain ⟨v8, g7, hG⟩ := wq_b1_s hG
        refine wq_ci (v := v8) (B := wq_Z1) (va_runV (As := [.int a1]) (rest := []) ⟨hx, hb, hml, hown, hts⟩ (C_X0_isIll l dC dI cI cJ cZ qa H.size n_likings n_day n_trust n_ill n_done a1 v8 g7) (cwV 1 hts gX6_falls_X0_isIll rfl rfl rfl hdV_X0_isIll ⟨Nat.le_of_ble_eq_true rfl, Nat.le_of_ble_eq_true rfl⟩) (wq_ppV hK (hP.sub (ws' := wcN qa cI cJ cZ n_likings n_day n_trust n_ill n_done) [2, 3] rfl) hE hS hA (ci := 0) (q0 := 0) rfl rfl) rfl rfl hl.1 rfl (lv_room (Nat.le_of_ble_eq_true rfl)) dX6_falls_27 ⟨Nat.zero_le _, Nat.zero_le _⟩) hS hA (fun H locs b9 hk hS => ?_)
        replace hP := wq_kp hP hk
        clear hk
        refine lv_iload_n hx hb dX6_falls_30 rfl (lv_at hl 2 rfl) ?_
        refine lv_iconst (v := 1) hx hb dX6_falls_31 (by decide) ?_
        refine lv_icmp_ne (tgt := 39) hx hb dX6_falls_32 (by decide) (fun c10 => ?_) (fun c10 => ?_)
        · replace hG := wq_f c10 hG
          refine lv_iconst (v := 0) hx hb dX6_falls_39 (by decide) ?_
          refine lv_icmp_ne (tgt := 46) hx hb dX6_falls_40 (by decide) (fun c11 => ?_) (fun c11 => ?_)
          · replace hG := wq_f c11 hG
            refine lv_aload_n hx hb dX6_falls_46 rfl (lv_at hl 0 rfl) ?_
            refine va_get (D := (dC, dI)) (ci := 6) (v := .ref (qa 5)) (C := RX6) (T := TX6) (N := 9) hx hb hts hinX6 hown hK hP 0 rfl rfl 2 (by decide) k3 (fun _ h9 => h9) rfl dX6_falls_47 ?_
            refine lv_aload_n hx hb dX6_falls_50 rfl (lv_at hl 0 rfl) ?_
            refine va_get (D := (dC, dI)) (ci := 6) (v := .ref (qa 3)) (C := RX6) (T := TX6) (N := 9) hx hb hts hinX6 hown hK hP 0 rfl rfl 1 (by decide) k2 (fun _ h9 => h9) rfl dX6_falls_51 ?_
            obtain ⟨v13, g12, hG⟩ := wq_b1_s hG
            refine wq_cl (v := v13) (va_runV (As := []) (rest := [.ref (qa 5)]) ⟨hx, hb, hml, hown, hts⟩ (C_X0_folded l dC dI cI cJ cZ qa H.size n_likings n_day n_trust n_ill n_done  v13 g12) (cwV 0 hts gX6_falls_X0_folded rfl rfl rfl hdV_X0_folded ⟨Nat.le_of_ble_eq_true rfl, Nat.le_of_ble_eq_true rfl⟩) (wq_ppV hK (hP.sub (ws' := wcN qa cI cJ cZ n_likings n_day n_trust n_ill n_done) [2, 3] rfl) hE hS hA (ci := 0) (q0 := 0) rfl rfl) rfl rfl hl.1 rfl (lv_room (Nat.le_of_ble_eq_true rfl)) dX6_falls_54 ⟨Nat.zero_le _, Nat.zero_le _⟩) hS hA (fun H locs hk hS => ?_)
            replace hP := wq_kp hP hk
            clear hk
            obtain ⟨w15, w16, g14, hG⟩ := wq_b2_s hG
            have hFc := va_free (wc := wcP qa cI cJ cZ p_befores p_known) hD hS hA [4, 5] rfl
            refine wq_dv (D := (dC, dI)) (wr := wcRNT qa cI cJ cZ r_images r_asked n_likings n_day n_trust n_ill n_done t_tears t_gains t_likings t_settings t_goodbyes t_women) (w1 := wcP qa cI cJ cZ w15 w16) (w2 := wcRNPT qa cI cJ cZ r_images r_asked n_likings n_day n_trust n_ill n_done w15 w16 t_tears t_gains t_likings t_settings t_goodbyes t_women) (va_runV (As := [.long v13]) (rest := []) ⟨hx, hb, hml, hown, hts⟩ (C_X2_add l dC dI cI cJ cZ qa H.size p_befores p_known v13 w15 w16 g14) (cwV 1 hts gX6_falls_X2_add rfl rfl rfl hdV_X2_add ⟨Nat.le_of_ble_eq_true rfl, Nat.le_of_ble_eq_true rfl⟩) (wq_pwV hK (hP.sub (ws' := wcP qa cI cJ cZ p_befores p_known) [4, 5] rfl) (hD.sub (ws' := wcP qa cI cJ cZ p_befores p_known) [4, 5] (by decide) rfl) hE hS hFc (ci := 2) (q0 := 0) rfl rfl) rfl rfl hl.1 rfl (lv_room (Nat.le_of_ble_eq_true rfl)) dX6_falls_57 ⟨Nat.zero_le _, Nat.zero_le _⟩) hP hD hS hFc [4, 5] [0, 1, 2, 3, 6, 7, 8, 9, 10] [0, 1, 2, 3, 9, 10, 4, 5, 6, 7, 8] rfl rfl (by decide) (by decide) (by decide) rfl (fun H locs hP hD hS => ?_)
            clear hFc
            refine lv_aload_n hx hb dX6_falls_60 rfl (lv_at hl 0 rfl) ?_
            refine va_get (D := (dC, dI)) (ci := 6) (v := .ref (qa 3)) (C := RX6) (T := TX6) (N := 9) hx hb hts hinX6 hown hK hP 0 rfl rfl 1 (by decide) k2 (fun _ h9 => h9) rfl dX6_falls_61 ?_
            refine lv_dup hx hb dX6_falls_64 rfl ?_
            refine va_get (D := (dC, dI)) (ci := 0) (v := .int n_ill) (C := RX0) (T := TX0) (N := 5) hx hb hts hinX0 hown hK hP 2 rfl rfl 3 (by decide) k4 (fun _ h9 => h9) rfl dX6_falls_65 ?_
            refine lv_iconst (v := 1) hx hb dX6_falls_68 (by decide) ?_
            refine lv_iload_n hx hb dX6_falls_69 rfl (lv_at hl 1 rfl) ?_
            refine lv_ishl hx hb dX6_falls_70 ?_
            refine lv_ixor hx hb dX6_falls_71 ?_
            refine va_put (D := (dC, dI)) (ci := 0) (v := .int (n_ill ^^^ (1 <<< (a1 &&& 31)))) (ty := tyX0 3) (C := RX0) (T := TX0) (N := 5) hx hb hts hinX0 tyX0 tyX0_ok nmX0 hown hK hP hD hS 2 rfl rfl 3 (by decide) k4 (fun _ h9 => h9) rfl (tyX0_ok 3 (by decide)) rfl rfl (Nat.le_of_ble_eq_true rfl) dX6_falls_72 (fun H locs hP hD hS => ?_)
            replace hP : va_P (dC, dI) vwCl (wcRNPT qa cI cJ cZ r_images r_asked n_likings n_day n_trust (n_ill ^^^ (1 <<< (a1 &&& 31))) n_done w15 w16 t_tears t_gains t_likings t_settings t_goodbyes t_women) H := hP
            replace hD : va_D A (wcRNPT qa cI cJ cZ r_images r_asked n_likings n_day n_trust (n_ill ^^^ (1 <<< (a1 &&& 31))) n_done w15 w16 t_tears t_gains t_likings t_settings t_goodbyes t_women) := hD
            refine lv_aload_n hx hb dX6_falls_75 rfl (lv_at hl 0 rfl) ?_
            refine va_get (D := (dC, dI)) (ci := 6) (v := .ref (qa 3)) (C := RX6) (T := TX6) (N := 9) hx hb hts hinX6 hown hK hP 0 rfl rfl 1 (by decide) k2 (fun _ h9 => h9) rfl dX6_falls_76 ?_
            refine va_get (D := (dC, dI)) (ci := 0) (v := .int (n_ill ^^^ (1 <<< (a1 &&& 31)))) (C := RX0) (T := TX0) (N := 5) hx hb hts hinX0 hown hK hP 2 rfl rfl 3 (by decide) k4 (fun _ h9 => h9) rfl dX6_falls_79 ?_
            obtain ⟨v18, g17, hG⟩ := wq_b1_s hG
            refine wq_ci (v := v18) (B := wq_tr) (va_runS (As := [.int (n_ill ^^^ (1 <<< (a1 &&& 31)))]) (rest := []) ⟨hx, hb, hml, hown, hts⟩ (C_J6_bitCount_0f7a4 l dC dI cI cJ cZ qa H.size  (n_ill ^^^ (1 <<< (a1 &&& 31))) v18 g17) (va_cwS 1 hts gX6_falls_J6_bitCount_0f7a4 rfl rfl rfl hdS_J6_bitCount_0f7a4 ⟨Nat.le_of_ble_eq_true rfl, Nat.le_of_ble_eq_true rfl⟩) (wq_ppS hK (hP.sub (ws' := []) [] rfl) hE hS hA) rfl rfl hl.1 rfl (lv_room (Nat.le_of_ble_eq_true rfl)) dX6_falls_82 ⟨Nat.zero_le _, Nat.zero_le _⟩) hS hA (fun H locs b19 hk hS => ?_)
            replace hP := wq_kp hP hk
            clear hk
            cases hG
            exact W.iret hx hb hr (fun t ht hW => ⟨⟨_, (), rfl, ⟨rfl, trivial⟩, by rw [ht]; exact hP, hD⟩, hS.F ht⟩) hS.2.2 dX6_falls_85
          · replace hG := wq_t c11 hG
            refine lv_bipush (v := (-2)) hx hb dX6_falls_43 (by decide) ?_
            cases hG
            exact W.iret hx hb hr (fun t ht hW => ⟨⟨_, (), rfl, ⟨rfl, trivial⟩, by rw [ht]; exact hP, hD⟩, hS.F ht⟩) hS.2.2 dX6_falls_45
        · replace hG := wq_t c10 hG
          refine lv_iconst (v := 1) hx hb dX6_falls_35 (by decide) ?_
          refine lv_goto (tgt := 40) hx hb dX6_falls_36 (by decide) ?_
          refine lv_icmp_ne (tgt := 46) hx hb dX6_falls_40 (by decide) (fun c20 => ?_) (fun c20 => ?_)
          · replace hG := wq_f c20 hG
            refine lv_aload_n hx hb dX6_falls_46 rfl (lv_at hl 0 rfl) ?_
            refine va_get (D := (dC, dI)) (ci := 6) (v := .ref (qa 5)) (C := RX6) (T := TX6) (N := 9) hx hb hts hinX6 hown hK hP 0 rfl rfl 2 (by decide) k3 (fun _ h9 => h9) rfl dX6_falls_47 ?_
            refine lv_aload_n hx hb dX6_falls_50 rfl (lv_at hl 0 rfl) ?_
            refine va_get (D := (dC, dI)) (ci := 6) (v := .ref (qa 3)) (C := RX6) (T := TX6) (N := 9) hx hb hts hinX6 hown hK hP 0 rfl rfl 1 (by decide) k2 (fun _ h9 => h9) rfl dX6_falls_51 ?_
            obtain ⟨v22, g21, hG⟩ := wq_b1_s hG
            refine wq_cl (v := v22) (va_runV (As := []) (rest := [.ref (qa 5)]) ⟨hx, hb, hml, hown, hts⟩ (C_X0_folded l dC dI cI cJ cZ qa H.size n_likings n_day n_trust n_ill n_done  v22 g21) (cwV 0 hts gX6_falls_X0_folded rfl rfl rfl hdV_X0_folded ⟨Nat.le_of_ble_eq_true rfl, Nat.le_of_ble_eq_true rfl⟩) (wq_ppV hK (hP.sub (ws' := wcN qa cI cJ cZ n_likings n_day n_trust n_ill n_done) [2, 3] rfl) hE hS hA (ci := 0) (q0 := 0) rfl rfl) rfl rfl hl.1 rfl (lv_room (Nat.le_of_ble_eq_true rfl)) dX6_falls_54 ⟨Nat.zero_le _, Nat.zero_le _⟩) hS hA (fun H locs hk hS => ?_)
            replace hP := wq_kp hP hk
            clear hk
            obtain ⟨w24, w25, g23, hG⟩ := wq_b2_s hG
            have hFc := va_free (wc := wcP qa cI cJ cZ p_befores p_known) hD hS hA [4, 5] rfl
            refine wq_dv (D := (dC, dI)) (wr := wcRNT qa cI cJ cZ r_images r_asked n_likings n_day n_trust n_ill n_done t_tears t_gains t_likings t_settings t_goodbyes t_women) (w1 := wcP qa cI cJ cZ w24 w25) (w2 := wcRNPT qa cI cJ cZ r_images r_asked n_likings n_day n_trust n_ill n_done w24 w25 t_tears t_gains t_likings t_settings t_goodbyes t_women) (va_runV (As := [.long v22]) (rest := []) ⟨hx, hb, hml, hown, hts⟩ (C_X2_add l dC dI cI cJ cZ qa H.size p_befores p_known v22 w24 w25 g23) (cwV 1 hts gX6_falls_X2_add rfl rfl rfl hdV_X2_add ⟨Nat.le_of_ble_eq_true rfl, Nat.le_of_ble_eq_true rfl⟩) (wq_pwV hK (hP.sub (ws' := wcP qa cI cJ cZ p_befores p_known) [4, 5] rfl) (hD.sub (ws' := wcP qa cI cJ cZ p_befores p_known) [4, 5] (by decide) rfl) hE hS hFc (ci := 2) (q0 := 0) rfl rfl) rfl rfl hl.1 rfl (lv_room (Nat.le_of_ble_eq_true rfl)) dX6_falls_57 ⟨Nat.zero_le _, Nat.zero_le _⟩) hP hD hS hFc [4, 5] [0, 1, 2, 3, 6, 7, 8, 9, 10] [0, 1, 2, 3, 9, 10, 4, 5, 6, 7, 8] rfl rfl (by decide) (by decide) (by decide) rfl (fun H locs hP hD hS => ?_)
            clear hFc
            refine lv_aload_n hx hb dX6_falls_60 rfl (lv_at hl 0 rfl) ?_
            refine va_get (D := (dC, dI)) (ci := 6) (v := .ref (qa 3)) (C := RX6) (T := TX6) (N := 9) hx hb hts hinX6 hown hK hP 0 rfl rfl 1 (by decide) k2 (fun _ h9 => h9) rfl dX6_falls_61 ?_
            refine lv_dup hx hb dX6_falls_64 rfl ?_
            refine va_get (D := (dC, dI)) (ci := 0) (v := .int n_ill) (C := RX0) (T := TX0) (N := 5) hx hb hts hinX0 hown hK hP 2 rfl rfl 3 (by decide) k4 (fun _ h9 => h9) rfl dX6_falls_65 ?_
            refine lv_iconst (v := 1) hx hb dX6_falls_68 (by decide) ?_
            refine lv_iload_n hx hb dX6_falls_69 rfl (lv_at hl 1 rfl) ?_
            refine lv_ishl hx hb dX6_falls_70 ?_
            refine lv_ixor hx hb dX6_falls_71 ?_
            refine va_put (D := (dC, dI)) (ci := 0) (v := .int (n_ill ^^^ (1 <<< (a1 &&& 31)))) (ty := tyX0 3) (C := RX0) (T := TX0) (N := 5) hx hb hts hinX0 tyX0 tyX0_ok nmX0 hown hK hP hD hS 2 rfl rfl 3 (by decide) k4 (fun _ h9 => h9) rfl (tyX0_ok 3 (by decide)) rfl rfl (Nat.le_of_ble_eq_true rfl) dX6_falls_72 (fun H locs hP hD hS => ?_)
            replace hP : va_P (dC, dI) vwCl (wcRNPT qa cI cJ cZ r_images r_asked n_likings n_day n_trust (n_ill ^^^ (1 <<< (a1 &&& 31))) n_done w24 w25 t_tears t_gains t_likings t_settings t_goodbyes t_women) H := hP
            replace hD : va_D A (wcRNPT qa cI cJ cZ r_images r_asked n_likings n_day n_trust (n_ill ^^^ (1 <<< (a1 &&& 31))) n_done w24 w25 t_tears t_gains t_likings t_settings t_goodbyes t_women) := hD
            refine lv_aload_n hx hb dX6_falls_75 rfl (lv_at hl 0 rfl) ?_
            refine va_get (D := (dC, dI)) (ci := 6) (v := .ref (qa 3)) (C := RX6) (T := TX6) (N := 9) hx hb hts hinX6 hown hK hP 0 rfl rfl 1 (by decide) k2 (fun _ h9 => h9) rfl dX6_falls_76 ?_
            refine va_get (D := (dC, dI)) (ci := 0) (v := .int (n_ill ^^^ (1 <<< (a1 &&& 31)))) (C := RX0) (T := TX0) (N := 5) hx hb hts hinX0 hown hK hP 2 rfl rfl 3 (by decide) k4 (fun _ h9 => h9) rfl dX6_falls_79 ?_
            obtain ⟨v27, g26, hG⟩ := wq_b1_s hG
            refine wq_ci (v := v27) (B := wq_tr) (va_runS (As := [.int (n_ill ^^^ (1 <<< (a1 &&& 31)))]) (rest := []) ⟨hx, hb, hml, hown, hts⟩ (C_J6_bitCount_0f7a4 l dC dI cI cJ cZ qa H.size  (n_ill ^^^ (1 <<< (a1 &&& 31))) v27 g26) (va_cwS 1 hts gX6_falls_J6_bitCount_0f7a4 rfl rfl rfl hdS_J6_bitCount_0f7a4 ⟨Nat.le_of_ble_eq_true rfl, Nat.le_of_ble_eq_true rfl⟩) (wq_ppS hK (hP.sub (ws' := []) [] rfl) hE hS hA) rfl rfl hl.1 rfl (lv_room (Nat.le_of_ble_eq_true rfl)) dX6_falls_82 ⟨Nat.zero_le _, Nat.zero_le _⟩) hS hA (fun H locs b28 hk hS => ?_)
            replace hP := wq_kp hP hk
            clear hk
            cases hG
            exact W.iret hx hb hr (fun t ht hW => ⟨⟨_, (), rfl, ⟨rfl, trivial⟩, by rw [ht]; exact hP, hD⟩, hS.F ht⟩) hS.2.2 dX6_falls_85
          · replace hG := wq_t c20 hG
            refine lv_bipush (v := (-2)) hx hb dX6_falls_43 (by decide) ?_
            cases hG
            exact W.iret hx hb hr (fun t ht hW => ⟨⟨_, (), rfl, ⟨rfl, trivial⟩, by rw [ht]; exact hP, hD⟩, hS.F ht⟩) hS.2.2 dX6_falls_45
      · replace hG := wq_f c6 hG
        refine lv_iconst (v := (-1)) hx hb dX6_falls_20 (by decide) ?_
        cases hG
        exact W.iret hx hb hr (fun t ht hW => ⟨⟨_, (), rfl, ⟨rfl, trivial⟩, by rw [ht]; exact hP, hD⟩, hS.F ht⟩) hS.2.2 dX6_falls_21

