def gX6_now (n_likings : Nat → Int32) (n_day : Int32) (n_trust : Int32) (n_ill : Int32) (n_done : Int32) (p_known : Int32) (t_tears : Nat → Int32) (t_settings : Nat → Int32) (t_goodbyes : Int32) (t_women : Int32) (a1 : Int32) : Option (Int32) :=
    if a1 = 0 then
    some n_day
    else
    (if a1 = 1 then
    some n_trust
    else
    (if a1 = 2 then
    (if n_done = 0 then
    some 0
    else
    some 1)
    else
    (if a1 = 3 then
    wq_b1 (gX6_bestWoman n_likings n_trust n_ill t_tears t_settings t_goodbyes t_women) (fun v7 =>
    some v7)
    else
    (if a1 = 4 then
    some n_ill
    else
    (if a1 = 5 then
    some p_known
    else
    some (-1))))))
theorem hdV_X6_now : yX6_now.cls = RX6 ∧ yX6_now.cls ≠ "java/lang/invoke/MethodHandle" ∧ yX6_now.cls ≠ "java/lang/invoke/VarHandle" ∧ (parseMethodDescriptor yX6_now.desc).map (fun d => d.parameters.length) = some 1 := by decide +kernel
set_option maxHeartbeats 4000000 in
set_option maxRecDepth 100000 in
theorem C_X6_now (l : Launch) (dC : Nat → ClassId) (dI : Nat → Nat → Nat) (cI cJ cZ : ClassId) (qa : Nat → Nat) (sz : Nat) (r_images : Nat → Int64) (r_asked : Int64) (n_likings : Nat → Int32) (n_day : Int32) (n_trust : Int32) (n_ill : Int32) (n_done : Int32) (p_befores : Nat → Int64) (p_known : Int32) (t_tears : Nat → Int32) (t_gains : Nat → Int32) (t_likings : Nat → Int32) (t_settings : Nat → Int32) (t_goodbyes : Int32) (t_women : Int32) (a1 : Int32) (r0 : Int32) (hG : gX6_now n_likings n_day n_trust n_ill n_done p_known t_tears t_settings t_goodbyes t_women a1 = some r0) : Met l yX6_now wsX6_now ({ frames := 6, cells := 0, slots := 0, locals := 135 } : Room) (va_Pc [.ref (qa 0), .int a1] (wq_pp (dC, dI) [(cI, .int), (cJ, .long), (cZ, .boolean)] (wcRNPT qa cI cJ cZ r_images r_asked n_likings n_day n_trust n_ill n_done p_befores p_known t_tears t_gains t_likings t_settings t_goodbyes t_women) sz)) (wq_Qi r0 wq_tr (va_A [] sz)) 0 0 (va_A [] sz) := by
  refine Met.ofW (cc := cX6_now) (maxL := 2) (ret := (some .int)) (by decide) rfl ?_
  intro p e s m args below meth c s₁ B hml hv
  obtain ⟨rfl, hsz, hP, hK, hE⟩ := hv
  have hx := B.exec
  have hb := B.bytes
  have hr := B.returns
  have hts := atoms_spec (ws := wsX6_now) B.pre
  have hown : s.vm.findClass RX6 = some m.cls := findClass_of_methodNamed B.named
  have hlocks := B.notSynchronized
  subst hsz
  generalize hAe : va_A [] s.heap.size = A at hE ⊢
  have hA : ∀ q : Nat, s.heap.size ≤ q → A q := fun q h => by rw [← hAe]; exact Or.inr h
  have hS : va_S A s.heap s.heap [] := va_S.rf
  have hinX6 : ∀ w ∈ u_ws RX6 TX6 9, w ∈ wsX6_now := by decide +kernel
  have hinX0 : ∀ w ∈ u_ws RX0 TX0 5, w ∈ wsX6_now := by decide +kernel
  have hinX2 : ∀ w ∈ u_ws RX2 TX2 2, w ∈ wsX6_now := by decide +kernel
  have k1 := hts (.fieldLink RX6 19 "DoorMornings" "today" "LDoorMornings$Now;") (by decide +kernel)
  have k2 := hts (.fieldLink RX6 109 "DoorMornings$Now" "day" "I") (by decide +kernel)
  have k3 := hts (.fieldLink RX6 113 "DoorMornings$Now" "trust" "I") (by decide +kernel)
  have k4 := hts (.fieldLink RX6 116 "DoorMornings$Now" "done" "Z") (by decide +kernel)
  have k5 := hts (.fieldLink RX6 122 "DoorMornings$Now" "ill" "I") (by decide +kernel)
  have k6 := hts (.fieldLink RX6 26 "DoorMornings" "past" "LDoorMornings$Past;") (by decide +kernel)
  have k7 := hts (.fieldLink RX6 125 "DoorMornings$Past" "known" "I") (by decide +kernel)
  have hl := lv_entry ([.ref (qa 0), .int a1]) (n := 2) (Nat.le_of_ble_eq_true rfl)
  rw [lg_entry_eq]
  generalize (lg_sl ([.ref (qa 0), .int a1]) ++ List.replicate (2 - (lg_sl ([.ref (qa 0), .int a1])).length) Slot.unset).toArray = ls at hl ⊢
  have hl : lv_has ls 2 [(0, .ref (qa 0)), (1, .int a1)] := hl
  unfold gX6_now at hG
  refine lv_iload_n hx hb dX6_now_0 rfl (lv_at hl 1 rfl) ?_
  by_cases c1 : a1 = 0
  · replace hG := wq_t c1 hG
    refine lv_tableIn (off := 39) (tgt := 40) hx hb dX6_now_1 (by rw [c1]; decide) (by rw [c1]; decide) (by rw [c1]; decide) (by decide) ?_
    refine lv_aload_n hx hb dX6_now_40 rfl (lv_at hl 0 rfl) ?_
    refine va_get (D := (dC, dI)) (ci := 6) (v := .ref (qa 3)) (C := RX6) (T := TX6) (N := 9) hx hb hts hinX6 hown hK hP 0 rfl rfl 1 (by decide) k1 (fun _ h9 => h9) rfl dX6_now_41 ?_
    refine va_get (D := (dC, dI)) (ci := 0) (v := .int n_day) (C := RX0) (T := TX0) (N := 5) hx hb hts hinX0 hown hK hP 2 rfl rfl 1 (by decide) k2 (fun _ h9 => h9) rfl dX6_now_44 ?_
    exact W.iret (v := n_day) hx hb hr (fun t ht hW => ⟨⟨n_day, (), rfl, ⟨Option.some.inj hG, trivial⟩, trivial⟩, hS.F ht⟩) hS.2.2 dX6_now_47
  · replace hG := wq_f c1 hG
    by_cases c2 : a1 = 1
    · replace hG := wq_t c2 hG
      refine lv_tableIn (off := 47) (tgt := 48) hx hb dX6_now_1 (by rw [c2]; decide) (by rw [c2]; decide) (by rw [c2]; decide) (by decide) ?_
      refine lv_aload_n hx hb dX6_now_48 rfl (lv_at hl 0 rfl) ?_
      refine va_get (D := (dC, dI)) (ci := 6) (v := .ref (qa 3)) (C := RX6) (T := TX6) (N := 9) hx hb hts hinX6 hown hK hP 0 rfl rfl 1 (by decide) k1 (fun _ h9 => h9) rfl dX6_now_49 ?_
      refine va_get (D := (dC, dI)) (ci := 0) (v := .int n_trust) (C := RX0) (T := TX0) (N := 5) hx hb hts hinX0 hown hK hP 2 rfl rfl 2 (by decide) k3 (fun _ h9 => h9) rfl dX6_now_52 ?_
      exact W.iret (v := n_trust) hx hb hr (fun t ht hW => ⟨⟨n_trust, (), rfl, ⟨Option.some.inj hG, trivial⟩, trivial⟩, hS.F ht⟩) hS.2.2 dX6_now_55
    · replace hG := wq_f c2 hG
      by_cases c3 : a1 = 2
      · replace hG := wq_t c3 hG
        refine lv_tableIn (off := 55) (tgt := 56) hx hb dX6_now_1 (by rw [c3]; decide) (by rw [c3]; decide) (by rw [c3]; decide) (by decide) ?_
        refine lv_aload_n hx hb dX6_now_56 rfl (lv_at hl 0 rfl) ?_
        refine va_get (D := (dC, dI)) (ci := 6) (v := .ref (qa 3)) (C := RX6) (T := TX6) (N := 9) hx hb hts hinX6 hown hK hP 0 rfl rfl 1 (by decide) k1 (fun _ h9 => h9) rfl dX6_now_57 ?_
        refine va_get (D := (dC, dI)) (ci := 0) (v := .int n_done) (C := RX0) (T := TX0) (N := 5) hx hb hts hinX0 hown hK hP 2 rfl rfl 4 (by decide) k4 (fun _ h9 => h9) rfl dX6_now_60 ?_
        refine lv_if_eq (tgt := 70) hx hb dX6_now_63 (by decide) (fun c4 => ?_) (fun c4 => ?_)
        · replace hG := wq_t c4 hG
          refine lv_iconst (v := 0) hx hb dX6_now_70 (by decide) ?_
          exact W.iret (v := 0) hx hb hr (fun t ht hW => ⟨⟨0, (), rfl, ⟨Option.some.inj hG, trivial⟩, trivial⟩, hS.F ht⟩) hS.2.2 dX6_now_71
        · replace hG := wq_f c4 hG
          refine lv_iconst (v := 1) hx hb dX6_now_66 (by decide) ?_
          refine lv_goto (tgt := 71) hx hb dX6_now_67 (by decide) ?_
          exact W.iret (v := 1) hx hb hr (fun t ht hW => ⟨⟨1, (), rfl, ⟨Option.some.inj hG, trivial⟩, trivial⟩, hS.F ht⟩) hS.2.2 dX6_now_71
      · replace hG := wq_f c3 hG
        by_cases c5 : a1 = 3
        · replace hG := wq_t c5 hG
          refine lv_tableIn (off := 71) (tgt := 72) hx hb dX6_now_1 (by rw [c5]; decide) (by rw [c5]; decide) (by rw [c5]; decide) (by decide) ?_
          refine lv_aload_n hx hb dX6_now_72 rfl (lv_at hl 0 rfl) ?_
          obtain ⟨v7, g6, hG⟩ := wq_b1_s hG
          refine wq_ci (v := v7) (B := wq_tr) (va_runV (As := []) (rest := []) ⟨hx, hb, hml, hown, hts⟩ (C_X6_bestWoman l dC dI cI cJ cZ qa s.heap.size r_images r_asked n_likings n_day n_trust n_ill n_done t_tears t_gains t_likings t_settings t_goodbyes t_women  v7 g6) (cwV 0 hts gX6_now_X6_bestWoman rfl rfl rfl hdV_X6_bestWoman ⟨Nat.le_of_ble_eq_true rfl, Nat.le_of_ble_eq_true rfl⟩) (wq_ppV hK (hP.sub (ws' := wcRNT qa cI cJ cZ r_images r_asked n_likings n_day n_trust n_ill n_done t_tears t_gains t_likings t_settings t_goodbyes t_women) [0, 1, 2, 3, 6, 7, 8, 9, 10] rfl) hE hS hA (ci := 6) (q0 := 0) rfl rfl) rfl rfl hl.1 rfl (lv_room (Nat.le_of_ble_eq_true rfl)) dX6_now_73 ⟨Nat.zero_le _, Nat.zero_le _⟩) hS hA (fun H locs b8 hk hS => ?_)
          replace hP := wq_kp hP hk
          clear hk
          exact W.iret (v := v7) hx hb hr (fun t ht hW => ⟨⟨v7, (), rfl, ⟨Option.some.inj hG, trivial⟩, trivial⟩, hS.F ht⟩) hS.2.2 dX6_now_76
        · replace hG := wq_f c5 hG
          by_cases c9 : a1 = 4
          · replace hG := wq_t c9 hG
            refine lv_tableIn (off := 76) (tgt := 77) hx hb dX6_now_1 (by rw [c9]; decide) (by rw [c9]; decide) (by rw [c9]; decide) (by decide) ?_
            refine lv_aload_n hx hb dX6_now_77 rfl (lv_at hl 0 rfl) ?_
            refine va_get (D := (dC, dI)) (ci := 6) (v := .ref (qa 3)) (C := RX6) (T := TX6) (N := 9) hx hb hts hinX6 hown hK hP 0 rfl rfl 1 (by decide) k1 (fun _ h9 => h9) rfl dX6_now_78 ?_
            refine va_get (D := (dC, dI)) (ci := 0) (v := .int n_ill) (C := RX0) (T := TX0) (N := 5) hx hb hts hinX0 hown hK hP 2 rfl rfl 3 (by decide) k5 (fun _ h9 => h9) rfl dX6_now_81 ?_
            exact W.iret (v := n_ill) hx hb hr (fun t ht hW => ⟨⟨n_ill, (), rfl, ⟨Option.some.inj hG, trivial⟩, trivial⟩, hS.F ht⟩) hS.2.2 dX6_now_84
          · replace hG := wq_f c9 hG
            by_cases c10 : a1 = 5
            · replace hG := wq_t c10 hG
              refine lv_tableIn (off := 84) (tgt := 85) hx hb dX6_now_1 (by rw [c10]; decide) (by rw [c10]; decide) (by rw [c10]; decide) (by decide) ?_
              refine lv_aload_n hx hb dX6_now_85 rfl (lv_at hl 0 rfl) ?_
              refine va_get (D := (dC, dI)) (ci := 6) (v := .ref (qa 5)) (C := RX6) (T := TX6) (N := 9) hx hb hts hinX6 hown hK hP 0 rfl rfl 2 (by decide) k6 (fun _ h9 => h9) rfl dX6_now_86 ?_
              refine va_get (D := (dC, dI)) (ci := 2) (v := .int p_known) (C := RX2) (T := TX2) (N := 2) hx hb hts hinX2 hown hK hP 4 rfl rfl 1 (by decide) k7 (fun _ h9 => h9) rfl dX6_now_89 ?_
              exact W.iret (v := p_known) hx hb hr (fun t ht hW => ⟨⟨p_known, (), rfl, ⟨Option.some.inj hG, trivial⟩, trivial⟩, hS.F ht⟩) hS.2.2 dX6_now_92
            · replace hG := wq_f c10 hG
              refine lv_tableOut (tgt := 93) hx hb dX6_now_1 (by have e0 := lv_neT c1 (a := 0) (by decide); have e1 := lv_neT c2 (a := 1) (by decide); have e2 := lv_neT c3 (a := 2) (by decide); have e3 := lv_neT c5 (a := 3) (by decide); have e4 := lv_neT c9 (a := 4) (by decide); have e5 := lv_neT c10 (a := 5) (by decide); omega) (by decide) ?_
              refine lv_iconst (v := (-1)) hx hb dX6_now_93 (by decide) ?_
              exact W.iret (v := (-1)) hx hb hr (fun t ht hW => ⟨⟨(-1), (), rfl, ⟨Option.some.inj hG, trivial⟩, trivial⟩, hS.F ht⟩) hS.2.2 dX6_now_94

def gX6_isLength (a0 : Int32) : Option (Int32) :=
    if a0 < 1 then
    some 0
    else
    (if 96 < a0 then
    some 0
    else
    some 1)
theorem hdS_X6_isLength : yX6_isLength.cls ≠ "java/lang/invoke/MethodHandle" ∧ yX6_isLength.cls ≠ "java/lang/invoke/VarHandle" ∧ (parseMethodDescriptor yX6_isLength.desc).map (fun d => d.parameters.length) = some 1 := by decide +kernel
set_option maxHeartbeats 4000000 in
set_option maxRecDepth 100000 in
theorem C_X6_isLength (l : Launch) (dC : Nat → ClassId) (dI : Nat → Nat → Nat) (cI cJ cZ : ClassId) (qa : Nat → Nat) (sz : Nat) (a0 : Int32) (r0 : Int32) (hG : gX6_isLength a0 = some r0) : Met l yX6_isLength wsX6_isLength ({ frames := 0, cells := 0, slots := 0, locals := 0 } : Room) (va_Pc [.int a0] (wq_pp (dC, dI) [(cI, .int), (cJ, .long), (cZ, .boolean)] ([]) sz)) (wq_Qi r0 wq_Z1 (va_A [] sz)) 0 0 (va_A [] sz) := by
  refine Met.ofW (cc := cX6_isLength) (maxL := 1) (ret := (some .boolean)) (by decide) rfl ?_
  intro p e s m args below meth c s₁ B hml hv
  obtain ⟨rfl, hsz, hP, hK, hE⟩ := hv
  have hx := B.exec
  have hb := B.bytes
  have hr := B.returns
  have hts := atoms_spec (ws := wsX6_isLength) B.pre
  have hown : s.vm.findClass RX6 = some m.cls := findClass_of_methodNamed B.named
  have hlocks := B.notSynchronized
  subst hsz
  generalize hAe : va_A [] s.heap.size = A at hE ⊢
  have hA : ∀ q : Nat, s.heap.size ≤ q → A q := fun q h => by rw [← hAe]; exact Or.inr h
  have hS : va_S A s.heap s.heap [] := va_S.rf
  have hl := lv_entry ([.int a0]) (n := 1) (Nat.le_of_ble_eq_true rfl)
  rw [lg_entry_eq]
  generalize (lg_sl ([.int a0]) ++ List.replicate (1 - (lg_sl ([.int a0])).length) Slot.unset).toArray = ls at hl ⊢
  have hl : lv_has ls 1 [(0, .int a0)] := hl
  unfold gX6_isLength at hG
  refine lv_iload_n hx hb dX6_isLength_0 rfl (lv_at hl 0 rfl) ?_
  refine lv_iconst (v := 1) hx hb dX6_isLength_1 (by decide) ?_
  refine lv_icmp_lt (tgt := 15) hx hb dX6_isLength_2 (by decide) (fun c1 => ?_) (fun c1 => ?_)
  · replace hG := wq_t c1 hG
    refine lv_iconst (v := 0) hx hb dX6_isLength_15 (by decide) ?_
    exact W.zret (v := 0) hx hb hr (wq_Z1_n (Or.inl rfl)) (fun t ht hW => ⟨⟨0, (), rfl, ⟨Option.some.inj hG, (Or.inl rfl)⟩, trivial⟩, hS.F ht⟩) hS.2.2 dX6_isLength_16
  · replace hG := wq_f c1 hG
    refine lv_iload_n hx hb dX6_isLength_5 rfl (lv_at hl 0 rfl) ?_
    refine lv_bipush (v := 96) hx hb dX6_isLength_6 (by decide) ?_
    refine lv_icmp_gt (tgt := 15) hx hb dX6_isLength_8 (by decide) (fun c2 => ?_) (fun c2 => ?_)
    · replace hG := wq_t c2 hG
      refine lv_iconst (v := 0) hx hb dX6_isLength_15 (by decide) ?_
      exact W.zret (v := 0) hx hb hr (wq_Z1_n (Or.inl rfl)) (fun t ht hW => ⟨⟨0, (), rfl, ⟨Option.some.inj hG, (Or.inl rfl)⟩, trivial⟩, hS.F ht⟩) hS.2.2 dX6_isLength_16
    · replace hG := wq_f c2 hG
      refine lv_iconst (v := 1) hx hb dX6_isLength_11 (by decide) ?_
      refine lv_goto (tgt := 16) hx hb dX6_isLength_12 (by decide) ?_
      exact W.zret (v := 1) hx hb hr (wq_Z1_n (Or.inr rfl)) (fun t ht hW => ⟨⟨1, (), rfl, ⟨Option.some.inj hG, (Or.inr rfl)⟩, trivial⟩, hS.F ht⟩) hS.2.2 dX6_isLength_16

def gX6_isMorning (t_goodbyes : Int32) (t_women : Int32) (a1 : Int32) (a2 : Int32) (a3 : Int32) : Option (Int32) :=
    wq_b1 (gX5_hasGoodbye t_goodbyes a1) (fun v2 =>
    if v2 = 0 then
    some 0
    else
    wq_b1 (gX6_isLength a2) (fun v6 =>
    if v6 = 0 then
    some 0
    else
    wq_b1 (gX5_hasWoman t_women a3) (fun v10 =>
    if v10 = 0 then
    some 0
    else
    some 1)))
theorem hdV_X6_isMorning : yX6_isMorning.cls = RX6 ∧ yX6_isMorning.cls ≠ "java/lang/invoke/MethodHandle" ∧ yX6_isMorning.cls ≠ "java/lang/invoke/VarHandle" ∧ (parseMethodDescriptor yX6_isMorning.desc).map (fun d => d.parameters.length) = some 3 := by decide +kernel
set_option maxHeartbeats 4000000 in
set_option maxRecDepth 100000 in
theorem C_X6_isMorning (l : Launch) (dC : Nat → ClassId) (dI : Nat → Nat → Nat) (cI cJ cZ : ClassId) (qa : Nat → Nat) (sz : Nat) (r_images : Nat → Int64) (r_asked : Int64) (t_tears : Nat → Int32) (t_gains : Nat → Int32) (t_likings : Nat → Int32) (t_settings : Nat → Int32) (t_goodbyes : Int32) (t_women : Int32) (a1 : Int32) (a2 : Int32) (a3 : Int32) (r0 : Int32) (hG : gX6_isMorning t_goodbyes t_women a1 a2 a3 = some r0) : Met l yX6_isMorning wsX6_isMorning ({ frames := 1, cells := 0, slots := 0, locals := 21 } : Room) (va_Pc [.ref (qa 0), .int a1, .int a2, .int a3] (wq_pp (dC, dI) [(cI, .int), (cJ, .long), (cZ, .boolean)] (wcRT qa cI cJ cZ r_images r_asked t_tears t_gains t_likings t_settings t_goodbyes t_women) sz)) (wq_Qi r0 wq_Z1 (va_A [] sz)) 0 0 (va_A [] sz) := by
  refine Met.ofW (cc := cX6_isMorning) (maxL := 4) (ret := (some .boolean)) (by decide) rfl ?_
  intro p e s m args below meth c s₁ B hml hv
  obtain ⟨rfl, hsz, hP, hK, hE⟩ := hv
  have hx := B.exec
  have hb := B.bytes
  have hr := B.returns
  have hts := atoms_spec (ws := wsX6_isMorning) B.pre
  have hown : s.vm.findClass RX6 = some m.cls := findClass_of_methodNamed B.named
  have hlocks := B.notSynchronized
  subst hsz
  generalize hAe : va_A [] s.heap.size = A at hE ⊢
  have hA : ∀ q : Nat, s.heap.size ≤ q → A q := fun q h => by rw [← hAe]; exact Or.inr h
  have hS : va_S A s.heap s.heap [] := va_S.rf
  have hinX6 : ∀ w ∈ u_ws RX6 TX6 9, w ∈ wsX6_isMorning := by decide +kernel
  have k1 := hts (.fieldLink RX6 53 "DoorMornings" "told" "LDoorMornings$Told;") (by decide +kernel)
  have hl := lv_entry ([.ref (qa 0), .int a1, .int a2, .int a3]) (n := 4) (Nat.le_of_ble_eq_true rfl)
  rw [lg_entry_eq]
  generalize (lg_sl ([.ref (qa 0), .int a1, .int a2, .int a3]) ++ List.replicate (4 - (lg_sl ([.ref (qa 0), .int a1, .int a2, .int a3])).length) Slot.unset).toArray = ls at hl ⊢
  have hl : lv_has ls 4 [(0, .ref (qa 0)), (1, .int a1), (2, .int a2), (3, .int a3)] := hl
  unfold gX6_isMorning at hG
  refine lv_aload_n hx hb dX6_isMorning_0 rfl (lv_at hl 0 rfl) ?_
  refine va_get (D := (dC, dI)) (ci := 6) (v := .ref (qa 16)) (C := RX6) (T := TX6) (N := 9) hx hb hts hinX6 hown hK hP 0 rfl rfl 6 (by decide) k1 (fun _ h9 => h9) rfl dX6_isMorning_1 ?_
  refine lv_iload_n hx hb dX6_isMorning_4 rfl (lv_at hl 1 rfl) ?_
  obtain ⟨v2, g1, hG⟩ := wq_b1_s hG
  refine wq_ci (v := v2) (B := wq_Z1) (va_runV (As := [.int a1]) (rest := []) ⟨hx, hb, hml, hown, hts⟩ (C_X5_hasGoodbye l dC dI cI cJ cZ qa s.heap.size t_tears t_gains t_likings t_settings t_goodbyes t_women a1 v2 g1) (cwV 1 hts gX6_isMorning_X5_hasGoodbye rfl rfl rfl hdV_X5_hasGoodbye ⟨Nat.le_of_ble_eq_true rfl, Nat.le_of_ble_eq_true rfl⟩) (wq_ppV hK (hP.sub (ws' := wcT qa cI cJ cZ t_tears t_gains t_likings t_settings t_goodbyes t_women) [2, 3, 4, 5, 6] rfl) hE hS hA (ci := 5) (q0 := 0) rfl rfl) rfl rfl hl.1 rfl (lv_room (Nat.le_of_ble_eq_true rfl)) dX6_isMorning_5 ⟨Nat.zero_le _, Nat.zero_le _⟩) hS hA (fun H locs b3 hk hS => ?_)
  replace hP := wq_kp hP hk
  clear hk
  refine lv_if_eq (tgt := 33) hx hb dX6_isMorning_8 (by decide) (fun c4 => ?_) (fun c4 => ?_)
  · replace hG := wq_t c4 hG
    refine lv_iconst (v := 0) hx hb dX6_isMorning_33 (by decide) ?_
    exact W.zret (v := 0) hx hb hr (wq_Z1_n (Or.inl rfl)) (fun t ht hW => ⟨⟨0, (), rfl, ⟨Option.some.inj hG, (Or.inl rfl)⟩, trivial⟩, hS.F ht⟩) hS.2.2 dX6_isMorning_34
  · replace hG := wq_f c4 hG
    refine lv_iload_n hx hb dX6_isMorning_11 rfl (lv_at hl 2 rfl) ?_
    obtain ⟨v6, g5, hG⟩ := wq_b1_s hG
    refine wq_ci (v := v6) (B := wq_Z1) (va_runS (As := [.int a2]) (rest := []) ⟨hx, hb, hml, hown, hts⟩ (C_X6_isLength l dC dI cI cJ cZ qa H.size  a2 v6 g5) (va_cwS 1 hts gX6_isMorning_X6_isLength rfl rfl rfl hdS_X6_isLength ⟨Nat.le_of_ble_eq_true rfl, Nat.le_of_ble_eq_true rfl⟩) (wq_ppS hK (hP.sub (ws' := []) [] rfl) hE hS hA) rfl rfl hl.1 rfl (lv_room (Nat.le_of_ble_eq_true rfl)) dX6_isMorning_12 ⟨Nat.zero_le _, Nat.zero_le _⟩) hS hA (fun H locs b7 hk hS => ?_)
    replace hP := wq_kp hP hk
    clear hk
    refine lv_if_eq (tgt := 33) hx hb dX6_isMorning_15 (by decide) (fun c8 => ?_) (fun c8 => ?_)
    · replace hG := wq_t c8 hG
      refine lv_iconst (v := 0) hx hb dX6_isMorning_33 (by decide) ?_
      exact W.zret (v := 0) hx hb hr (wq_Z1_n (Or.inl rfl)) (fun t ht hW => ⟨⟨0, (), rfl, ⟨Option.some.inj hG, (Or.inl rfl)⟩, trivial⟩, hS.F ht⟩) hS.2.2 dX6_isMorning_34
    · replace hG := wq_f c8 hG
      refine lv_aload_n hx hb dX6_isMorning_18 rfl (lv_at hl 0 rfl) ?_
      refine va_get (D := (dC, dI)) (ci := 6) (v := .ref (qa 16)) (C := RX6) (T := TX6) (N := 9) hx hb hts hinX6 hown hK hP 0 rfl rfl 6 (by decide) k1 (fun _ h9 => h9) rfl dX6_isMorning_19 ?_
      refine lv_iload_n hx hb dX6_isMorning_22 rfl (lv_at hl 3 rfl) ?_
      obtain ⟨v10, g9, hG⟩ := wq_b1_s hG
      refine wq_ci (v := v10) (B := wq_Z1) (va_runV (As := [.int a3]) (rest := []) ⟨hx, hb, hml, hown, hts⟩ (C_X5_hasWoman l dC dI cI cJ cZ qa H.size t_tears t_gains t_likings t_settings t_goodbyes t_women a3 v10 g9) (cwV 1 hts gX6_isMorning_X5_hasWoman rfl rfl rfl hdV_X5_hasWoman ⟨Nat.le_of_ble_eq_true rfl, Nat.le_of_ble_eq_true rfl⟩) (wq_ppV hK (hP.sub (ws' := wcT qa cI cJ cZ t_tears t_gains t_likings t_settings t_goodbyes t_women) [2, 3, 4, 5, 6] rfl) hE hS hA (ci := 5) (q0 := 0) rfl rfl) rfl rfl hl.1 rfl (lv_room (Nat.le_of_ble_eq_true rfl)) dX6_isMorning_23 ⟨Nat.zero_le _, Nat.zero_le _⟩) hS hA (fun H locs b11 hk hS => ?_)
      replace hP := wq_kp hP hk
      clear hk
      refine lv_if_eq (tgt := 33) hx hb dX6_isMorning_26 (by decide) (fun c12 => ?_) (fun c12 => ?_)
      · replace hG := wq_t c12 hG
        refine lv_iconst (v := 0) hx hb dX6_isMorning_33 (by decide) ?_
        exact W.zret (v := 0) hx hb hr (wq_Z1_n (Or.inl rfl)) (fun t ht hW => ⟨⟨0, (), rfl, ⟨Option.some.inj hG, (Or.inl rfl)⟩, trivial⟩, hS.F ht⟩) hS.2.2 dX6_isMorning_34
      · replace hG := wq_f c12 hG
        refine lv_iconst (v := 1) hx hb dX6_isMorning_29 (by decide) ?_
        refine lv_goto (tgt := 34) hx hb dX6_isMorning_30 (by decide) ?_
        exact W.zret (v := 1) hx hb hr (wq_Z1_n (Or.inr rfl)) (fun t ht hW => ⟨⟨1, (), rfl, ⟨Option.some.inj hG, (Or.inr rfl)⟩, trivial⟩, hS.F ht⟩) hS.2.2 dX6_isMorning_34

def gX0_folded_L18 (n_likings : Nat → Int32) (n_ill : Int32) (n_done : Int32) : Nat → Int64 → Int32 → Option (Int64)
  | 0, _, _ => none
  | n + 1, x1, x3 =>
    if 4 ≤ x3 then
    (if n_done = 0 then
    some ((((x1 <<< (Int32.toInt64 4 &&& 63)) ||| (Int32.toInt64 n_ill)) <<< (Int32.toInt64 1 &&& 63)) ||| (Int32.toInt64 0))
    else
    some ((((x1 <<< (Int32.toInt64 4 &&& 63)) ||| (Int32.toInt64 n_ill)) <<< (Int32.toInt64 1 &&& 63)) ||| (Int32.toInt64 1)))
    else
    wq_chk x3 4 (gX0_folded_L18 n_likings n_ill n_done n ((x1 <<< (Int32.toInt64 4 &&& 63)) ||| (Int32.toInt64 (n_likings (Int32.toNatClampNeg x3)))) (x3 + 1))
def gX0_folded (n_likings : Nat → Int32) (n_day : Int32) (n_trust : Int32) (n_ill : Int32) (n_done : Int32) : Option (Int64) :=
    gX0_folded_L18 n_likings n_ill n_done 1000 (((Int32.toInt64 n_day) <<< (Int32.toInt64 5 &&& 63)) ||| (Int32.toInt64 n_trust)) 0
theorem hdV_X0_folded : yX0_folded.cls = RX0 ∧ yX0_folded.cls ≠ "java/lang/invoke/MethodHandle" ∧ yX0_folded.cls ≠ "java/lang/invoke/VarHandle" ∧ (parseMethodDescriptor yX0_folded.desc).map (fun d => d.parameters.length) = some 0 := by decide +kernel
set_option maxHeartbeats 4000000 in
set_option maxRecDepth 100000 in
theorem C_X0_folded (l : Launch) (dC : Nat → ClassId) (dI : Nat → Nat → Nat) (cI cJ cZ : ClassId) (qa : Nat → Nat) (sz : Nat) (n_likings : Nat → Int32) (n_day : Int32) (n_trust : Int32) (n_ill : Int32) (n_done : Int32) (r0 : Int64) (hG : gX0_folded n_likings n_day n_trust n_ill n_done = some r0) : Met l yX0_folded wsX0_folded ({ frames := 0, cells := 0, slots := 0, locals := 0 } : Room) (va_Pc [.ref (qa 3)] (wq_pp (dC, dI) [(cI, .int), (cJ, .long), (cZ, .boolean)] (wcN qa cI cJ cZ n_likings n_day n_trust n_ill n_done) sz)) (wq_Ql r0 (va_A [] sz)) 0 0 (va_A [] sz) := by
  refine Met.ofW (cc := cX0_folded) (maxL := 4) (ret := (some .long)) (by decide) rfl ?_
  intro p e s m args below meth c s₁ B hml hv
  obtain ⟨rfl, hsz, hP, hK, hE⟩ := hv
  have hx := B.exec
  have hb := B.bytes
  have hr := B.returns
  have hts := atoms_spec (ws := wsX0_folded) B.pre
  have hown : s.vm.findClass RX0 = some m.cls := findClass_of_methodNamed B.named
  have hlocks := B.notSynchronized
  subst hsz
  generalize hAe : va_A [] s.heap.size = A at hE ⊢
  have hA : ∀ q : Nat, s.heap.size ≤ q → A q := fun q h => by rw [← hAe]; exact Or.inr h
  have hS : va_S A s.heap s.heap [] := va_S.rf
  have hinX0 : ∀ w ∈ u_ws RX0 TX0 5, w ∈ wsX0_folded := by decide +kernel
  have k1 := hts (.fieldLink RX0 22 "DoorMornings$Now" "ill" "I") (by decide +kernel)
  have k2 := hts (.fieldLink RX0 25 "DoorMornings$Now" "done" "Z") (by decide +kernel)
  have k3 := hts (.fieldLink RX0 9 "DoorMornings$Now" "likings" "[I") (by decide +kernel)
  have k4 := hts (.fieldLink RX0 15 "DoorMornings$Now" "day" "I") (by decide +kernel)
  have k5 := hts (.fieldLink RX0 19 "DoorMornings$Now" "trust" "I") (by decide +kernel)
  have hl := lv_entry ([.ref (qa 3)]) (n := 4) (Nat.le_of_ble_eq_true rfl)
  rw [lg_entry_eq]
  generalize (lg_sl ([.ref (qa 3)]) ++ List.replicate (4 - (lg_sl ([.ref (qa 3)])).length) Slot.unset).toArray = ls at hl ⊢
  have hl : lv_has ls 4 [(0, .ref (qa 3))] := hl
  have hL18 : ∀  (n : Nat) (x1 : Int64) (x3 : Int32) (H : Heap) (locs : List Loc) (ls : Array Slot), gX0_folded_L18 n_likings n_ill n_done n x1 x3 = some r0 → va_P (dC, dI) vwCl (wcN qa cI cJ cZ n_likings n_day n_trust n_ill n_done) H → va_S A s.heap H locs → lv_has ls 4 [(0, .ref (qa 3)), (1, .long x1), (3, .int x3)] → W p l e (headSpec wsX0_folded ({ frames := 0, cells := 0, slots := 0, locals := 0 } : Room)).room s m ([.ref (qa 3)] : List Value).toArray below meth c H locs 0 0 (MQ below (wq_Ql r0 A) ([.ref (qa 3)] : List Value).toArray s 0 0 A) (F0 m 18 ls []) := by
    intro  n
    induction n with
    | zero =>
      intro x1 x3 H locs ls hG
      exact absurd (show (none : Option (Int64)) = some r0 from hG) (by intro h9; cases h9)
    | succ n ih18 =>
      intro x1 x3 H locs ls hG hP hS hl
      rw [gX0_folded_L18] at hG
      refine lv_iload_n hx hb dX0_folded_18 rfl (lv_at hl 2 rfl) ?_
      refine lv_iconst (v := 4) hx hb dX0_folded_19 (by decide) ?_
      refine lv_icmp_ge (tgt := 41) hx hb dX0_folded_20 (by decide) (fun c1 => ?_) (fun c1 => ?_)
      · replace hG := wq_t c1 hG
        refine lv_lload_n hx hb dX0_folded_41 rfl (lv_at hl 1 rfl) ?_
        refine lv_iconst (v := 4) hx hb dX0_folded_42 (by decide) ?_
        refine lv_lshl hx hb dX0_folded_43 rfl ?_
        refine lv_aload_n hx hb dX0_folded_44 rfl (lv_at hl 0 rfl) ?_
        refine va_get (D := (dC, dI)) (ci := 0) (v := .int n_ill) (C := RX0) (T := TX0) (N := 5) hx hb hts hinX0 hown hK hP 0 rfl rfl 3 (by decide) k1 (fun _ h9 => h9) rfl dX0_folded_45 ?_
        refine lv_i2l hx hb dX0_folded_48 rfl ?_
        refine lv_lor hx hb dX0_folded_49 ?_
        refine lv_lstore_n (lv' := [(1, .long ((x1 <<< (Int32.toInt64 4 &&& 63)) ||| (Int32.toInt64 n_ill))), (0, .ref (qa 3)), (3, .int x3)]) hx hb dX0_folded_50 rfl hl (by decide) rfl (fun ls hl => ?_)
        refine lv_lload_n hx hb dX0_folded_51 rfl (lv_at hl 0 rfl) ?_
        refine lv_iconst (v := 1) hx hb dX0_folded_52 (by decide) ?_
        refine lv_lshl hx hb dX0_folded_53 rfl ?_
        refine lv_aload_n hx hb dX0_folded_54 rfl (lv_at hl 1 rfl) ?_
        refine va_get (D := (dC, dI)) (ci := 0) (v := .int n_done) (C := RX0) (T := TX0) (N := 5) hx hb hts hinX0 hown hK hP 0 rfl rfl 4 (by decide) k2 (fun _ h9 => h9) rfl dX0_folded_55 ?_
        refine lv_if_eq (tgt := 65) hx hb dX0_folded_58 (by decide) (fun c2 => ?_) (fun c2 => ?_)
        · replace hG := wq_t c2 hG
          refine lv_iconst (v := 0) hx hb dX0_folded_65 (by decide) ?_
          refine lv_i2l hx hb dX0_folded_66 rfl ?_
          refine lv_lor hx hb dX0_folded_67 ?_
          exact W.lret (v := ((((x1 <<< (Int32.toInt64 4 &&& 63)) ||| (Int32.toInt64 n_ill)) <<< (Int32.toInt64 1 &&& 63)) ||| (Int32.toInt64 0))) hx hb hr (fun t ht hW => ⟨⟨((((x1 <<< (Int32.toInt64 4 &&& 63)) ||| (Int32.toInt64 n_ill)) <<< (Int32.toInt64 1 &&& 63)) ||| (Int32.toInt64 0)), (), rfl, Option.some.inj hG, trivial⟩, hS.F ht⟩) hS.2.2 dX0_folded_68
        · replace hG := wq_f c2 hG
          refine lv_iconst (v := 1) hx hb dX0_folded_61 (by decide) ?_
          refine lv_goto (tgt := 66) hx hb dX0_folded_62 (by decide) ?_
          refine lv_i2l hx hb dX0_folded_66 rfl ?_
          refine lv_lor hx hb dX0_folded_67 ?_
          exact W.lret (v := ((((x1 <<< (Int32.toInt64 4 &&& 63)) ||| (Int32.toInt64 n_ill)) <<< (Int32.toInt64 1 &&& 63)) ||| (Int32.toInt64 1))) hx hb hr (fun t ht hW => ⟨⟨((((x1 <<< (Int32.toInt64 4 &&& 63)) ||| (Int32.toInt64 n_ill)) <<< (Int32.toInt64 1 &&& 63)) ||| (Int32.toInt64 1)), (), rfl, Option.some.inj hG, trivial⟩, hS.F ht⟩) hS.2.2 dX0_folded_68
      · replace hG := wq_f c1 hG
        refine lv_lload_n hx hb dX0_folded_23 rfl (lv_at hl 1 rfl) ?_
        refine lv_iconst (v := 4) hx hb dX0_folded_24 (by decide) ?_
        refine lv_lshl hx hb dX0_folded_25 rfl ?_
        refine lv_aload_n hx hb dX0_folded_26 rfl (lv_at hl 0 rfl) ?_
        refine va_get (D := (dC, dI)) (ci := 0) (v := .ref (qa 4)) (C := RX0) (T := TX0) (N := 5) hx hb hts hinX0 hown hK hP 0 rfl rfl 0 (by decide) k3 (fun _ h9 => h9) rfl dX0_folded_27 ?_
        refine lv_iload_n hx hb dX0_folded_30 rfl (lv_at hl 2 rfl) ?_
        obtain ⟨h3, hG⟩ := wq_chk_s hG
        refine wq_iald (D := (dC, dI)) hx hb hK hP 1 0 rfl rfl h3 (Int32.toNatClampNeg x3) rfl dX0_folded_31 ?_
        refine lv_i2l hx hb dX0_folded_32 rfl ?_
        refine lv_lor hx hb dX0_folded_33 ?_
        refine lv_lstore_n (lv' := [(1, .long ((x1 <<< (Int32.toInt64 4 &&& 63)) ||| (Int32.toInt64 (n_likings (Int32.toNatClampNeg x3))))), (0, .ref (qa 3)), (3, .int x3)]) hx hb dX0_folded_34 rfl hl (by decide) rfl (fun ls hl => ?_)
        refine lv_iinc (v := (x3 + 1)) (lv' := [(3, .int (x3 + 1)), (1, .long ((x1 <<< (Int32.toInt64 4 &&& 63)) ||| (Int32.toInt64 (n_likings (Int32.toNatClampNeg x3))))), (0, .ref (qa 3))]) hx hb dX0_folded_35 hl (k := 2) rfl rfl (by decide) rfl (fun ls hl => ?_)
        refine lv_goto (tgt := 18) hx hb dX0_folded_38 (by decide) ?_
        exact ih18 ((x1 <<< (Int32.toInt64 4 &&& 63)) ||| (Int32.toInt64 (n_likings (Int32.toNatClampNeg x3)))) (x3 + 1) _ _ _ hG hP hS (lv_sub hl [2, 1, 0] rfl)
  unfold gX0_folded at hG
  refine lv_aload_n hx hb dX0_folded_0 rfl (lv_at hl 0 rfl) ?_
  refine va_get (D := (dC, dI)) (ci := 0) (v := .int n_day) (C := RX0) (T := TX0) (N := 5) hx hb hts hinX0 hown hK hP 0 rfl rfl 1 (by decide) k4 (fun _ h9 => h9) rfl dX0_folded_1 ?_
  refine lv_i2l hx hb dX0_folded_4 rfl ?_
  refine lv_lstore_n (lv' := [(1, .long (Int32.toInt64 n_day)), (0, .ref (qa 3))]) hx hb dX0_folded_5 rfl hl (by decide) rfl (fun ls hl => ?_)
  refine lv_lload_n hx hb dX0_folded_6 rfl (lv_at hl 0 rfl) ?_
  refine lv_iconst (v := 5) hx hb dX0_folded_7 (by decide) ?_
  refine lv_lshl hx hb dX0_folded_8 rfl ?_
  refine lv_aload_n hx hb dX0_folded_9 rfl (lv_at hl 1 rfl) ?_
  refine va_get (D := (dC, dI)) (ci := 0) (v := .int n_trust) (C := RX0) (T := TX0) (N := 5) hx hb hts hinX0 hown hK hP 0 rfl rfl 2 (by decide) k5 (fun _ h9 => h9) rfl dX0_folded_10 ?_
  refine lv_i2l hx hb dX0_folded_13 rfl ?_
  refine lv_lor hx hb dX0_folded_14 ?_
  refine lv_lstore_n (lv' := [(1, .long (((Int32.toInt64 n_day) <<< (Int32.toInt64 5 &&& 63)) ||| (Int32.toInt64 n_trust))), (0, .ref (qa 3))]) hx hb dX0_folded_15 rfl hl (by decide) rfl (fun ls hl => ?_)
  refine lv_iconst (v := 0) hx hb dX0_folded_16 (by decide) ?_
  refine lv_istore_n (lv' := [(3, .int 0), (1, .long (((Int32.toInt64 n_day) <<< (Int32.toInt64 5 &&& 63)) ||| (Int32.toInt64 n_trust))), (0, .ref (qa 3))]) hx hb dX0_folded_17 rfl hl (by decide) rfl (fun ls hl => ?_)
  exact hL18  1000 (((Int32.toInt64 n_day) <<< (Int32.toInt64 5 &&& 63)) ||| (Int32.toInt64 n_trust)) 0 _ _ _ hG hP hS (lv_sub hl [2, 1, 0] rfl)

def gX2_loseOldest_L2 (z_p_known : Int32) : Nat → Int32 → (Nat → Int64) → Option ((Nat → Int64) × Int32)
  | 0, _, _ => none
  | n + 1, x1, z_p_befores =>
    if 10 ≤ x1 then
    some (z_p_befores, 9)
    else
    wq_chk x1 10 (wq_chk (x1 - 1) 10 (gX2_loseOldest_L2 z_p_known n (x1 + 1) (vp_updL z_p_befores (Int32.toNatClampNeg (x1 - 1)) (z_p_befores (Int32.toNatClampNeg x1)))))
def gX2_loseOldest (p_befores : Nat → Int64) (p_known : Int32) : Option ((Nat → Int64) × Int32) :=
    gX2_loseOldest_L2 p_known 1000 1 p_befores
theorem hdV_X2_loseOldest : yX2_loseOldest.cls = RX2 ∧ yX2_loseOldest.cls ≠ "java/lang/invoke/MethodHandle" ∧ yX2_loseOldest.cls ≠ "java/lang/invoke/VarHandle" ∧ (parseMethodDescriptor yX2_loseOldest.desc).map (fun d => d.parameters.length) = some 0 := by decide +kernel
set_option maxHeartbeats 4000000 in
set_option maxRecDepth 100000 in
theorem C_X2_loseOldest (l : Launch) (dC : Nat → ClassId) (dI : Nat → Nat → Nat) (cI cJ cZ : ClassId) (qa : Nat → Nat) (sz : Nat) (p_befores : Nat → Int64) (p_known : Int32) (r_p_befores : Nat → Int64) (r_p_known : Int32) (hG : gX2_loseOldest p_befores p_known = some (r_p_befores, r_p_known)) : Met l yX2_loseOldest wsX2_loseOldest ({ frames := 0, cells := 0, slots := 0, locals := 0 } : Room) (va_Pc [.ref (qa 5)] (wq_pw (dC, dI) [(cI, .int), (cJ, .long), (cZ, .boolean)] (wcP qa cI cJ cZ p_befores p_known) sz)) (wq_Wv (dC, dI) (wcP qa cI cJ cZ r_p_befores r_p_known) (va_A (wcP qa cI cJ cZ p_befores p_known) sz)) 0 0 (va_A (wcP qa cI cJ cZ p_befores p_known) sz) := by
  refine Met.ofW (cc := cX2_loseOldest) (maxL := 2) (ret := none) (by decide) rfl ?_
  intro p e s m args below meth c s₁ B hml hv
  obtain ⟨rfl, hsz, hP, hK, hD0, hE⟩ := hv
  have hx := B.exec
  have hb := B.bytes
  have hr := B.returns
  have hts := atoms_spec (ws := wsX2_loseOldest) B.pre
  have hown : s.vm.findClass RX2 = some m.cls := findClass_of_methodNamed B.named
  have hlocks := B.notSynchronized
  subst hsz
  have hD := hD0.self (sz := s.heap.size)
  generalize hAe : va_A (wcP qa cI cJ cZ p_befores p_known) s.heap.size = A at hD hE ⊢
  have hA : ∀ q : Nat, s.heap.size ≤ q → A q := fun q h => by rw [← hAe]; exact Or.inr h
  have hS : va_S A s.heap s.heap [] := va_S.rf
  have hinX2 : ∀ w ∈ u_ws RX2 TX2 2, w ∈ wsX2_loseOldest := by decide +kernel
  have k1 := hts (.fieldLink RX2 15 "DoorMornings$Past" "known" "I") (by decide +kernel)
  have k2 := hts (.fieldLink RX2 9 "DoorMornings$Past" "befores" "[J") (by decide +kernel)
  have hl := lv_entry ([.ref (qa 5)]) (n := 2) (Nat.le_of_ble_eq_true rfl)
  rw [lg_entry_eq]
  generalize (lg_sl ([.ref (qa 5)]) ++ List.replicate (2 - (lg_sl ([.ref (qa 5)])).length) Slot.unset).toArray = ls at hl ⊢
  have hl : lv_has ls 2 [(0, .ref (qa 5))] := hl
  have hL2 : ∀ (z_p_known : Int32) (n : Nat) (x1 : Int32) (z_p_befores : Nat → Int64) (H : Heap) (locs : List Loc) (ls : Array Slot), gX2_loseOldest_L2 z_p_known n x1 z_p_befores = some (r_p_befores, r_p_known) → va_P (dC, dI) vwCl (wcP qa cI cJ cZ z_p_befores z_p_known) H → va_D A (wcP qa cI cJ cZ z_p_befores z_p_known) → va_S A s.heap H locs → lv_has ls 2 [(0, .ref (qa 5)), (1, .int x1)] → W p l e (headSpec wsX2_loseOldest ({ frames := 0, cells := 0, slots := 0, locals := 0 } : Room)).room s m ([.ref (qa 5)] : List Value).toArray below meth c H locs 0 0 (MQ below (wq_Wv (dC, dI) (wcP qa cI cJ cZ r_p_befores r_p_known) A) ([.ref (qa 5)] : List Value).toArray s 0 0 A) (F0 m 2 ls []) := by
    intro z_p_known n
    induction n with
    | zero =>
      intro x1 z_p_befores H locs ls hG
      exact absurd (show (none : Option ((Nat → Int64) × Int32)) = some (r_p_befores, r_p_known) from hG) (by intro h9; cases h9)
    | succ n ih2 =>
      intro x1 z_p_befores H locs ls hG hP hD hS hl
      rw [gX2_loseOldest_L2] at hG
      refine lv_iload_n hx hb dX2_loseOldest_2 rfl (lv_at hl 1 rfl) ?_
      refine lv_bipush (v := 10) hx hb dX2_loseOldest_3 (by decide) ?_
      refine lv_icmp_ge (tgt := 28) hx hb dX2_loseOldest_5 (by decide) (fun c1 => ?_) (fun c1 => ?_)
      · replace hG := wq_t c1 hG
        refine lv_aload_n hx hb dX2_loseOldest_28 rfl (lv_at hl 0 rfl) ?_
        refine lv_bipush (v := 9) hx hb dX2_loseOldest_29 (by decide) ?_
        refine va_put (D := (dC, dI)) (ci := 2) (v := .int 9) (ty := tyX2 1) (C := RX2) (T := TX2) (N := 2) hx hb hts hinX2 tyX2 tyX2_ok nmX2 hown hK hP hD hS 0 rfl rfl 1 (by decide) k1 (fun _ h9 => h9) rfl (tyX2_ok 1 (by decide)) rfl rfl (Nat.le_of_ble_eq_true rfl) dX2_loseOldest_31 (fun H locs hP hD hS => ?_)
        replace hP : va_P (dC, dI) vwCl (wcP qa cI cJ cZ z_p_befores 9) H := hP
        replace hD : va_D A (wcP qa cI cJ cZ z_p_befores 9) := hD
        cases hG
        exact W.vret hx hb hr (fun t ht hW => ⟨⟨(), rfl, trivial, by rw [ht]; exact hP, hD⟩, hS.F ht⟩) hS.2.2 dX2_loseOldest_34
      · replace hG := wq_f c1 hG
        refine lv_aload_n hx hb dX2_loseOldest_8 rfl (lv_at hl 0 rfl) ?_
        refine va_get (D := (dC, dI)) (ci := 2) (v := .ref (qa 6)) (C := RX2) (T := TX2) (N := 2) hx hb hts hinX2 hown hK hP 0 rfl rfl 0 (by decide) k2 (fun _ h9 => h9) rfl dX2_loseOldest_9 ?_
        refine lv_iload_n hx hb dX2_loseOldest_12 rfl (lv_at hl 1 rfl) ?_
        refine lv_iconst (v := 1) hx hb dX2_loseOldest_13 (by decide) ?_
        refine lv_isub hx hb dX2_loseOldest_14 ?_
        refine lv_aload_n hx hb dX2_loseOldest_15 rfl (lv_at hl 0 rfl) ?_
        refine va_get (D := (dC, dI)) (ci := 2) (v := .ref (qa 6)) (C := RX2) (T := TX2) (N := 2) hx hb hts hinX2 hown hK hP 0 rfl rfl 0 (by decide) k2 (fun _ h9 => h9) rfl dX2_loseOldest_16 ?_
        refine lv_iload_n hx hb dX2_loseOldest_19 rfl (lv_at hl 1 rfl) ?_
        obtain ⟨h2, hG⟩ := wq_chk_s hG
        refine wq_lald (D := (dC, dI)) hx hb hK hP 1 1 rfl rfl h2 (Int32.toNatClampNeg x1) rfl dX2_loseOldest_20 ?_
        obtain ⟨h3, hG⟩ := wq_chk_s hG
        refine wq_last (D := (dC, dI)) hx hb hK hP hD hS 1 1 rfl rfl h3 (Int32.toNatClampNeg (x1 - 1)) rfl (wcP qa cI cJ cZ (vp_updL z_p_befores (Int32.toNatClampNeg (x1 - 1)) (z_p_befores (Int32.toNatClampNeg x1))) z_p_known) rfl dX2_loseOldest_21 (fun H locs hP hD hS => ?_)
        refine lv_iinc (v := (x1 + 1)) (lv' := [(1, .int (x1 + 1)), (0, .ref (qa 5))]) hx hb dX2_loseOldest_22 hl (k := 1) rfl rfl (by decide) rfl (fun ls hl => ?_)
        refine lv_goto (tgt := 2) hx hb dX2_loseOldest_25 (by decide) ?_
        exact ih2 (x1 + 1) (vp_updL z_p_befores (Int32.toNatClampNeg (x1 - 1)) (z_p_befores (Int32.toNatClampNeg x1))) _ _ _ hG hP hD hS (lv_sub hl [1, 0] rfl)
  unfold gX2_loseOldest at hG
  refine lv_iconst (v := 1) hx hb dX2_loseOldest_0 (by decide) ?_
  refine lv_istore_n (lv' := [(1, .int 1), (0, .ref (qa 5))]) hx hb dX2_loseOldest_1 rfl hl (by decide) rfl (fun ls hl => ?_)
  exact hL2 p_known 1000 1 p_befores _ _ _ hG hP hD hS (lv_sub hl [1, 0] rfl)

def gX2_add (p_befores : Nat → Int64) (p_known : Int32) (a1 : Int64) : Option ((Nat → Int64) × Int32) :=
    if p_known < 10 then
    (if p_known < 0 then
    some (p_befores, p_known)
    else
    wq_chk p_known 10 (some ((vp_updL p_befores (Int32.toNatClampNeg p_known) a1), (p_known + 1))))
    else
    wq_b2 (gX2_loseOldest p_befores p_known) (fun w6 w7 =>
    if w7 < 0 then
    some (w6, w7)
    else
    (if w7 < 10 then
    wq_chk w7 10 (some ((vp_updL w6 (Int32.toNatClampNeg w7) a1), (w7 + 1)))
    else
    some (w6, w7)))
theorem hdV_X2_add : yX2_add.cls = RX2 ∧ yX2_add.cls ≠ "java/lang/invoke/MethodHandle" ∧ yX2_add.cls ≠ "java/lang/invoke/VarHandle" ∧ (parseMethodDescriptor yX2_add.desc).map (fun d => d.parameters.length) = some 1 := by decide +kernel
set_option maxHeartbeats 4000000 in
set_option maxRecDepth 100000 in
theorem C_X2_add (l : Launch) (dC : Nat → ClassId) (dI : Nat → Nat → Nat) (cI cJ cZ : ClassId) (qa : Nat → Nat) (sz : Nat) (p_befores : Nat → Int64) (p_known : Int32) (a1 : Int64) (r_p_befores : Nat → Int64) (r_p_known : Int32) (hG : gX2_add p_befores p_known a1 = some (r_p_befores, r_p_known)) : Met l yX2_add wsX2_add ({ frames := 1, cells := 0, slots := 0, locals := 21 } : Room) (va_Pc [.ref (qa 5), .long a1] (wq_pw (dC, dI) [(cI, .int), (cJ, .long), (cZ, .boolean)] (wcP qa cI cJ cZ p_befores p_known) sz)) (wq_Wv (dC, dI) (wcP qa cI cJ cZ r_p_befores r_p_known) (va_A (wcP qa cI cJ cZ p_befores p_known) sz)) 0 0 (va_A (wcP qa cI cJ cZ p_befores p_known) sz) := by
  refine Met.ofW (cc := cX2_add) (maxL := 3) (ret := none) (by decide) rfl ?_
  intro p e s m args below meth c s₁ B hml hv
  obtain ⟨rfl, hsz, hP, hK, hD0, hE⟩ := hv
  have hx := B.exec
  have hb := B.bytes
  have hr := B.returns
  have hts := atoms_spec (ws := wsX2_add) B.pre
  have hown : s.vm.findClass RX2 = some m.cls := findClass_of_methodNamed B.named
  have hlocks := B.notSynchronized
  subst hsz
  have hD := hD0.self (sz := s.heap.size)
  generalize hAe : va_A (wcP qa cI cJ cZ p_befores p_known) s.heap.size = A at hD hE ⊢
  have hA : ∀ q : Nat, s.heap.size ≤ q → A q := fun q h => by rw [← hAe]; exact Or.inr h
  have hS : va_S A s.heap s.heap [] := va_S.rf
  have hinX2 : ∀ w ∈ u_ws RX2 TX2 2, w ∈ wsX2_add := by decide +kernel
  have k1 := hts (.fieldLink RX2 15 "DoorMornings$Past" "known" "I") (by decide +kernel)
  have k2 := hts (.fieldLink RX2 9 "DoorMornings$Past" "befores" "[J") (by decide +kernel)
  have hl := lv_entry ([.ref (qa 5), .long a1]) (n := 3) (Nat.le_of_ble_eq_true rfl)
  rw [lg_entry_eq]
  generalize (lg_sl ([.ref (qa 5), .long a1]) ++ List.replicate (3 - (lg_sl ([.ref (qa 5), .long a1])).length) Slot.unset).toArray = ls at hl ⊢
  have hl : lv_has ls 3 [(0, .ref (qa 5)), (1, .long a1)] := hl
  unfold gX2_add at hG
  refine lv_aload_n hx hb dX2_add_0 rfl (lv_at hl 0 rfl) ?_
  refine va_get (D := (dC, dI)) (ci := 2) (v := .int p_known) (C := RX2) (T := TX2) (N := 2) hx hb hts hinX2 hown hK hP 0 rfl rfl 1 (by decide) k1 (fun _ h9 => h9) rfl dX2_add_1 ?_
  refine lv_bipush (v := 10) hx hb dX2_add_4 (by decide) ?_
  refine lv_icmp_lt (tgt := 13) hx hb dX2_add_6 (by decide) (fun c1 => ?_) (fun c1 => ?_)
  · replace hG := wq_t c1 hG
    refine lv_aload_n hx hb dX2_add_13 rfl (lv_at hl 0 rfl) ?_
    refine va_get (D := (dC, dI)) (ci := 2) (v := .int p_known) (C := RX2) (T := TX2) (N := 2) hx hb hts hinX2 hown hK hP 0 rfl rfl 1 (by decide) k1 (fun _ h9 => h9) rfl dX2_add_14 ?_
    refine lv_if_lt (tgt := 29) hx hb dX2_add_17 (by decide) (fun c2 => ?_) (fun c2 => ?_)
    · replace hG := wq_t c2 hG
      cases hG
      exact W.vret hx hb hr (fun t ht hW => ⟨⟨(), rfl, trivial, by rw [ht]; exact hP, hD⟩, hS.F ht⟩) hS.2.2 dX2_add_29
    · replace hG := wq_f c2 hG
      refine lv_aload_n hx hb dX2_add_20 rfl (lv_at hl 0 rfl) ?_
      refine va_get (D := (dC, dI)) (ci := 2) (v := .int p_known) (C := RX2) (T := TX2) (N := 2) hx hb hts hinX2 hown hK hP 0 rfl rfl 1 (by decide) k1 (fun _ h9 => h9) rfl dX2_add_21 ?_
      refine lv_bipush (v := 10) hx hb dX2_add_24 (by decide) ?_
      refine lv_icmp_lt (tgt := 30) hx hb dX2_add_26 (by decide) (fun c3 => ?_) (fun c3 => absurd c1 c3)
      refine lv_aload_n hx hb dX2_add_30 rfl (lv_at hl 0 rfl) ?_
      refine va_get (D := (dC, dI)) (ci := 2) (v := .ref (qa 6)) (C := RX2) (T := TX2) (N := 2) hx hb hts hinX2 hown hK hP 0 rfl rfl 0 (by decide) k2 (fun _ h9 => h9) rfl dX2_add_31 ?_
      refine lv_aload_n hx hb dX2_add_34 rfl (lv_at hl 0 rfl) ?_
      refine va_get (D := (dC, dI)) (ci := 2) (v := .int p_known) (C := RX2) (T := TX2) (N := 2) hx hb hts hinX2 hown hK hP 0 rfl rfl 1 (by decide) k1 (fun _ h9 => h9) rfl dX2_add_35 ?_
      refine lv_lload_n hx hb dX2_add_38 rfl (lv_at hl 1 rfl) ?_
      obtain ⟨h4, hG⟩ := wq_chk_s hG
      refine wq_last (D := (dC, dI)) hx hb hK hP hD hS 1 1 rfl rfl h4 (Int32.toNatClampNeg p_known) rfl (wcP qa cI cJ cZ (vp_updL p_befores (Int32.toNatClampNeg p_known) a1) p_known) rfl dX2_add_39 (fun H locs hP hD hS => ?_)
      refine lv_aload_n hx hb dX2_add_40 rfl (lv_at hl 0 rfl) ?_
      refine lv_dup hx hb dX2_add_41 rfl ?_
      refine va_get (D := (dC, dI)) (ci := 2) (v := .int p_known) (C := RX2) (T := TX2) (N := 2) hx hb hts hinX2 hown hK hP 0 rfl rfl 1 (by decide) k1 (fun _ h9 => h9) rfl dX2_add_42 ?_
      refine lv_iconst (v := 1) hx hb dX2_add_45 (by decide) ?_
      refine lv_iadd hx hb dX2_add_46 ?_
      refine va_put (D := (dC, dI)) (ci := 2) (v := .int (p_known + 1)) (ty := tyX2 1) (C := RX2) (T := TX2) (N := 2) hx hb hts hinX2 tyX2 tyX2_ok nmX2 hown hK hP hD hS 0 rfl rfl 1 (by decide) k1 (fun _ h9 => h9) rfl (tyX2_ok 1 (by decide)) rfl rfl (Nat.le_of_ble_eq_true rfl) dX2_add_47 (fun H locs hP hD hS => ?_)
      replace hP : va_P (dC, dI) vwCl (wcP qa cI cJ cZ (vp_updL p_befores (Int32.toNatClampNeg p_known) a1) (p_known + 1)) H := hP
      replace hD : va_D A (wcP qa cI cJ cZ (vp_updL p_befores (Int32.toNatClampNeg p_known) a1) (p_known + 1)) := hD
      cases hG
      exact W.vret hx hb hr (fun t ht hW => ⟨⟨(), rfl, trivial, by rw [ht]; exact hP, hD⟩, hS.F ht⟩) hS.2.2 dX2_add_50
  · replace hG := wq_f c1 hG
    refine lv_aload_n hx hb dX2_add_9 rfl (lv_at hl 0 rfl) ?_
    obtain ⟨w6, w7, g5, hG⟩ := wq_b2_s hG
    have hFc := va_free (wc := wcP qa cI cJ cZ p_befores p_known) hD hS hA [0, 1] rfl
    refine wq_dv (D := (dC, dI)) (wr := []) (w1 := wcP qa cI cJ cZ w6 w7) (w2 := wcP qa cI cJ cZ w6 w7) (va_runV (As := []) (rest := []) ⟨hx, hb, hml, hown, hts⟩ (C_X2_loseOldest l dC dI cI cJ cZ qa s.heap.size p_befores p_known  w6 w7 g5) (cwV 0 hts gX2_add_X2_loseOldest rfl rfl rfl hdV_X2_loseOldest ⟨Nat.le_of_ble_eq_true rfl, Nat.le_of_ble_eq_true rfl⟩) (wq_pwV hK hP hD hE hS hFc (ci := 2) (q0 := 0) rfl rfl) rfl rfl hl.1 rfl (lv_room (Nat.le_of_ble_eq_true rfl)) dX2_add_10 ⟨Nat.zero_le _, Nat.zero_le _⟩) hP hD hS hFc [0, 1] [] [0, 1] rfl rfl (by decide) (by decide) (by decide) rfl (fun H locs hP hD hS => ?_)
    clear hFc
    refine lv_aload_n hx hb dX2_add_13 rfl (lv_at hl 0 rfl) ?_
    refine va_get (D := (dC, dI)) (ci := 2) (v := .int w7) (C := RX2) (T := TX2) (N := 2) hx hb hts hinX2 hown hK hP 0 rfl rfl 1 (by decide) k1 (fun _ h9 => h9) rfl dX2_add_14 ?_
    refine lv_if_lt (tgt := 29) hx hb dX2_add_17 (by decide) (fun c8 => ?_) (fun c8 => ?_)
    · replace hG := wq_t c8 hG
      cases hG
      exact W.vret hx hb hr (fun t ht hW => ⟨⟨(), rfl, trivial, by rw [ht]; exact hP, hD⟩, hS.F ht⟩) hS.2.2 dX2_add_29
    · replace hG := wq_f c8 hG
      refine lv_aload_n hx hb dX2_add_20 rfl (lv_at hl 0 rfl) ?_
      refine va_get (D := (dC, dI)) (ci := 2) (v := .int w7) (C := RX2) (T := TX2) (N := 2) hx hb hts hinX2 hown hK hP 0 rfl rfl 1 (by decide) k1 (fun _ h9 => h9) rfl dX2_add_21 ?_
      refine lv_bipush (v := 10) hx hb dX2_add_24 (by decide) ?_
      refine lv_icmp_lt (tgt := 30) hx hb dX2_add_26 (by decide) (fun c9 => ?_) (fun c9 => ?_)
      · replace hG := wq_t c9 hG
        refine lv_aload_n hx hb dX2_add_30 rfl (lv_at hl 0 rfl) ?_
        refine va_get (D := (dC, dI)) (ci := 2) (v := .ref (qa 6)) (C := RX2) (T := TX2) (N := 2) hx hb hts hinX2 hown hK hP 0 rfl rfl 0 (by decide) k2 (fun _ h9 => h9) rfl dX2_add_31 ?_
        refine lv_aload_n hx hb dX2_add_34 rfl (lv_at hl 0 rfl) ?_
        refine va_get (D := (dC, dI)) (ci := 2) (v := .int w7) (C := RX2) (T := TX2) (N := 2) hx hb hts hinX2 hown hK hP 0 rfl rfl 1 (by decide) k1 (fun _ h9 => h9) rfl dX2_add_35 ?_
        refine lv_lload_n hx hb dX2_add_38 rfl (lv_at hl 1 rfl) ?_
        obtain ⟨h10, hG⟩ := wq_chk_s hG
        refine wq_last (D := (dC, dI)) hx hb hK hP hD hS 1 1 rfl rfl h10 (Int32.toNatClampNeg w7) rfl (wcP qa cI cJ cZ (vp_updL w6 (Int32.toNatClampNeg w7) a1) w7) rfl dX2_add_39 (fun H locs hP hD hS => ?_)
        refine lv_aload_n hx hb dX2_add_40 rfl (lv_at hl 0 rfl) ?_
        refine lv_dup hx hb dX2_add_41 rfl ?_
        refine va_get (D := (dC, dI)) (ci := 2) (v := .int w7) (C := RX2) (T := TX2) (N := 2) hx hb hts hinX2 hown hK hP 0 rfl rfl 1 (by decide) k1 (fun _ h9 => h9) rfl dX2_add_42 ?_
        refine lv_iconst (v := 1) hx hb dX2_add_45 (by decide) ?_
        refine lv_iadd hx hb dX2_add_46 ?_
        refine va_put (D := (dC, dI)) (ci := 2) (v := .int (w7 + 1)) (ty := tyX2 1) (C := RX2) (T := TX2) (N := 2) hx hb hts hinX2 tyX2 tyX2_ok nmX2 hown hK hP hD hS 0 rfl rfl 1 (by decide) k1 (fun _ h9 => h9) rfl (tyX2_ok 1 (by decide)) rfl rfl (Nat.le_of_ble_eq_true rfl) dX2_add_47 (fun H locs hP hD hS => ?_)
        replace hP : va_P (dC, dI) vwCl (wcP qa cI cJ cZ (vp_updL w6 (Int32.toNatClampNeg w7) a1) (w7 + 1)) H := hP
        replace hD : va_D A (wcP qa cI cJ cZ (vp_updL w6 (Int32.toNatClampNeg w7) a1) (w7 + 1)) := hD
        cases hG
        exact W.vret hx hb hr (fun t ht hW => ⟨⟨(), rfl, trivial, by rw [ht]; exact hP, hD⟩, hS.F ht⟩) hS.2.2 dX2_add_50
      · replace hG := wq_f c9 hG
        cases hG
        exact W.vret hx hb hr (fun t ht hW => ⟨⟨(), rfl, trivial, by rw [ht]; exact hP, hD⟩, hS.F ht⟩) hS.2.2 dX2_add_29

def gX6_beyondTrust (a0 : Int32) (a1 : Int32) : Option (Int32) :=
    some (if 0 < (a0 - (2 * a1)) then (a0 - (2 * a1)) else 0)
theorem hdS_X6_beyondTrust : yX6_beyondTrust.cls ≠ "java/lang/invoke/MethodHandle" ∧ yX6_beyondTrust.cls ≠ "java/lang/invoke/VarHandle" ∧ (parseMethodDescriptor yX6_beyondTrust.desc).map (fun d => d.parameters.length) = some 2 := by decide +kernel
set_option maxHeartbeats 4000000 in
set_option maxRecDepth 100000 in
theorem C_X6_beyondTrust (l : Launch) (dC : Nat → ClassId) (dI : Nat → Nat → Nat) (cI cJ cZ : ClassId) (qa : Nat → Nat) (sz : Nat) (a0 : Int32) (a1 : Int32) (r0 : Int32) (hG : gX6_beyondTrust a0 a1 = some r0) : Met l yX6_beyondTrust wsX6_beyondTrust ({ frames := 1, cells := 0, slots := 0, locals := 21 } : Room) (va_Pc [.int a0, .int a1] (wq_pp (dC, dI) [(cI, .int), (cJ, .long), (cZ, .boolean)] ([]) sz)) (wq_Qi r0 wq_tr (va_A [] sz)) 0 0 (va_A [] sz) := by
  refine Met.ofW (cc := cX6_beyondTrust) (maxL := 2) (ret := (some .int)) (by decide) rfl ?_
  intro p e s m args below meth c s₁ B hml hv
  obtain ⟨rfl, hsz, hP, hK, hE⟩ := hv
  have hx := B.exec
  have hb := B.bytes
  have hr := B.returns
  have hts := atoms_spec (ws := wsX6_beyondTrust) B.pre
  have hown : s.vm.findClass RX6 = some m.cls := findClass_of_methodNamed B.named
  have hlocks := B.notSynchronized
  subst hsz
  generalize hAe : va_A [] s.heap.size = A at hE ⊢
  have hA : ∀ q : Nat, s.heap.size ≤ q → A q := fun q h => by rw [← hAe]; exact Or.inr h
  have hS : va_S A s.heap s.heap [] := va_S.rf
  have k1 := hts (.methodLink RX6 160 Lib.Math.max.name) (by decide +kernel)
  have k2 := hts (.static Lib.Math.max.name) (by decide +kernel)
  have k3 := hts (.initialized "java/lang/Math") (by decide +kernel)
  have k4 := hts (.code Lib.Math.max.name Lib.Math.max.code 2 (some .int)) (by decide +kernel)
  have hl := lv_entry ([.int a0, .int a1]) (n := 2) (Nat.le_of_ble_eq_true rfl)
  rw [lg_entry_eq]
  generalize (lg_sl ([.int a0, .int a1]) ++ List.replicate (2 - (lg_sl ([.int a0, .int a1])).length) Slot.unset).toArray = ls at hl ⊢
  have hl : lv_has ls 2 [(0, .int a0), (1, .int a1)] := hl
  unfold gX6_beyondTrust at hG
  refine lv_iconst (v := 0) hx hb dX6_beyondTrust_0 (by decide) ?_
  refine lv_iload_n hx hb dX6_beyondTrust_1 rfl (lv_at hl 0 rfl) ?_
  refine lv_iconst (v := 2) hx hb dX6_beyondTrust_2 (by decide) ?_
  refine lv_iload_n hx hb dX6_beyondTrust_3 rfl (lv_at hl 1 rfl) ?_
  refine lv_imul hx hb dX6_beyondTrust_4 ?_
  refine lv_isub hx hb dX6_beyondTrust_5 ?_
  refine va_mmax (x := 0) (y := (a0 - (2 * a1))) hx hb (hml.trans hl.1.symm) hown k1 k2 k3 k4 (Nat.le_of_ble_eq_true rfl) (Nat.le_of_ble_eq_true rfl) (Nat.zero_le _) (Nat.zero_le _) dX6_beyondTrust_6 ?_
  exact W.iret (v := (if 0 < (a0 - (2 * a1)) then (a0 - (2 * a1)) else 0)) hx hb hr (fun t ht hW => ⟨⟨(if 0 < (a0 - (2 * a1)) then (a0 - (2 * a1)) else 0), (), rfl, ⟨Option.some.inj hG, trivial⟩, trivial⟩, hS.F ht⟩) hS.2.2 dX6_beyondTrust_9

def gX6_withinMinutes (a0 : Int32) : Option (Int32) :=
    some (if 0 < (if a0 < 60 then a0 else 60) then (if a0 < 60 then a0 else 60) else 0)
theorem hdS_X6_withinMinutes : yX6_withinMinutes.cls ≠ "java/lang/invoke/MethodHandle" ∧ yX6_withinMinutes.cls ≠ "java/lang/invoke/VarHandle" ∧ (parseMethodDescriptor yX6_withinMinutes.desc).map (fun d => d.parameters.length) = some 1 := by decide +kernel
set_option maxHeartbeats 4000000 in
set_option maxRecDepth 100000 in
theorem C_X6_withinMinutes (l : Launch) (dC : Nat → ClassId) (dI : Nat → Nat → Nat) (cI cJ cZ : ClassId) (qa : Nat → Nat) (sz : Nat) (a0 : Int32) (r0 : Int32) (hG : gX6_withinMinutes a0 = some r0) : Met l yX6_withinMinutes wsX6_withinMinutes ({ frames := 1, cells := 0, slots := 0, locals := 21 } : Room) (va_Pc [.int a0] (wq_pp (dC, dI) [(cI, .int), (cJ, .long), (cZ, .boolean)] ([]) sz)) (wq_Qi r0 wq_tr (va_A [] sz)) 0 0 (va_A [] sz) := by
  refine Met.ofW (cc := cX6_withinMinutes) (maxL := 1) (ret := (some .int)) (by decide) rfl ?_
  intro p e s m args below meth c s₁ B hml hv
  obtain ⟨rfl, hsz, hP, hK, hE⟩ := hv
  have hx := B.exec
  have hb := B.bytes
  have hr := B.returns
  have hts := atoms_spec (ws := wsX6_withinMinutes) B.pre
  have hown : s.vm.findClass RX6 = some m.cls := findClass_of_methodNamed B.named
  have hlocks := B.notSynchronized
  subst hsz
  generalize hAe : va_A [] s.heap.size = A at hE ⊢
  have hA : ∀ q : Nat, s.heap.size ≤ q → A q := fun q h => by rw [← hAe]; exact Or.inr h
  have hS : va_S A s.heap s.heap [] := va_S.rf
  have k1 := hts (.methodLink RX6 270 Lib.Math.min.name) (by decide +kernel)
  have k2 := hts (.static Lib.Math.min.name) (by decide +kernel)
  have k3 := hts (.initialized "java/lang/Math") (by decide +kernel)
  have k4 := hts (.code Lib.Math.min.name Lib.Math.min.code 2 (some .int)) (by decide +kernel)
  have k5 := hts (.methodLink RX6 160 Lib.Math.max.name) (by decide +kernel)
  have k6 := hts (.static Lib.Math.max.name) (by decide +kernel)
  have k7 := hts (.code Lib.Math.max.name Lib.Math.max.code 2 (some .int)) (by decide +kernel)
  have hl := lv_entry ([.int a0]) (n := 1) (Nat.le_of_ble_eq_true rfl)
  rw [lg_entry_eq]
  generalize (lg_sl ([.int a0]) ++ List.replicate (1 - (lg_sl ([.int a0])).length) Slot.unset).toArray = ls at hl ⊢
  have hl : lv_has ls 1 [(0, .int a0)] := hl
  unfold gX6_withinMinutes at hG
  refine lv_iconst (v := 0) hx hb dX6_withinMinutes_0 (by decide) ?_
  refine lv_bipush (v := 60) hx hb dX6_withinMinutes_1 (by decide) ?_
  refine lv_iload_n hx hb dX6_withinMinutes_3 rfl (lv_at hl 0 rfl) ?_
  refine va_mmin (x := 60) (y := a0) hx hb (hml.trans hl.1.symm) hown k1 k2 k3 k4 (Nat.le_of_ble_eq_true rfl) (Nat.le_of_ble_eq_true rfl) (Nat.zero_le _) (Nat.zero_le _) dX6_withinMinutes_4 ?_
  refine va_mmax (x := 0) (y := (if a0 < 60 then a0 else 60)) hx hb (hml.trans hl.1.symm) hown k5 k6 k3 k7 (Nat.le_of_ble_eq_true rfl) (Nat.le_of_ble_eq_true rfl) (Nat.zero_le _) (Nat.zero_le _) dX6_withinMinutes_7 ?_
  exact W.iret (v := (if 0 < (if a0 < 60 then a0 else 60) then (if a0 < 60 then a0 else 60) else 0)) hx hb hr (fun t ht hW => ⟨⟨(if 0 < (if a0 < 60 then a0 else 60) then (if a0 < 60 then a0 else 60) else 0), (), rfl, ⟨Option.some.inj hG, trivial⟩, trivial⟩, hS.F ht⟩) hS.2.2 dX6_withinMinutes_10

def gX5_minutes (t_tears : Nat → Int32) (t_settings : Nat → Int32) (t_goodbyes : Int32) (a1 : Int32) (a2 : Int32) (a3 : Int32) (a4 : Int32) : Option (Int32) :=
    wq_b1 (gX5_tearsOf t_tears t_goodbyes a1) (fun v2 =>
    wq_b1 (gX5_setting t_settings 0) (fun v5 =>
    wq_b1 (gX6_beyondTrust a3 a2) (fun v8 =>
    wq_b1 (gX6_withinMinutes ((v2 + (v5 * v8)) - a4)) (fun v11 =>
    some v11))))
theorem hdV_X5_minutes : yX5_minutes.cls = RX5 ∧ yX5_minutes.cls ≠ "java/lang/invoke/MethodHandle" ∧ yX5_minutes.cls ≠ "java/lang/invoke/VarHandle" ∧ (parseMethodDescriptor yX5_minutes.desc).map (fun d => d.parameters.length) = some 4 := by decide +kernel
set_option maxHeartbeats 4000000 in
set_option maxRecDepth 100000 in
theorem C_X5_minutes (l : Launch) (dC : Nat → ClassId) (dI : Nat → Nat → Nat) (cI cJ cZ : ClassId) (qa : Nat → Nat) (sz : Nat) (t_tears : Nat → Int32) (t_gains : Nat → Int32) (t_likings : Nat → Int32) (t_settings : Nat → Int32) (t_goodbyes : Int32) (t_women : Int32) (a1 : Int32) (a2 : Int32) (a3 : Int32) (a4 : Int32) (r0 : Int32) (hG : gX5_minutes t_tears t_settings t_goodbyes a1 a2 a3 a4 = some r0) : Met l yX5_minutes wsX5_minutes ({ frames := 2, cells := 0, slots := 0, locals := 42 } : Room) (va_Pc [.ref (qa 16), .int a1, .int a2, .int a3, .int a4] (wq_pp (dC, dI) [(cI, .int), (cJ, .long), (cZ, .boolean)] (wcT qa cI cJ cZ t_tears t_gains t_likings t_settings t_goodbyes t_women) sz)) (wq_Qi r0 wq_tr (va_A [] sz)) 0 0 (va_A [] sz) := by
  refine Met.ofW (cc := cX5_minutes) (maxL := 5) (ret := (some .int)) (by decide) rfl ?_
  intro p e s m args below meth c s₁ B hml hv
  obtain ⟨rfl, hsz, hP, hK, hE⟩ := hv
  have hx := B.exec
  have hb := B.bytes
  have hr := B.returns
  have hts := atoms_spec (ws := wsX5_minutes) B.pre
  have hown : s.vm.findClass RX5 = some m.cls := findClass_of_methodNamed B.named
  have hlocks := B.notSynchronized
  subst hsz
  generalize hAe : va_A [] s.heap.size = A at hE ⊢
  have hA : ∀ q : Nat, s.heap.size ≤ q → A q := fun q h => by rw [← hAe]; exact Or.inr h
  have hS : va_S A s.heap s.heap [] := va_S.rf
  have k1 := hts (.initialized RX6) (by decide +kernel)
  have k2 := hts (.static yX6_beyondTrust) (by decide +kernel)
  have k3 := hts (.static yX6_withinMinutes) (by decide +kernel)
  have hl := lv_entry ([.ref (qa 16), .int a1, .int a2, .int a3, .int a4]) (n := 5) (Nat.le_of_ble_eq_true rfl)
  rw [lg_entry_eq]
  generalize (lg_sl ([.ref (qa 16), .int a1, .int a2, .int a3, .int a4]) ++ List.replicate (5 - (lg_sl ([.ref (qa 16), .int a1, .int a2, .int a3, .int a4])).length) Slot.unset).toArray = ls at hl ⊢
  have hl : lv_has ls 5 [(0, .ref (qa 16)), (1, .int a1), (2, .int a2), (3, .int a3), (4, .int a4)] := hl
  unfold gX5_minutes at hG
  refine lv_aload_n hx hb dX5_minutes_0 rfl (lv_at hl 0 rfl) ?_
  refine lv_iload_n hx hb dX5_minutes_1 rfl (lv_at hl 1 rfl) ?_
  obtain ⟨v2, g1, hG⟩ := wq_b1_s hG
  refine wq_ci (v := v2) (B := wq_tr) (va_runV (As := [.int a1]) (rest := []) ⟨hx, hb, hml, hown, hts⟩ (C_X5_tearsOf l dC dI cI cJ cZ qa s.heap.size t_tears t_gains t_likings t_settings t_goodbyes t_women a1 v2 g1) (cwV 1 hts gX5_minutes_X5_tearsOf rfl rfl rfl hdV_X5_tearsOf ⟨Nat.le_of_ble_eq_true rfl, Nat.le_of_ble_eq_true rfl⟩) (wq_ppV hK hP hE hS hA (ci := 5) (q0 := 0) rfl rfl) rfl rfl hl.1 rfl (lv_room (Nat.le_of_ble_eq_true rfl)) dX5_minutes_2 ⟨Nat.zero_le _, Nat.zero_le _⟩) hS hA (fun H locs b3 hk hS => ?_)
  replace hP := wq_kp hP hk
  clear hk
  refine lv_aload_n hx hb dX5_minutes_5 rfl (lv_at hl 0 rfl) ?_
  refine lv_iconst (v := 0) hx hb dX5_minutes_6 (by decide) ?_
  obtain ⟨v5, g4, hG⟩ := wq_b1_s hG
  refine wq_ci (v := v5) (B := wq_tr) (va_runV (As := [.int 0]) (rest := [.int v2]) ⟨hx, hb, hml, hown, hts⟩ (C_X5_setting l dC dI cI cJ cZ qa H.size t_tears t_gains t_likings t_settings t_goodbyes t_women 0 v5 g4) (cwV 1 hts gX5_minutes_X5_setting rfl rfl rfl hdV_X5_setting ⟨Nat.le_of_ble_eq_true rfl, Nat.le_of_ble_eq_true rfl⟩) (wq_ppV hK hP hE hS hA (ci := 5) (q0 := 0) rfl rfl) rfl rfl hl.1 rfl (lv_room (Nat.le_of_ble_eq_true rfl)) dX5_minutes_7 ⟨Nat.zero_le _, Nat.zero_le _⟩) hS hA (fun H locs b6 hk hS => ?_)
  replace hP := wq_kp hP hk
  clear hk
  refine lv_iload_n hx hb dX5_minutes_10 rfl (lv_at hl 3 rfl) ?_
  refine lv_iload_n hx hb dX5_minutes_11 rfl (lv_at hl 2 rfl) ?_
  obtain ⟨v8, g7, hG⟩ := wq_b1_s hG
  refine wq_ci (v := v8) (B := wq_tr) (va_runSN (As := [.int a3, .int a2]) (rest := [.int v5, .int v2]) ⟨hx, hb, hml, hown, hts⟩ (C_X6_beyondTrust l dC dI cI cJ cZ qa H.size  a3 a2 v8 g7) ⟨va_cnB 2 hts gX5_minutes_X6_beyondTrust_n53 rfl rfl rfl hE.1.2.2.2.2.2.2.2.1 k1 hdS_X6_beyondTrust ⟨Nat.le_of_ble_eq_true rfl, Nat.le_of_ble_eq_true rfl⟩, k2, trivial⟩ (wq_ppS hK (hP.sub (ws' := []) [] rfl) hE hS hA) rfl rfl hl.1 rfl (lv_room (Nat.le_of_ble_eq_true rfl)) dX5_minutes_12 ⟨Nat.zero_le _, Nat.zero_le _⟩) hS hA (fun H locs b9 hk hS => ?_)
  replace hP := wq_kp hP hk
  clear hk
  refine lv_imul hx hb dX5_minutes_15 ?_
  refine lv_iadd hx hb dX5_minutes_16 ?_
  refine lv_iload hx hb dX5_minutes_17 (lv_at hl 4 rfl) ?_
  refine lv_isub hx hb dX5_minutes_19 ?_
  obtain ⟨v11, g10, hG⟩ := wq_b1_s hG
  refine wq_ci (v := v11) (B := wq_tr) (va_runSN (As := [.int ((v2 + (v5 * v8)) - a4)]) (rest := []) ⟨hx, hb, hml, hown, hts⟩ (C_X6_withinMinutes l dC dI cI cJ cZ qa H.size  ((v2 + (v5 * v8)) - a4) v11 g10) ⟨va_cnB 1 hts gX5_minutes_X6_withinMinutes_n57 rfl rfl rfl hE.1.2.2.2.2.2.2.2.2.1 k1 hdS_X6_withinMinutes ⟨Nat.le_of_ble_eq_true rfl, Nat.le_of_ble_eq_true rfl⟩, k3, trivial⟩ (wq_ppS hK (hP.sub (ws' := []) [] rfl) hE hS hA) rfl rfl hl.1 rfl (lv_room (Nat.le_of_ble_eq_true rfl)) dX5_minutes_20 ⟨Nat.zero_le _, Nat.zero_le _⟩) hS hA (fun H locs b12 hk hS => ?_)
  replace hP := wq_kp hP hk
  clear hk
  exact W.iret (v := v11) hx hb hr (fun t ht hW => ⟨⟨v11, (), rfl, ⟨Option.some.inj hG, trivial⟩, trivial⟩, hS.F ht⟩) hS.2.2 dX5_minutes_23

def gX6_minutesNow (n_likings : Nat → Int32) (n_trust : Int32) (t_tears : Nat → Int32) (t_settings : Nat → Int32) (t_goodbyes : Int32) (a1 : Int32) (a2 : Int32) (a3 : Int32) : Option (Int32) :=
    wq_b1 (gX0_likingOf n_likings a3) (fun v2 =>
    wq_b1 (gX5_minutes t_tears t_settings t_goodbyes a1 n_trust a2 v2) (fun v5 =>
    some v5))
theorem hdV_X6_minutesNow : yX6_minutesNow.cls = RX6 ∧ yX6_minutesNow.cls ≠ "java/lang/invoke/MethodHandle" ∧ yX6_minutesNow.cls ≠ "java/lang/invoke/VarHandle" ∧ (parseMethodDescriptor yX6_minutesNow.desc).map (fun d => d.parameters.length) = some 3 := by decide +kernel
set_option maxHeartbeats 4000000 in
set_option maxRecDepth 100000 in
theorem C_X6_minutesNow (l : Launch) (dC : Nat → ClassId) (dI : Nat → Nat → Nat) (cI cJ cZ : ClassId) (qa : Nat → Nat) (sz : Nat) (r_images : Nat → Int64) (r_asked : Int64) (n_likings : Nat → Int32) (n_day : Int32) (n_trust : Int32) (n_ill : Int32) (n_done : Int32) (t_tears : Nat → Int32) (t_gains : Nat → Int32) (t_likings : Nat → Int32) (t_settings : Nat → Int32) (t_goodbyes : Int32) (t_women : Int32) (a1 : Int32) (a2 : Int32) (a3 : Int32) (r0 : Int32) (hG : gX6_minutesNow n_likings n_trust t_tears t_settings t_goodbyes a1 a2 a3 = some r0) : Met l yX6_minutesNow wsX6_minutesNow ({ frames := 3, cells := 0, slots := 0, locals := 66 } : Room) (va_Pc [.ref (qa 0), .int a1, .int a2, .int a3] (wq_pp (dC, dI) [(cI, .int), (cJ, .long), (cZ, .boolean)] (wcRNT qa cI cJ cZ r_images r_asked n_likings n_day n_trust n_ill n_done t_tears t_gains t_likings t_settings t_goodbyes t_women) sz)) (wq_Qi r0 wq_tr (va_A [] sz)) 0 0 (va_A [] sz) := by
  refine Met.ofW (cc := cX6_minutesNow) (maxL := 4) (ret := (some .int)) (by decide) rfl ?_
  intro p e s m args below meth c s₁ B hml hv
  obtain ⟨rfl, hsz, hP, hK, hE⟩ := hv
  have hx := B.exec
  have hb := B.bytes
  have hr := B.returns
  have hts := atoms_spec (ws := wsX6_minutesNow) B.pre
  have hown : s.vm.findClass RX6 = some m.cls := findClass_of_methodNamed B.named
  have hlocks := B.notSynchronized
  subst hsz
  generalize hAe : va_A [] s.heap.size = A at hE ⊢
  have hA : ∀ q : Nat, s.heap.size ≤ q → A q := fun q h => by rw [← hAe]; exact Or.inr h
  have hS : va_S A s.heap s.heap [] := va_S.rf
  have hinX6 : ∀ w ∈ u_ws RX6 TX6 9, w ∈ wsX6_minutesNow := by decide +kernel
  have hinX0 : ∀ w ∈ u_ws RX0 TX0 5, w ∈ wsX6_minutesNow := by decide +kernel
  have k1 := hts (.fieldLink RX6 53 "DoorMornings" "told" "LDoorMornings$Told;") (by decide +kernel)
  have k2 := hts (.fieldLink RX6 19 "DoorMornings" "today" "LDoorMornings$Now;") (by decide +kernel)
  have k3 := hts (.fieldLink RX6 113 "DoorMornings$Now" "trust" "I") (by decide +kernel)
  have hl := lv_entry ([.ref (qa 0), .int a1, .int a2, .int a3]) (n := 4) (Nat.le_of_ble_eq_true rfl)
  rw [lg_entry_eq]
  generalize (lg_sl ([.ref (qa 0), .int a1, .int a2, .int a3]) ++ List.replicate (4 - (lg_sl ([.ref (qa 0), .int a1, .int a2, .int a3])).length) Slot.unset).toArray = ls at hl ⊢
  have hl : lv_has ls 4 [(0, .ref (qa 0)), (1, .int a1), (2, .int a2), (3, .int a3)] := hl
  unfold gX6_minutesNow at hG
  refine lv_aload_n hx hb dX6_minutesNow_0 rfl (lv_at hl 0 rfl) ?_
  refine va_get (D := (dC, dI)) (ci := 6) (v := .ref (qa 16)) (C := RX6) (T := TX6) (N := 9) hx hb hts hinX6 hown hK hP 0 rfl rfl 6 (by decide) k1 (fun _ h9 => h9) rfl dX6_minutesNow_1 ?_
  refine lv_iload_n hx hb dX6_minutesNow_4 rfl (lv_at hl 1 rfl) ?_
  refine lv_aload_n hx hb dX6_minutesNow_5 rfl (lv_at hl 0 rfl) ?_
  refine va_get (D := (dC, dI)) (ci := 6) (v := .ref (qa 3)) (C := RX6) (T := TX6) (N := 9) hx hb hts hinX6 hown hK hP 0 rfl rfl 1 (by decide) k2 (fun _ h9 => h9) rfl dX6_minutesNow_6 ?_
  refine va_get (D := (dC, dI)) (ci := 0) (v := .int n_trust) (C := RX0) (T := TX0) (N := 5) hx hb hts hinX0 hown hK hP 2 rfl rfl 2 (by decide) k3 (fun _ h9 => h9) rfl dX6_minutesNow_9 ?_
  refine lv_iload_n hx hb dX6_minutesNow_12 rfl (lv_at hl 2 rfl) ?_
  refine lv_aload_n hx hb dX6_minutesNow_13 rfl (lv_at hl 0 rfl) ?_
  refine va_get (D := (dC, dI)) (ci := 6) (v := .ref (qa 3)) (C := RX6) (T := TX6) (N := 9) hx hb hts hinX6 hown hK hP 0 rfl rfl 1 (by decide) k2 (fun _ h9 => h9) rfl dX6_minutesNow_14 ?_
  refine lv_iload_n hx hb dX6_minutesNow_17 rfl (lv_at hl 3 rfl) ?_
  obtain ⟨v2, g1, hG⟩ := wq_b1_s hG
  refine wq_ci (v := v2) (B := wq_tr) (va_runV (As := [.int a3]) (rest := [.int a2, .int n_trust, .int a1, .ref (qa 16)]) ⟨hx, hb, hml, hown, hts⟩ (C_X0_likingOf l dC dI cI cJ cZ qa s.heap.size n_likings n_day n_trust n_ill n_done a3 v2 g1) (cwV 1 hts gX6_minutesNow_X0_likingOf rfl rfl rfl hdV_X0_likingOf ⟨Nat.le_of_ble_eq_true rfl, Nat.le_of_ble_eq_true rfl⟩) (wq_ppV hK (hP.sub (ws' := wcN qa cI cJ cZ n_likings n_day n_trust n_ill n_done) [2, 3] rfl) hE hS hA (ci := 0) (q0 := 0) rfl rfl) rfl rfl hl.1 rfl (lv_room (Nat.le_of_ble_eq_true rfl)) dX6_minutesNow_18 ⟨Nat.zero_le _, Nat.zero_le _⟩) hS hA (fun H locs b3 hk hS => ?_)
  replace hP := wq_kp hP hk
  clear hk
  obtain ⟨v5, g4, hG⟩ := wq_b1_s hG
  refine wq_ci (v := v5) (B := wq_tr) (va_runV (As := [.int a1, .int n_trust, .int a2, .int v2]) (rest := []) ⟨hx, hb, hml, hown, hts⟩ (C_X5_minutes l dC dI cI cJ cZ qa H.size t_tears t_gains t_likings t_settings t_goodbyes t_women a1 n_trust a2 v2 v5 g4) (cwV 4 hts gX6_minutesNow_X5_minutes rfl rfl rfl hdV_X5_minutes ⟨Nat.le_of_ble_eq_true rfl, Nat.le_of_ble_eq_true rfl⟩) (wq_ppV hK (hP.sub (ws' := wcT qa cI cJ cZ t_tears t_gains t_likings t_settings t_goodbyes t_women) [4, 5, 6, 7, 8] rfl) hE hS hA (ci := 5) (q0 := 0) rfl rfl) rfl rfl hl.1 rfl (lv_room (Nat.le_of_ble_eq_true rfl)) dX6_minutesNow_21 ⟨Nat.zero_le _, Nat.zero_le _⟩) hS hA (fun H locs b6 hk hS => ?_)
  replace hP := wq_kp hP hk
  clear hk
  exact W.iret (v := v5) hx hb hr (fun t ht hW => ⟨⟨v5, (), rfl, ⟨Option.some.inj hG, trivial⟩, trivial⟩, hS.F ht⟩) hS.2.2 dX6_minutesNow_24

def gX5_isCalm (t_settings : Nat → Int32) (a1 : Int32) : Option (Int32) :=
    wq_b1 (gX5_setting t_settings 1) (fun v2 =>
    if v2 < a1 then
    some 0
    else
    some 1)
theorem hdV_X5_isCalm : yX5_isCalm.cls = RX5 ∧ yX5_isCalm.cls ≠ "java/lang/invoke/MethodHandle" ∧ yX5_isCalm.cls ≠ "java/lang/invoke/VarHandle" ∧ (parseMethodDescriptor yX5_isCalm.desc).map (fun d => d.parameters.length) = some 1 := by decide +kernel
set_option maxHeartbeats 4000000 in
set_option maxRecDepth 100000 in
theorem C_X5_isCalm (l : Launch) (dC : Nat → ClassId) (dI : Nat → Nat → Nat) (cI cJ cZ : ClassId) (qa : Nat → Nat) (sz : Nat) (t_tears : Nat → Int32) (t_gains : Nat → Int32) (t_likings : Nat → Int32) (t_settings : Nat → Int32) (t_goodbyes : Int32) (t_women : Int32) (a1 : Int32) (r0 : Int32) (hG : gX5_isCalm t_settings a1 = some r0) : Met l yX5_isCalm wsX5_isCalm ({ frames := 1, cells := 0, slots := 0, locals := 21 } : Room) (va_Pc [.ref (qa 16), .int a1] (wq_pp (dC, dI) [(cI, .int), (cJ, .long), (cZ, .boolean)] (wcT qa cI cJ cZ t_tears t_gains t_likings t_settings t_goodbyes t_women) sz)) (wq_Qi r0 wq_Z1 (va_A [] sz)) 0 0 (va_A [] sz) := by
  refine Met.ofW (cc := cX5_isCalm) (maxL := 2) (ret := (some .boolean)) (by decide) rfl ?_
  intro p e s m args below meth c s₁ B hml hv
  obtain ⟨rfl, hsz, hP, hK, hE⟩ := hv
  have hx := B.exec
  have hb := B.bytes
  have hr := B.returns
  have hts := atoms_spec (ws := wsX5_isCalm) B.pre
  have hown : s.vm.findClass RX5 = some m.cls := findClass_of_methodNamed B.named
  have hlocks := B.notSynchronized
  subst hsz
  generalize hAe : va_A [] s.heap.size = A at hE ⊢
  have hA : ∀ q : Nat, s.heap.size ≤ q → A q := fun q h => by rw [← hAe]; exact Or.inr h
  have hS : va_S A s.heap s.heap [] := va_S.rf
  have hl := lv_entry ([.ref (qa 16), .int a1]) (n := 2) (Nat.le_of_ble_eq_true rfl)
  rw [lg_entry_eq]
  generalize (lg_sl ([.ref (qa 16), .int a1]) ++ List.replicate (2 - (lg_sl ([.ref (qa 16), .int a1])).length) Slot.unset).toArray = ls at hl ⊢
  have hl : lv_has ls 2 [(0, .ref (qa 16)), (1, .int a1)] := hl
  unfold gX5_isCalm at hG
  refine lv_iload_n hx hb dX5_isCalm_0 rfl (lv_at hl 1 rfl) ?_
  refine lv_aload_n hx hb dX5_isCalm_1 rfl (lv_at hl 0 rfl) ?_
  refine lv_iconst (v := 1) hx hb dX5_isCalm_2 (by decide) ?_
  obtain ⟨v2, g1, hG⟩ := wq_b1_s hG
  refine wq_ci (v := v2) (B := wq_tr) (va_runV (As := [.int 1]) (rest := [.int a1]) ⟨hx, hb, hml, hown, hts⟩ (C_X5_setting l dC dI cI cJ cZ qa s.heap.size t_tears t_gains t_likings t_settings t_goodbyes t_women 1 v2 g1) (cwV 1 hts gX5_isCalm_X5_setting rfl rfl rfl hdV_X5_setting ⟨Nat.le_of_ble_eq_true rfl, Nat.le_of_ble_eq_true rfl⟩) (wq_ppV hK hP hE hS hA (ci := 5) (q0 := 0) rfl rfl) rfl rfl hl.1 rfl (lv_room (Nat.le_of_ble_eq_true rfl)) dX5_isCalm_3 ⟨Nat.zero_le _, Nat.zero_le _⟩) hS hA (fun H locs b3 hk hS => ?_)
  replace hP := wq_kp hP hk
  clear hk
  refine lv_icmp_gt (tgt := 13) hx hb dX5_isCalm_6 (by decide) (fun c4 => ?_) (fun c4 => ?_)
  · replace hG := wq_t c4 hG
    refine lv_iconst (v := 0) hx hb dX5_isCalm_13 (by decide) ?_
    exact W.zret (v := 0) hx hb hr (wq_Z1_n (Or.inl rfl)) (fun t ht hW => ⟨⟨0, (), rfl, ⟨Option.some.inj hG, (Or.inl rfl)⟩, trivial⟩, hS.F ht⟩) hS.2.2 dX5_isCalm_14
  · replace hG := wq_f c4 hG
    refine lv_iconst (v := 1) hx hb dX5_isCalm_9 (by decide) ?_
    refine lv_goto (tgt := 14) hx hb dX5_isCalm_10 (by decide) ?_
    exact W.zret (v := 1) hx hb hr (wq_Z1_n (Or.inr rfl)) (fun t ht hW => ⟨⟨1, (), rfl, ⟨Option.some.inj hG, (Or.inr rfl)⟩, trivial⟩, hS.F ht⟩) hS.2.2 dX5_isCalm_14

def gX5_calmerTrust (t_gains : Nat → Int32) (t_goodbyes : Int32) (a1 : Int32) (a2 : Int32) : Option (Int32) :=
    wq_b1 (gX5_gainOf t_gains t_goodbyes a1) (fun v2 =>
    some (if (a2 + v2) < 24 then (a2 + v2) else 24))
theorem hdV_X5_calmerTrust : yX5_calmerTrust.cls = RX5 ∧ yX5_calmerTrust.cls ≠ "java/lang/invoke/MethodHandle" ∧ yX5_calmerTrust.cls ≠ "java/lang/invoke/VarHandle" ∧ (parseMethodDescriptor yX5_calmerTrust.desc).map (fun d => d.parameters.length) = some 2 := by decide +kernel
set_option maxHeartbeats 4000000 in
set_option maxRecDepth 100000 in
theorem C_X5_calmerTrust (l : Launch) (dC : Nat → ClassId) (dI : Nat → Nat → Nat) (cI cJ cZ : ClassId) (qa : Nat → Nat) (sz : Nat) (t_tears : Nat → Int32) (t_gains : Nat → Int32) (t_likings : Nat → Int32) (t_settings : Nat → Int32) (t_goodbyes : Int32) (t_women : Int32) (a1 : Int32) (a2 : Int32) (r0 : Int32) (hG : gX5_calmerTrust t_gains t_goodbyes a1 a2 = some r0) : Met l yX5_calmerTrust wsX5_calmerTrust ({ frames := 2, cells := 0, slots := 0, locals := 42 } : Room) (va_Pc [.ref (qa 16), .int a1, .int a2] (wq_pp (dC, dI) [(cI, .int), (cJ, .long), (cZ, .boolean)] (wcT qa cI cJ cZ t_tears t_gains t_likings t_settings t_goodbyes t_women) sz)) (wq_Qi r0 wq_tr (va_A [] sz)) 0 0 (va_A [] sz) := by
  refine Met.ofW (cc := cX5_calmerTrust) (maxL := 3) (ret := (some .int)) (by decide) rfl ?_
  intro p e s m args below meth c s₁ B hml hv
  obtain ⟨rfl, hsz, hP, hK, hE⟩ := hv
  have hx := B.exec
  have hb := B.bytes
  have hr := B.returns
  have hts := atoms_spec (ws := wsX5_calmerTrust) B.pre
  have hown : s.vm.findClass RX5 = some m.cls := findClass_of_methodNamed B.named
  have hlocks := B.notSynchronized
  subst hsz
  generalize hAe : va_A [] s.heap.size = A at hE ⊢
  have hA : ∀ q : Nat, s.heap.size ≤ q → A q := fun q h => by rw [← hAe]; exact Or.inr h
  have hS : va_S A s.heap s.heap [] := va_S.rf
  have k1 := hts (.methodLink RX5 80 Lib.Math.min.name) (by decide +kernel)
  have k2 := hts (.static Lib.Math.min.name) (by decide +kernel)
  have k3 := hts (.initialized "java/lang/Math") (by decide +kernel)
  have k4 := hts (.code Lib.Math.min.name Lib.Math.min.code 2 (some .int)) (by decide +kernel)
  have hl := lv_entry ([.ref (qa 16), .int a1, .int a2]) (n := 3) (Nat.le_of_ble_eq_true rfl)
  rw [lg_entry_eq]
  generalize (lg_sl ([.ref (qa 16), .int a1, .int a2]) ++ List.replicate (3 - (lg_sl ([.ref (qa 16), .int a1, .int a2])).length) Slot.unset).toArray = ls at hl ⊢
  have hl : lv_has ls 3 [(0, .ref (qa 16)), (1, .int a1), (2, .int a2)] := hl
  unfold gX5_calmerTrust at hG
  refine lv_bipush (v := 24) hx hb dX5_calmerTrust_0 (by decide) ?_
  refine lv_iload_n hx hb dX5_calmerTrust_2 rfl (lv_at hl 2 rfl) ?_
  refine lv_aload_n hx hb dX5_calmerTrust_3 rfl (lv_at hl 0 rfl) ?_
  refine lv_iload_n hx hb dX5_calmerTrust_4 rfl (lv_at hl 1 rfl) ?_
  obtain ⟨v2, g1, hG⟩ := wq_b1_s hG
  refine wq_ci (v := v2) (B := wq_tr) (va_runV (As := [.int a1]) (rest := [.int a2, .int 24]) ⟨hx, hb, hml, hown, hts⟩ (C_X5_gainOf l dC dI cI cJ cZ qa s.heap.size t_tears t_gains t_likings t_settings t_goodbyes t_women a1 v2 g1) (cwV 1 hts gX5_calmerTrust_X5_gainOf rfl rfl rfl hdV_X5_gainOf ⟨Nat.le_of_ble_eq_true rfl, Nat.le_of_ble_eq_true rfl⟩) (wq_ppV hK hP hE hS hA (ci := 5) (q0 := 0) rfl rfl) rfl rfl hl.1 rfl (lv_room (Nat.le_of_ble_eq_true rfl)) dX5_calmerTrust_5 ⟨Nat.zero_le _, Nat.zero_le _⟩) hS hA (fun H locs b3 hk hS => ?_)
  replace hP := wq_kp hP hk
  clear hk
  refine lv_iadd hx hb dX5_calmerTrust_8 ?_
  refine va_mmin (x := 24) (y := (a2 + v2)) hx hb (hml.trans hl.1.symm) hown k1 k2 k3 k4 (Nat.le_of_ble_eq_true rfl) (Nat.le_of_ble_eq_true rfl) (Nat.zero_le _) (Nat.zero_le _) dX5_calmerTrust_9 ?_
  exact W.iret (v := (if (a2 + v2) < 24 then (a2 + v2) else 24)) hx hb hr (fun t ht hW => ⟨⟨(if (a2 + v2) < 24 then (a2 + v2) else 24), (), rfl, ⟨Option.some.inj hG, trivial⟩, trivial⟩, hS.F ht⟩) hS.2.2 dX5_calmerTrust_12

def gX5_isWild (t_settings : Nat → Int32) (a1 : Int32) : Option (Int32) :=
    wq_b1 (gX5_setting t_settings 2) (fun v2 =>
    if a1 < v2 then
    some 0
    else
    some 1)
theorem hdV_X5_isWild : yX5_isWild.cls = RX5 ∧ yX5_isWild.cls ≠ "java/lang/invoke/MethodHandle" ∧ yX5_isWild.cls ≠ "java/lang/invoke/VarHandle" ∧ (parseMethodDescriptor yX5_isWild.desc).map (fun d => d.parameters.length) = some 1 := by decide +kernel
set_option maxHeartbeats 4000000 in
set_option maxRecDepth 100000 in
theorem C_X5_isWild (l : Launch) (dC : Nat → ClassId) (dI : Nat → Nat → Nat) (cI cJ cZ : ClassId) (qa : Nat → Nat) (sz : Nat) (t_tears : Nat → Int32) (t_gains : Nat → Int32) (t_likings : Nat → Int32) (t_settings : Nat → Int32) (t_goodbyes : Int32) (t_women : Int32) (a1 : Int32) (r0 : Int32) (hG : gX5_isWild t_settings a1 = some r0) : Met l yX5_isWild wsX5_isWild ({ frames := 1, cells := 0, slots := 0, locals := 21 } : Room) (va_Pc [.ref (qa 16), .int a1] (wq_pp (dC, dI) [(cI, .int), (cJ, .long), (cZ, .boolean)] (wcT qa cI cJ cZ t_tears t_gains t_likings t_settings t_goodbyes t_women) sz)) (wq_Qi r0 wq_Z1 (va_A [] sz)) 0 0 (va_A [] sz) := by
  refine Met.ofW (cc := cX5_isWild) (maxL := 2) (ret := (some .boolean)) (by decide) rfl ?_
  intro p e s m args below meth c s₁ B hml hv
  obtain ⟨rfl, hsz, hP, hK, hE⟩ := hv
  have hx := B.exec
  have hb := B.bytes
  have hr := B.returns
  have hts := atoms_spec (ws := wsX5_isWild) B.pre
  have hown : s.vm.findClass RX5 = some m.cls := findClass_of_methodNamed B.named
  have hlocks := B.notSynchronized
  subst hsz
  generalize hAe : va_A [] s.heap.size = A at hE ⊢
  have hA : ∀ q : Nat, s.heap.size ≤ q → A q := fun q h => by rw [← hAe]; exact Or.inr h
  have hS : va_S A s.heap s.heap [] := va_S.rf
  have hl := lv_entry ([.ref (qa 16), .int a1]) (n := 2) (Nat.le_of_ble_eq_true rfl)
  rw [lg_entry_eq]
  generalize (lg_sl ([.ref (qa 16), .int a1]) ++ List.replicate (2 - (lg_sl ([.ref (qa 16), .int a1])).length) Slot.unset).toArray = ls at hl ⊢
  have hl : lv_has ls 2 [(0, .ref (qa 16)), (1, .int a1)] := hl
  unfold gX5_isWild at hG
  refine lv_iload_n hx hb dX5_isWild_0 rfl (lv_at hl 1 rfl) ?_
  refine lv_aload_n hx hb dX5_isWild_1 rfl (lv_at hl 0 rfl) ?_
  refine lv_iconst (v := 2) hx hb dX5_isWild_2 (by decide) ?_
  obtain ⟨v2, g1, hG⟩ := wq_b1_s hG
  refine wq_ci (v := v2) (B := wq_tr) (va_runV (As := [.int 2]) (rest := [.int a1]) ⟨hx, hb, hml, hown, hts⟩ (C_X5_setting l dC dI cI cJ cZ qa s.heap.size t_tears t_gains t_likings t_settings t_goodbyes t_women 2 v2 g1) (cwV 1 hts gX5_isWild_X5_setting rfl rfl rfl hdV_X5_setting ⟨Nat.le_of_ble_eq_true rfl, Nat.le_of_ble_eq_true rfl⟩) (wq_ppV hK hP hE hS hA (ci := 5) (q0 := 0) rfl rfl) rfl rfl hl.1 rfl (lv_room (Nat.le_of_ble_eq_true rfl)) dX5_isWild_3 ⟨Nat.zero_le _, Nat.zero_le _⟩) hS hA (fun H locs b3 hk hS => ?_)
  replace hP := wq_kp hP hk
  clear hk
  refine lv_icmp_lt (tgt := 13) hx hb dX5_isWild_6 (by decide) (fun c4 => ?_) (fun c4 => ?_)
  · replace hG := wq_t c4 hG
    refine lv_iconst (v := 0) hx hb dX5_isWild_13 (by decide) ?_
    exact W.zret (v := 0) hx hb hr (wq_Z1_n (Or.inl rfl)) (fun t ht hW => ⟨⟨0, (), rfl, ⟨Option.some.inj hG, (Or.inl rfl)⟩, trivial⟩, hS.F ht⟩) hS.2.2 dX5_isWild_14
  · replace hG := wq_f c4 hG
    refine lv_iconst (v := 1) hx hb dX5_isWild_9 (by decide) ?_
    refine lv_goto (tgt := 14) hx hb dX5_isWild_10 (by decide) ?_
    exact W.zret (v := 1) hx hb hr (wq_Z1_n (Or.inr rfl)) (fun t ht hW => ⟨⟨1, (), rfl, ⟨Option.some.inj hG, (Or.inr rfl)⟩, trivial⟩, hS.F ht⟩) hS.2.2 dX5_isWild_14

def gX5_trustAfter (t_gains : Nat → Int32) (t_settings : Nat → Int32) (t_goodbyes : Int32) (a1 : Int32) (a2 : Int32) (a3 : Int32) : Option (Int32) :=
    wq_b1 (gX5_isCalm t_settings a3) (fun v2 =>
    if v2 = 0 then
    wq_b1 (gX5_isWild t_settings a3) (fun v6 =>
    if v6 = 0 then
    some a2
    else
    some (if 0 < (a2 - 2) then (a2 - 2) else 0))
    else
    wq_b1 (gX5_calmerTrust t_gains t_goodbyes a1 a2) (fun v10 =>
    some v10))
theorem hdV_X5_trustAfter : yX5_trustAfter.cls = RX5 ∧ yX5_trustAfter.cls ≠ "java/lang/invoke/MethodHandle" ∧ yX5_trustAfter.cls ≠ "java/lang/invoke/VarHandle" ∧ (parseMethodDescriptor yX5_trustAfter.desc).map (fun d => d.parameters.length) = some 3 := by decide +kernel
set_option maxHeartbeats 4000000 in
set_option maxRecDepth 100000 in
theorem C_X5_trustAfter (l : Launch) (dC : Nat → ClassId) (dI : Nat → Nat → Nat) (cI cJ cZ : ClassId) (qa : Nat → Nat) (sz : Nat) (t_tears : Nat → Int32) (t_gains : Nat → Int32) (t_likings : Nat → Int32) (t_settings : Nat → Int32) (t_goodbyes : Int32) (t_women : Int32) (a1 : Int32) (a2 : Int32) (a3 : Int32) (r0 : Int32) (hG : gX5_trustAfter t_gains t_settings t_goodbyes a1 a2 a3 = some r0) : Met l yX5_trustAfter wsX5_trustAfter ({ frames := 3, cells := 0, slots := 0, locals := 64 } : Room) (va_Pc [.ref (qa 16), .int a1, .int a2, .int a3] (wq_pp (dC, dI) [(cI, .int), (cJ, .long), (cZ, .boolean)] (wcT qa cI cJ cZ t_tears t_gains t_likings t_settings t_goodbyes t_women) sz)) (wq_Qi r0 wq_tr (va_A [] sz)) 0 0 (va_A [] sz) := by
  refine Met.ofW (cc := cX5_trustAfter) (maxL := 4) (ret := (some .int)) (by decide) rfl ?_
  intro p e s m args below meth c s₁ B hml hv
  obtain ⟨rfl, hsz, hP, hK, hE⟩ := hv
  have hx := B.exec
  have hb := B.bytes
  have hr := B.returns
  have hts := atoms_spec (ws := wsX5_trustAfter) B.pre
  have hown : s.vm.findClass RX5 = some m.cls := findClass_of_methodNamed B.named
  have hlocks := B.notSynchronized
  subst hsz
  generalize hAe : va_A [] s.heap.size = A at hE ⊢
  have hA : ∀ q : Nat, s.heap.size ≤ q → A q := fun q h => by rw [← hAe]; exact Or.inr h
  have hS : va_S A s.heap s.heap [] := va_S.rf
  have k1 := hts (.methodLink RX5 69 Lib.Math.max.name) (by decide +kernel)
  have k2 := hts (.static Lib.Math.max.name) (by decide +kernel)
  have k3 := hts (.initialized "java/lang/Math") (by decide +kernel)
  have k4 := hts (.code Lib.Math.max.name Lib.Math.max.code 2 (some .int)) (by decide +kernel)
  have hl := lv_entry ([.ref (qa 16), .int a1, .int a2, .int a3]) (n := 4) (Nat.le_of_ble_eq_true rfl)
  rw [lg_entry_eq]
  generalize (lg_sl ([.ref (qa 16), .int a1, .int a2, .int a3]) ++ List.replicate (4 - (lg_sl ([.ref (qa 16), .int a1, .int a2, .int a3])).length) Slot.unset).toArray = ls at hl ⊢
  have hl : lv_has ls 4 [(0, .ref (qa 16)), (1, .int a1), (2, .int a2), (3, .int a3)] := hl
  unfold gX5_trustAfter at hG
  refine lv_aload_n hx hb dX5_trustAfter_0 rfl (lv_at hl 0 rfl) ?_
  refine lv_iload_n hx hb dX5_trustAfter_1 rfl (lv_at hl 3 rfl) ?_
  obtain ⟨v2, g1, hG⟩ := wq_b1_s hG
  refine wq_ci (v := v2) (B := wq_Z1) (va_runV (As := [.int a3]) (rest := []) ⟨hx, hb, hml, hown, hts⟩ (C_X5_isCalm l dC dI cI cJ cZ qa s.heap.size t_tears t_gains t_likings t_settings t_goodbyes t_women a3 v2 g1) (cwV 1 hts gX5_trustAfter_X5_isCalm rfl rfl rfl hdV_X5_isCalm ⟨Nat.le_of_ble_eq_true rfl, Nat.le_of_ble_eq_true rfl⟩) (wq_ppV hK hP hE hS hA (ci := 5) (q0 := 0) rfl rfl) rfl rfl hl.1 rfl (lv_room (Nat.le_of_ble_eq_true rfl)) dX5_trustAfter_2 ⟨Nat.zero_le _, Nat.zero_le _⟩) hS hA (fun H locs b3 hk hS => ?_)
  replace hP := wq_kp hP hk
  clear hk
  refine lv_if_eq (tgt := 15) hx hb dX5_trustAfter_5 (by decide) (fun c4 => ?_) (fun c4 => ?_)
  · replace hG := wq_t c4 hG
    refine lv_aload_n hx hb dX5_trustAfter_15 rfl (lv_at hl 0 rfl) ?_
    refine lv_iload_n hx hb dX5_trustAfter_16 rfl (lv_at hl 3 rfl) ?_
    obtain ⟨v6, g5, hG⟩ := wq_b1_s hG
    refine wq_ci (v := v6) (B := wq_Z1) (va_runV (As := [.int a3]) (rest := []) ⟨hx, hb, hml, hown, hts⟩ (C_X5_isWild l dC dI cI cJ cZ qa H.size t_tears t_gains t_likings t_settings t_goodbyes t_women a3 v6 g5) (cwV 1 hts gX5_trustAfter_X5_isWild rfl rfl rfl hdV_X5_isWild ⟨Nat.le_of_ble_eq_true rfl, Nat.le_of_ble_eq_true rfl⟩) (wq_ppV hK hP hE hS hA (ci := 5) (q0 := 0) rfl rfl) rfl rfl hl.1 rfl (lv_room (Nat.le_of_ble_eq_true rfl)) dX5_trustAfter_17 ⟨Nat.zero_le _, Nat.zero_le _⟩) hS hA (fun H locs b7 hk hS => ?_)
    replace hP := wq_kp hP hk
    clear hk
    refine lv_if_eq (tgt := 33) hx hb dX5_trustAfter_20 (by decide) (fun c8 => ?_) (fun c8 => ?_)
    · replace hG := wq_t c8 hG
      refine lv_iload_n hx hb dX5_trustAfter_33 rfl (lv_at hl 2 rfl) ?_
      exact W.iret (v := a2) hx hb hr (fun t ht hW => ⟨⟨a2, (), rfl, ⟨Option.some.inj hG, trivial⟩, trivial⟩, hS.F ht⟩) hS.2.2 dX5_trustAfter_34
    · replace hG := wq_f c8 hG
      refine lv_iconst (v := 0) hx hb dX5_trustAfter_23 (by decide) ?_
      refine lv_iload_n hx hb dX5_trustAfter_24 rfl (lv_at hl 2 rfl) ?_
      refine lv_iconst (v := 2) hx hb dX5_trustAfter_25 (by decide) ?_
      refine lv_isub hx hb dX5_trustAfter_26 ?_
      refine va_mmax (x := 0) (y := (a2 - 2)) hx hb (hml.trans hl.1.symm) hown k1 k2 k3 k4 (Nat.le_of_ble_eq_true rfl) (Nat.le_of_ble_eq_true rfl) (Nat.zero_le _) (Nat.zero_le _) dX5_trustAfter_27 ?_
      refine lv_goto (tgt := 34) hx hb dX5_trustAfter_30 (by decide) ?_
      exact W.iret (v := (if 0 < (a2 - 2) then (a2 - 2) else 0)) hx hb hr (fun t ht hW => ⟨⟨(if 0 < (a2 - 2) then (a2 - 2) else 0), (), rfl, ⟨Option.some.inj hG, trivial⟩, trivial⟩, hS.F ht⟩) hS.2.2 dX5_trustAfter_34
  · replace hG := wq_f c4 hG
    refine lv_aload_n hx hb dX5_trustAfter_8 rfl (lv_at hl 0 rfl) ?_
    refine lv_iload_n hx hb dX5_trustAfter_9 rfl (lv_at hl 1 rfl) ?_
    refine lv_iload_n hx hb dX5_trustAfter_10 rfl (lv_at hl 2 rfl) ?_
    obtain ⟨v10, g9, hG⟩ := wq_b1_s hG
    refine wq_ci (v := v10) (B := wq_tr) (va_runV (As := [.int a1, .int a2]) (rest := []) ⟨hx, hb, hml, hown, hts⟩ (C_X5_calmerTrust l dC dI cI cJ cZ qa H.size t_tears t_gains t_likings t_settings t_goodbyes t_women a1 a2 v10 g9) (cwV 2 hts gX5_trustAfter_X5_calmerTrust rfl rfl rfl hdV_X5_calmerTrust ⟨Nat.le_of_ble_eq_true rfl, Nat.le_of_ble_eq_true rfl⟩) (wq_ppV hK hP hE hS hA (ci := 5) (q0 := 0) rfl rfl) rfl rfl hl.1 rfl (lv_room (Nat.le_of_ble_eq_true rfl)) dX5_trustAfter_11 ⟨Nat.zero_le _, Nat.zero_le _⟩) hS hA (fun H locs b11 hk hS => ?_)
    replace hP := wq_kp hP hk
    clear hk
    exact W.iret (v := v10) hx hb hr (fun t ht hW => ⟨⟨v10, (), rfl, ⟨Option.some.inj hG, trivial⟩, trivial⟩, hS.F ht⟩) hS.2.2 dX5_trustAfter_14

def gX5_calmerLiking (a1 : Int32) : Option (Int32) :=
    some (if (a1 + 1) < 9 then (a1 + 1) else 9)
theorem hdV_X5_calmerLiking : yX5_calmerLiking.cls = RX5 ∧ yX5_calmerLiking.cls ≠ "java/lang/invoke/MethodHandle" ∧ yX5_calmerLiking.cls ≠ "java/lang/invoke/VarHandle" ∧ (parseMethodDescriptor yX5_calmerLiking.desc).map (fun d => d.parameters.length) = some 1 := by decide +kernel
set_option maxHeartbeats 4000000 in
set_option maxRecDepth 100000 in
theorem C_X5_calmerLiking (l : Launch) (dC : Nat → ClassId) (dI : Nat → Nat → Nat) (cI cJ cZ : ClassId) (qa : Nat → Nat) (sz : Nat) (t_tears : Nat → Int32) (t_gains : Nat → Int32) (t_likings : Nat → Int32) (t_settings : Nat → Int32) (t_goodbyes : Int32) (t_women : Int32) (a1 : Int32) (r0 : Int32) (hG : gX5_calmerLiking a1 = some r0) : Met l yX5_calmerLiking wsX5_calmerLiking ({ frames := 1, cells := 0, slots := 0, locals := 21 } : Room) (va_Pc [.ref (qa 16), .int a1] (wq_pp (dC, dI) [(cI, .int), (cJ, .long), (cZ, .boolean)] (wcT qa cI cJ cZ t_tears t_gains t_likings t_settings t_goodbyes t_women) sz)) (wq_Qi r0 wq_tr (va_A [] sz)) 0 0 (va_A [] sz) := by
  refine Met.ofW (cc := cX5_calmerLiking) (maxL := 2) (ret := (some .int)) (by decide) rfl ?_
  intro p e s m args below meth c s₁ B hml hv
  obtain ⟨rfl, hsz, hP, hK, hE⟩ := hv
  have hx := B.exec
  have hb := B.bytes
  have hr := B.returns
  have hts := atoms_spec (ws := wsX5_calmerLiking) B.pre
  have hown : s.vm.findClass RX5 = some m.cls := findClass_of_methodNamed B.named
  have hlocks := B.notSynchronized
  subst hsz
  generalize hAe : va_A [] s.heap.size = A at hE ⊢
  have hA : ∀ q : Nat, s.heap.size ≤ q → A q := fun q h => by rw [← hAe]; exact Or.inr h
  have hS : va_S A s.heap s.heap [] := va_S.rf
  have k1 := hts (.methodLink RX5 80 Lib.Math.min.name) (by decide +kernel)
  have k2 := hts (.static Lib.Math.min.name) (by decide +kernel)
  have k3 := hts (.initialized "java/lang/Math") (by decide +kernel)
  have k4 := hts (.code Lib.Math.min.name Lib.Math.min.code 2 (some .int)) (by decide +kernel)
  have hl := lv_entry ([.ref (qa 16), .int a1]) (n := 2) (Nat.le_of_ble_eq_true rfl)
  rw [lg_entry_eq]
  generalize (lg_sl ([.ref (qa 16), .int a1]) ++ List.replicate (2 - (lg_sl ([.ref (qa 16), .int a1])).length) Slot.unset).toArray = ls at hl ⊢
  have hl : lv_has ls 2 [(0, .ref (qa 16)), (1, .int a1)] := hl
  unfold gX5_calmerLiking at hG
  refine lv_bipush (v := 9) hx hb dX5_calmerLiking_0 (by decide) ?_
  refine lv_iload_n hx hb dX5_calmerLiking_2 rfl (lv_at hl 1 rfl) ?_
  refine lv_iconst (v := 1) hx hb dX5_calmerLiking_3 (by decide) ?_
  refine lv_iadd hx hb dX5_calmerLiking_4 ?_
  refine va_mmin (x := 9) (y := (a1 + 1)) hx hb (hml.trans hl.1.symm) hown k1 k2 k3 k4 (Nat.le_of_ble_eq_true rfl) (Nat.le_of_ble_eq_true rfl) (Nat.zero_le _) (Nat.zero_le _) dX5_calmerLiking_5 ?_
  exact W.iret (v := (if (a1 + 1) < 9 then (a1 + 1) else 9)) hx hb hr (fun t ht hW => ⟨⟨(if (a1 + 1) < 9 then (a1 + 1) else 9), (), rfl, ⟨Option.some.inj hG, trivial⟩, trivial⟩, hS.F ht⟩) hS.2.2 dX5_calmerLiking_8

