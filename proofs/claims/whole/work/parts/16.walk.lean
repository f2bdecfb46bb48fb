theorem hdV_X6_home : yX6_home.cls = RX6 ∧ yX6_home.cls ≠ "java/lang/invoke/MethodHandle" ∧ yX6_home.cls ≠ "java/lang/invoke/VarHandle" ∧ (parseMethodDescriptor yX6_home.desc).map (fun d => d.parameters.length) = some 1 := by decide +kernel
set_option maxHeartbeats 4000000 in
set_option maxRecDepth 100000 in
theorem C_X6_home (l : Launch) (dC : Nat → ClassId) (dI : Nat → Nat → Nat) (cI cJ cZ : ClassId) (qa : Nat → Nat) (sz : Nat) (r_images : Nat → Int64) (r_asked : Int64) (n_likings : Nat → Int32) (n_day : Int32) (n_trust : Int32) (n_ill : Int32) (n_done : Int32) (p_befores : Nat → Int64) (p_known : Int32) (a1 : Int32) (r0 : Int32) (r_n_day : Int32) (r_n_trust : Int32) (r_p_befores : Nat → Int64) (r_p_known : Int32) (hG : gX6_home n_likings n_day n_trust n_ill n_done p_befores p_known a1 = some (r0, r_n_day, r_n_trust, r_p_befores, r_p_known)) : Met l yX6_home wsX6_home ({ frames := 2, cells := 0, slots := 0, locals := 43 } : Room) (va_Pc [.ref (qa 0), .int a1] (wq_pw (dC, dI) [(cI, .int), (cJ, .long), (cZ, .boolean)] (wcRNP qa cI cJ cZ r_images r_asked n_likings n_day n_trust n_ill n_done p_befores p_known) sz)) (wq_Wi (dC, dI) r0 wq_tr (wcRNP qa cI cJ cZ r_images r_asked n_likings r_n_day r_n_trust n_ill n_done r_p_befores r_p_known) (va_A (wcRNP qa cI cJ cZ r_images r_asked n_likings n_day n_trust n_ill n_done p_befores p_known) sz)) 0 0 (va_A (wcRNP qa cI cJ cZ r_images r_asked n_likings n_day n_trust n_ill n_done p_befores p_known) sz) := by
  refine Met.ofW (cc := cX6_home) (maxL := 2) (ret := (some .int)) (by decide) rfl ?_
  intro p e s m args below meth c s₁ B hml hv
  obtain ⟨rfl, hsz, hP, hK, hD0, hE⟩ := hv
  have hx := B.exec
  have hb := B.bytes
  have hr := B.returns
  have hts := atoms_spec (ws := wsX6_home) B.pre
  have hown : s.vm.findClass RX6 = some m.cls := findClass_of_methodNamed B.named
  have hlocks := B.notSynchronized
  subst hsz
  have hD := hD0.self (sz := s.heap.size)
  generalize hAe : va_A (wcRNP qa cI cJ cZ r_images r_asked n_likings n_day n_trust n_ill n_done p_befores p_known) s.heap.size = A at hD hE ⊢
  have hA : ∀ q : Nat, s.heap.size ≤ q → A q := fun q h => by rw [← hAe]; exact Or.inr h
  have hS : va_S A s.heap s.heap [] := va_S.rf
  have hinX6 : ∀ w ∈ u_ws RX6 TX6 9, w ∈ wsX6_home := by decide +kernel
  have hinX0 : ∀ w ∈ u_ws RX0 TX0 5, w ∈ wsX6_home := by decide +kernel
  have k1 := hts (.fieldLink RX6 19 "DoorMornings" "today" "LDoorMornings$Now;") (by decide +kernel)
  have k2 := hts (.fieldLink RX6 109 "DoorMornings$Now" "day" "I") (by decide +kernel)
  have k3 := hts (.fieldLink RX6 26 "DoorMornings" "past" "LDoorMornings$Past;") (by decide +kernel)
  have k4 := hts (.fieldLink RX6 113 "DoorMornings$Now" "trust" "I") (by decide +kernel)
  have k5 := hts (.methodLink RX6 160 Lib.Math.max.name) (by decide +kernel)
  have k6 := hts (.static Lib.Math.max.name) (by decide +kernel)
  have k7 := hts (.initialized "java/lang/Math") (by decide +kernel)
  have k8 := hts (.code Lib.Math.max.name Lib.Math.max.code 2 (some .int)) (by decide +kernel)
  have hl := lv_entry ([.ref (qa 0), .int a1]) (n := 2) (Nat.le_of_ble_eq_true rfl)
  rw [lg_entry_eq]
  generalize (lg_sl ([.ref (qa 0), .int a1]) ++ List.replicate (2 - (lg_sl ([.ref (qa 0), .int a1])).length) Slot.unset).toArray = ls at hl ⊢
  have hl : lv_has ls 2 [(0, .ref (qa 0)), (1, .int a1)] := hl
  unfold gX6_home at hG
  refine lv_iload_n hx hb dX6_home_0 rfl (lv_at hl 1 rfl) ?_
  refine lv_iconst (v := 1) hx hb dX6_home_1 (by decide) ?_
  refine lv_icmp_lt (tgt := 11) hx hb dX6_home_2 (by decide) (fun c1 => ?_) (fun c1 => ?_)
  · replace hG := wq_t c1 hG
    refine lv_iconst (v := (-1)) hx hb dX6_home_11 (by decide) ?_
    obtain ⟨e0, e1, e2, e3, e4⟩ := wq_j5 hG
    subst e0
    subst e1
    subst e2
    subst e3
    subst e4
    exact W.iret hx hb hr (fun t ht hW => ⟨⟨_, (), rfl, ⟨rfl, trivial⟩, by rw [ht]; exact hP, hD⟩, hS.F ht⟩) hS.2.2 dX6_home_12
  · replace hG := wq_f c1 hG
    refine lv_iload_n hx hb dX6_home_5 rfl (lv_at hl 1 rfl) ?_
    refine lv_bipush (v := 9) hx hb dX6_home_6 (by decide) ?_
    refine lv_icmp_le (tgt := 13) hx hb dX6_home_8 (by decide) (fun c2 => ?_) (fun c2 => ?_)
    · replace hG := wq_t c2 hG
      refine lv_aload_n hx hb dX6_home_13 rfl (lv_at hl 0 rfl) ?_
      refine va_get (D := (dC, dI)) (ci := 6) (v := .ref (qa 3)) (C := RX6) (T := TX6) (N := 9) hx hb hts hinX6 hown hK hP 0 rfl rfl 1 (by decide) k1 (fun _ h9 => h9) rfl dX6_home_14 ?_
      refine va_get (D := (dC, dI)) (ci := 0) (v := .int n_day) (C := RX0) (T := TX0) (N := 5) hx hb hts hinX0 hown hK hP 2 rfl rfl 1 (by decide) k2 (fun _ h9 => h9) rfl dX6_home_17 ?_
      refine lv_iload_n hx hb dX6_home_20 rfl (lv_at hl 1 rfl) ?_
      refine lv_iadd hx hb dX6_home_21 ?_
      refine lv_sipush (v := 999) hx hb dX6_home_22 (by decide) ?_
      refine lv_icmp_le (tgt := 31) hx hb dX6_home_25 (by decide) (fun c3 => ?_) (fun c3 => ?_)
      · replace hG := wq_t c3 hG
        refine lv_aload_n hx hb dX6_home_31 rfl (lv_at hl 0 rfl) ?_
        refine va_get (D := (dC, dI)) (ci := 6) (v := .ref (qa 5)) (C := RX6) (T := TX6) (N := 9) hx hb hts hinX6 hown hK hP 0 rfl rfl 2 (by decide) k3 (fun _ h9 => h9) rfl dX6_home_32 ?_
        refine lv_aload_n hx hb dX6_home_35 rfl (lv_at hl 0 rfl) ?_
        refine va_get (D := (dC, dI)) (ci := 6) (v := .ref (qa 3)) (C := RX6) (T := TX6) (N := 9) hx hb hts hinX6 hown hK hP 0 rfl rfl 1 (by decide) k1 (fun _ h9 => h9) rfl dX6_home_36 ?_
        obtain ⟨v5, g4, hG⟩ := wq_b1_s hG
        refine wq_cl (v := v5) (va_runV (As := []) (rest := [.ref (qa 5)]) ⟨hx, hb, hml, hown, hts⟩ (C_X0_folded l dC dI cI cJ cZ qa s.heap.size n_likings n_day n_trust n_ill n_done  v5 g4) (cwV 0 hts gX6_home_X0_folded rfl rfl rfl hdV_X0_folded ⟨Nat.le_of_ble_eq_true rfl, Nat.le_of_ble_eq_true rfl⟩) (wq_ppV hK (hP.sub (ws' := wcN qa cI cJ cZ n_likings n_day n_trust n_ill n_done) [2, 3] rfl) hE hS hA (ci := 0) (q0 := 0) rfl rfl) rfl rfl hl.1 rfl (lv_room (Nat.le_of_ble_eq_true rfl)) dX6_home_39 ⟨Nat.zero_le _, Nat.zero_le _⟩) hS hA (fun H locs hk hS => ?_)
        replace hP := wq_kp hP hk
        clear hk
        obtain ⟨w7, w8, g6, hG⟩ := wq_b2_s hG
        have hFc := va_free (wc := wcP qa cI cJ cZ p_befores p_known) hD hS hA [4, 5] rfl
        refine wq_dv (D := (dC, dI)) (wr := wcRN qa cI cJ cZ r_images r_asked n_likings n_day n_trust n_ill n_done) (w1 := wcP qa cI cJ cZ w7 w8) (w2 := wcRNP qa cI cJ cZ r_images r_asked n_likings n_day n_trust n_ill n_done w7 w8) (va_runV (As := [.long v5]) (rest := []) ⟨hx, hb, hml, hown, hts⟩ (C_X2_add l dC dI cI cJ cZ qa H.size p_befores p_known v5 w7 w8 g6) (cwV 1 hts gX6_home_X2_add rfl rfl rfl hdV_X2_add ⟨Nat.le_of_ble_eq_true rfl, Nat.le_of_ble_eq_true rfl⟩) (wq_pwV hK (hP.sub (ws' := wcP qa cI cJ cZ p_befores p_known) [4, 5] rfl) (hD.sub (ws' := wcP qa cI cJ cZ p_befores p_known) [4, 5] (by decide) rfl) hE hS hFc (ci := 2) (q0 := 0) rfl rfl) rfl rfl hl.1 rfl (lv_room (Nat.le_of_ble_eq_true rfl)) dX6_home_42 ⟨Nat.zero_le _, Nat.zero_le _⟩) hP hD hS hFc [4, 5] [0, 1, 2, 3] [0, 1, 2, 3, 4, 5] rfl rfl (by decide) (by decide) (by decide) rfl (fun H locs hP hD hS => ?_)
        clear hFc
        refine lv_aload_n hx hb dX6_home_45 rfl (lv_at hl 0 rfl) ?_
        refine va_get (D := (dC, dI)) (ci := 6) (v := .ref (qa 3)) (C := RX6) (T := TX6) (N := 9) hx hb hts hinX6 hown hK hP 0 rfl rfl 1 (by decide) k1 (fun _ h9 => h9) rfl dX6_home_46 ?_
        refine lv_dup hx hb dX6_home_49 rfl ?_
        refine va_get (D := (dC, dI)) (ci := 0) (v := .int n_day) (C := RX0) (T := TX0) (N := 5) hx hb hts hinX0 hown hK hP 2 rfl rfl 1 (by decide) k2 (fun _ h9 => h9) rfl dX6_home_50 ?_
        refine lv_iload_n hx hb dX6_home_53 rfl (lv_at hl 1 rfl) ?_
        refine lv_iadd hx hb dX6_home_54 ?_
        refine va_put (D := (dC, dI)) (ci := 0) (v := .int (n_day + a1)) (ty := tyX0 1) (C := RX0) (T := TX0) (N := 5) hx hb hts hinX0 tyX0 tyX0_ok nmX0 hown hK hP hD hS 2 rfl rfl 1 (by decide) k2 (fun _ h9 => h9) rfl (tyX0_ok 1 (by decide)) rfl rfl (Nat.le_of_ble_eq_true rfl) dX6_home_55 (fun H locs hP hD hS => ?_)
        replace hP : va_P (dC, dI) vwCl (wcRNP qa cI cJ cZ r_images r_asked n_likings (n_day + a1) n_trust n_ill n_done w7 w8) H := hP
        replace hD : va_D A (wcRNP qa cI cJ cZ r_images r_asked n_likings (n_day + a1) n_trust n_ill n_done w7 w8) := hD
        refine lv_aload_n hx hb dX6_home_58 rfl (lv_at hl 0 rfl) ?_
        refine va_get (D := (dC, dI)) (ci := 6) (v := .ref (qa 3)) (C := RX6) (T := TX6) (N := 9) hx hb hts hinX6 hown hK hP 0 rfl rfl 1 (by decide) k1 (fun _ h9 => h9) rfl dX6_home_59 ?_
        refine lv_iconst (v := 0) hx hb dX6_home_62 (by decide) ?_
        refine lv_aload_n hx hb dX6_home_63 rfl (lv_at hl 0 rfl) ?_
        refine va_get (D := (dC, dI)) (ci := 6) (v := .ref (qa 3)) (C := RX6) (T := TX6) (N := 9) hx hb hts hinX6 hown hK hP 0 rfl rfl 1 (by decide) k1 (fun _ h9 => h9) rfl dX6_home_64 ?_
        refine va_get (D := (dC, dI)) (ci := 0) (v := .int n_trust) (C := RX0) (T := TX0) (N := 5) hx hb hts hinX0 hown hK hP 2 rfl rfl 2 (by decide) k4 (fun _ h9 => h9) rfl dX6_home_67 ?_
        refine lv_iload_n hx hb dX6_home_70 rfl (lv_at hl 1 rfl) ?_
        refine lv_isub hx hb dX6_home_71 ?_
        refine va_mmax (x := 0) (y := (n_trust - a1)) hx hb (hml.trans hl.1.symm) hown k5 k6 k7 k8 (Nat.le_of_ble_eq_true rfl) (Nat.le_of_ble_eq_true rfl) (Nat.zero_le _) (Nat.zero_le _) dX6_home_72 ?_
        refine va_put (D := (dC, dI)) (ci := 0) (v := .int (if 0 < (n_trust - a1) then (n_trust - a1) else 0)) (ty := tyX0 2) (C := RX0) (T := TX0) (N := 5) hx hb hts hinX0 tyX0 tyX0_ok nmX0 hown hK hP hD hS 2 rfl rfl 2 (by decide) k4 (fun _ h9 => h9) rfl (tyX0_ok 2 (by decide)) rfl rfl (Nat.le_of_ble_eq_true rfl) dX6_home_75 (fun H locs hP hD hS => ?_)
        replace hP : va_P (dC, dI) vwCl (wcRNP qa cI cJ cZ r_images r_asked n_likings (n_day + a1) (if 0 < (n_trust - a1) then (n_trust - a1) else 0) n_ill n_done w7 w8) H := hP
        replace hD : va_D A (wcRNP qa cI cJ cZ r_images r_asked n_likings (n_day + a1) (if 0 < (n_trust - a1) then (n_trust - a1) else 0) n_ill n_done w7 w8) := hD
        refine lv_aload_n hx hb dX6_home_78 rfl (lv_at hl 0 rfl) ?_
        refine va_get (D := (dC, dI)) (ci := 6) (v := .ref (qa 3)) (C := RX6) (T := TX6) (N := 9) hx hb hts hinX6 hown hK hP 0 rfl rfl 1 (by decide) k1 (fun _ h9 => h9) rfl dX6_home_79 ?_
        refine va_get (D := (dC, dI)) (ci := 0) (v := .int (if 0 < (n_trust - a1) then (n_trust - a1) else 0)) (C := RX0) (T := TX0) (N := 5) hx hb hts hinX0 hown hK hP 2 rfl rfl 2 (by decide) k4 (fun _ h9 => h9) rfl dX6_home_82 ?_
        obtain ⟨e0, e1, e2, e3, e4⟩ := wq_j5 hG
        subst e0
        subst e1
        subst e2
        subst e3
        subst e4
        exact W.iret hx hb hr (fun t ht hW => ⟨⟨_, (), rfl, ⟨rfl, trivial⟩, by rw [ht]; exact hP, hD⟩, hS.F ht⟩) hS.2.2 dX6_home_85
      · replace hG := wq_f c3 hG
        refine lv_bipush (v := (-2)) hx hb dX6_home_28 (by decide) ?_
        obtain ⟨e0, e1, e2, e3, e4⟩ := wq_j5 hG
        subst e0
        subst e1
        subst e2
        subst e3
        subst e4
        exact W.iret hx hb hr (fun t ht hW => ⟨⟨_, (), rfl, ⟨rfl, trivial⟩, by rw [ht]; exact hP, hD⟩, hS.F ht⟩) hS.2.2 dX6_home_30
    · replace hG := wq_f c2 hG
      refine lv_iconst (v := (-1)) hx hb dX6_home_11 (by decide) ?_
      obtain ⟨e0, e1, e2, e3, e4⟩ := wq_j5 hG
      subst e0
      subst e1
      subst e2
      subst e3
      subst e4
      exact W.iret hx hb hr (fun t ht hW => ⟨⟨_, (), rfl, ⟨rfl, trivial⟩, by rw [ht]; exact hP, hD⟩, hS.F ht⟩) hS.2.2 dX6_home_12

theorem hdS_J6_bitCount_0f7a4 : yJ6_bitCount_0f7a4.cls ≠ "java/lang/invoke/MethodHandle" ∧ yJ6_bitCount_0f7a4.cls ≠ "java/lang/invoke/VarHandle" ∧ (parseMethodDescriptor yJ6_bitCount_0f7a4.desc).map (fun d => d.parameters.length) = some 1 := by decide +kernel
set_option maxHeartbeats 4000000 in
set_option maxRecDepth 100000 in
theorem C_J6_bitCount_0f7a4 (l : Launch) (dC : Nat → ClassId) (dI : Nat → Nat → Nat) (cI cJ cZ : ClassId) (qa : Nat → Nat) (sz : Nat) (a0 : Int32) (r0 : Int32) (hG : gJ6_bitCount_0f7a4 a0 = some r0) : Met l yJ6_bitCount_0f7a4 wsJ6_bitCount_0f7a4 ({ frames := 0, cells := 0, slots := 0, locals := 0 } : Room) (va_Pc [.int a0] (wq_pp (dC, dI) [(cI, .int), (cJ, .long), (cZ, .boolean)] ([]) sz)) (wq_Qi r0 wq_tr (va_A [] sz)) 0 0 (va_A [] sz) := by
  refine Met.ofW (cc := cJ6_bitCount_0f7a4) (maxL := 1) (ret := (some .int)) (by decide) rfl ?_
  intro p e s m args below meth c s₁ B hml hv
  obtain ⟨rfl, hsz, hP, hK, hE⟩ := hv
  have hx := B.exec
  have hb := B.bytes
  have hr := B.returns
  have hts := atoms_spec (ws := wsJ6_bitCount_0f7a4) B.pre
  have hown : s.vm.findClass RJ6 = some m.cls := findClass_of_methodNamed B.named
  have hlocks := B.notSynchronized
  subst hsz
  generalize hAe : va_A [] s.heap.size = A at hE ⊢
  have hA : ∀ q : Nat, s.heap.size ≤ q → A q := fun q h => by rw [← hAe]; exact Or.inr h
  have hS : va_S A s.heap s.heap [] := va_S.rf
  have k1 := hts (.constant RJ6 265 (1431655765)) (by decide +kernel)
  have k2 := hts (.constant RJ6 266 (858993459)) (by decide +kernel)
  have k3 := hts (.constant RJ6 267 (252645135)) (by decide +kernel)
  have hl := lv_entry ([.int a0]) (n := 1) (Nat.le_of_ble_eq_true rfl)
  rw [lg_entry_eq]
  generalize (lg_sl ([.int a0]) ++ List.replicate (1 - (lg_sl ([.int a0])).length) Slot.unset).toArray = ls at hl ⊢
  have hl : lv_has ls 1 [(0, .int a0)] := hl
  unfold gJ6_bitCount_0f7a4 at hG
  refine lv_iload_n hx hb dJ6_bitCount_0f7a4_0 rfl (lv_at hl 0 rfl) ?_
  refine lv_iload_n hx hb dJ6_bitCount_0f7a4_1 rfl (lv_at hl 0 rfl) ?_
  refine lv_iconst (v := 1) hx hb dJ6_bitCount_0f7a4_2 (by decide) ?_
  refine lv_iushr hx hb dJ6_bitCount_0f7a4_3 rfl ?_
  refine lv_ldcw (v := 1431655765) hx hb hown k1 dJ6_bitCount_0f7a4_4 ?_
  refine lv_iand hx hb dJ6_bitCount_0f7a4_7 ?_
  refine lv_isub hx hb dJ6_bitCount_0f7a4_8 ?_
  refine lv_istore_n (lv' := [(0, .int (a0 - ((Int32.toUInt32 a0 >>> (Int32.toUInt32 1 &&& Int32.toUInt32 31)).toInt32 &&& 1431655765)))]) hx hb dJ6_bitCount_0f7a4_9 rfl hl (by decide) rfl (fun ls hl => ?_)
  refine lv_iload_n hx hb dJ6_bitCount_0f7a4_10 rfl (lv_at hl 0 rfl) ?_
  refine lv_ldcw (v := 858993459) hx hb hown k2 dJ6_bitCount_0f7a4_11 ?_
  refine lv_iand hx hb dJ6_bitCount_0f7a4_14 ?_
  refine lv_iload_n hx hb dJ6_bitCount_0f7a4_15 rfl (lv_at hl 0 rfl) ?_
  refine lv_iconst (v := 2) hx hb dJ6_bitCount_0f7a4_16 (by decide) ?_
  refine lv_iushr hx hb dJ6_bitCount_0f7a4_17 rfl ?_
  refine lv_ldcw (v := 858993459) hx hb hown k2 dJ6_bitCount_0f7a4_18 ?_
  refine lv_iand hx hb dJ6_bitCount_0f7a4_21 ?_
  refine lv_iadd hx hb dJ6_bitCount_0f7a4_22 ?_
  refine lv_istore_n (lv' := [(0, .int (((a0 - ((Int32.toUInt32 a0 >>> (Int32.toUInt32 1 &&& Int32.toUInt32 31)).toInt32 &&& 1431655765)) &&& 858993459) + ((Int32.toUInt32 (a0 - ((Int32.toUInt32 a0 >>> (Int32.toUInt32 1 &&& Int32.toUInt32 31)).toInt32 &&& 1431655765)) >>> (Int32.toUInt32 2 &&& Int32.toUInt32 31)).toInt32 &&& 858993459)))]) hx hb dJ6_bitCount_0f7a4_23 rfl hl (by decide) rfl (fun ls hl => ?_)
  refine lv_iload_n hx hb dJ6_bitCount_0f7a4_24 rfl (lv_at hl 0 rfl) ?_
  refine lv_iload_n hx hb dJ6_bitCount_0f7a4_25 rfl (lv_at hl 0 rfl) ?_
  refine lv_iconst (v := 4) hx hb dJ6_bitCount_0f7a4_26 (by decide) ?_
  refine lv_iushr hx hb dJ6_bitCount_0f7a4_27 rfl ?_
  refine lv_iadd hx hb dJ6_bitCount_0f7a4_28 ?_
  refine lv_ldcw (v := 252645135) hx hb hown k3 dJ6_bitCount_0f7a4_29 ?_
  refine lv_iand hx hb dJ6_bitCount_0f7a4_32 ?_
  refine lv_istore_n (lv' := [(0, .int (((((a0 - ((Int32.toUInt32 a0 >>> (Int32.toUInt32 1 &&& Int32.toUInt32 31)).toInt32 &&& 1431655765)) &&& 858993459) + ((Int32.toUInt32 (a0 - ((Int32.toUInt32 a0 >>> (Int32.toUInt32 1 &&& Int32.toUInt32 31)).toInt32 &&& 1431655765)) >>> (Int32.toUInt32 2 &&& Int32.toUInt32 31)).toInt32 &&& 858993459)) + (Int32.toUInt32 (((a0 - ((Int32.toUInt32 a0 >>> (Int32.toUInt32 1 &&& Int32.toUInt32 31)).toInt32 &&& 1431655765)) &&& 858993459) + ((Int32.toUInt32 (a0 - ((Int32.toUInt32 a0 >>> (Int32.toUInt32 1 &&& Int32.toUInt32 31)).toInt32 &&& 1431655765)) >>> (Int32.toUInt32 2 &&& Int32.toUInt32 31)).toInt32 &&& 858993459)) >>> (Int32.toUInt32 4 &&& Int32.toUInt32 31)).toInt32) &&& 252645135))]) hx hb dJ6_bitCount_0f7a4_33 rfl hl (by decide) rfl (fun ls hl => ?_)
  refine lv_iload_n hx hb dJ6_bitCount_0f7a4_34 rfl (lv_at hl 0 rfl) ?_
  refine lv_iload_n hx hb dJ6_bitCount_0f7a4_35 rfl (lv_at hl 0 rfl) ?_
  refine lv_bipush (v := 8) hx hb dJ6_bitCount_0f7a4_36 (by decide) ?_
  refine lv_iushr hx hb dJ6_bitCount_0f7a4_38 rfl ?_
  refine lv_iadd hx hb dJ6_bitCount_0f7a4_39 ?_
  refine lv_istore_n (lv' := [(0, .int ((((((a0 - ((Int32.toUInt32 a0 >>> (Int32.toUInt32 1 &&& Int32.toUInt32 31)).toInt32 &&& 1431655765)) &&& 858993459) + ((Int32.toUInt32 (a0 - ((Int32.toUInt32 a0 >>> (Int32.toUInt32 1 &&& Int32.toUInt32 31)).toInt32 &&& 1431655765)) >>> (Int32.toUInt32 2 &&& Int32.toUInt32 31)).toInt32 &&& 858993459)) + (Int32.toUInt32 (((a0 - ((Int32.toUInt32 a0 >>> (Int32.toUInt32 1 &&& Int32.toUInt32 31)).toInt32 &&& 1431655765)) &&& 858993459) + ((Int32.toUInt32 (a0 - ((Int32.toUInt32 a0 >>> (Int32.toUInt32 1 &&& Int32.toUInt32 31)).toInt32 &&& 1431655765)) >>> (Int32.toUInt32 2 &&& Int32.toUInt32 31)).toInt32 &&& 858993459)) >>> (Int32.toUInt32 4 &&& Int32.toUInt32 31)).toInt32) &&& 252645135) + (Int32.toUInt32 (((((a0 - ((Int32.toUInt32 a0 >>> (Int32.toUInt32 1 &&& Int32.toUInt32 31)).toInt32 &&& 1431655765)) &&& 858993459) + ((Int32.toUInt32 (a0 - ((Int32.toUInt32 a0 >>> (Int32.toUInt32 1 &&& Int32.toUInt32 31)).toInt32 &&& 1431655765)) >>> (Int32.toUInt32 2 &&& Int32.toUInt32 31)).toInt32 &&& 858993459)) + (Int32.toUInt32 (((a0 - ((Int32.toUInt32 a0 >>> (Int32.toUInt32 1 &&& Int32.toUInt32 31)).toInt32 &&& 1431655765)) &&& 858993459) + ((Int32.toUInt32 (a0 - ((Int32.toUInt32 a0 >>> (Int32.toUInt32 1 &&& Int32.toUInt32 31)).toInt32 &&& 1431655765)) >>> (Int32.toUInt32 2 &&& Int32.toUInt32 31)).toInt32 &&& 858993459)) >>> (Int32.toUInt32 4 &&& Int32.toUInt32 31)).toInt32) &&& 252645135) >>> (Int32.toUInt32 8 &&& Int32.toUInt32 31)).toInt32))]) hx hb dJ6_bitCount_0f7a4_40 rfl hl (by decide) rfl (fun ls hl => ?_)
  refine lv_iload_n hx hb dJ6_bitCount_0f7a4_41 rfl (lv_at hl 0 rfl) ?_
  refine lv_iload_n hx hb dJ6_bitCount_0f7a4_42 rfl (lv_at hl 0 rfl) ?_
  refine lv_bipush (v := 16) hx hb dJ6_bitCount_0f7a4_43 (by decide) ?_
  refine lv_iushr hx hb dJ6_bitCount_0f7a4_45 rfl ?_
  refine lv_iadd hx hb dJ6_bitCount_0f7a4_46 ?_
  refine lv_istore_n (lv' := [(0, .int (((((((a0 - ((Int32.toUInt32 a0 >>> (Int32.toUInt32 1 &&& Int32.toUInt32 31)).toInt32 &&& 1431655765)) &&& 858993459) + ((Int32.toUInt32 (a0 - ((Int32.toUInt32 a0 >>> (Int32.toUInt32 1 &&& Int32.toUInt32 31)).toInt32 &&& 1431655765)) >>> (Int32.toUInt32 2 &&& Int32.toUInt32 31)).toInt32 &&& 858993459)) + (Int32.toUInt32 (((a0 - ((Int32.toUInt32 a0 >>> (Int32.toUInt32 1 &&& Int32.toUInt32 31)).toInt32 &&& 1431655765)) &&& 858993459) + ((Int32.toUInt32 (a0 - ((Int32.toUInt32 a0 >>> (Int32.toUInt32 1 &&& Int32.toUInt32 31)).toInt32 &&& 1431655765)) >>> (Int32.toUInt32 2 &&& Int32.toUInt32 31)).toInt32 &&& 858993459)) >>> (Int32.toUInt32 4 &&& Int32.toUInt32 31)).toInt32) &&& 252645135) + (Int32.toUInt32 (((((a0 - ((Int32.toUInt32 a0 >>> (Int32.toUInt32 1 &&& Int32.toUInt32 31)).toInt32 &&& 1431655765)) &&& 858993459) + ((Int32.toUInt32 (a0 - ((Int32.toUInt32 a0 >>> (Int32.toUInt32 1 &&& Int32.toUInt32 31)).toInt32 &&& 1431655765)) >>> (Int32.toUInt32 2 &&& Int32.toUInt32 31)).toInt32 &&& 858993459)) + (Int32.toUInt32 (((a0 - ((Int32.toUInt32 a0 >>> (Int32.toUInt32 1 &&& Int32.toUInt32 31)).toInt32 &&& 1431655765)) &&& 858993459) + ((Int32.toUInt32 (a0 - ((Int32.toUInt32 a0 >>> (Int32.toUInt32 1 &&& Int32.toUInt32 31)).toInt32 &&& 1431655765)) >>> (Int32.toUInt32 2 &&& Int32.toUInt32 31)).toInt32 &&& 858993459)) >>> (Int32.toUInt32 4 &&& Int32.toUInt32 31)).toInt32) &&& 252645135) >>> (Int32.toUInt32 8 &&& Int32.toUInt32 31)).toInt32) + (Int32.toUInt32 ((((((a0 - ((Int32.toUInt32 a0 >>> (Int32.toUInt32 1 &&& Int32.toUInt32 31)).toInt32 &&& 1431655765)) &&& 858993459) + ((Int32.toUInt32 (a0 - ((Int32.toUInt32 a0 >>> (Int32.toUInt32 1 &&& Int32.toUInt32 31)).toInt32 &&& 1431655765)) >>> (Int32.toUInt32 2 &&& Int32.toUInt32 31)).toInt32 &&& 858993459)) + (Int32.toUInt32 (((a0 - ((Int32.toUInt32 a0 >>> (Int32.toUInt32 1 &&& Int32.toUInt32 31)).toInt32 &&& 1431655765)) &&& 858993459) + ((Int32.toUInt32 (a0 - ((Int32.toUInt32 a0 >>> (Int32.toUInt32 1 &&& Int32.toUInt32 31)).toInt32 &&& 1431655765)) >>> (Int32.toUInt32 2 &&& Int32.toUInt32 31)).toInt32 &&& 858993459)) >>> (Int32.toUInt32 4 &&& Int32.toUInt32 31)).toInt32) &&& 252645135) + (Int32.toUInt32 (((((a0 - ((Int32.toUInt32 a0 >>> (Int32.toUInt32 1 &&& Int32.toUInt32 31)).toInt32 &&& 1431655765)) &&& 858993459) + ((Int32.toUInt32 (a0 - ((Int32.toUInt32 a0 >>> (Int32.toUInt32 1 &&& Int32.toUInt32 31)).toInt32 &&& 1431655765)) >>> (Int32.toUInt32 2 &&& Int32.toUInt32 31)).toInt32 &&& 858993459)) + (Int32.toUInt32 (((a0 - ((Int32.toUInt32 a0 >>> (Int32.toUInt32 1 &&& Int32.toUInt32 31)).toInt32 &&& 1431655765)) &&& 858993459) + ((Int32.toUInt32 (a0 - ((Int32.toUInt32 a0 >>> (Int32.toUInt32 1 &&& Int32.toUInt32 31)).toInt32 &&& 1431655765)) >>> (Int32.toUInt32 2 &&& Int32.toUInt32 31)).toInt32 &&& 858993459)) >>> (Int32.toUInt32 4 &&& Int32.toUInt32 31)).toInt32) &&& 252645135) >>> (Int32.toUInt32 8 &&& Int32.toUInt32 31)).toInt32) >>> (Int32.toUInt32 16 &&& Int32.toUInt32 31)).toInt32))]) hx hb dJ6_bitCount_0f7a4_47 rfl hl (by decide) rfl (fun ls hl => ?_)
  refine lv_iload_n hx hb dJ6_bitCount_0f7a4_48 rfl (lv_at hl 0 rfl) ?_
  refine lv_bipush (v := 63) hx hb dJ6_bitCount_0f7a4_49 (by decide) ?_
  refine lv_iand hx hb dJ6_bitCount_0f7a4_51 ?_
  exact W.iret (v := ((((((((a0 - ((Int32.toUInt32 a0 >>> (Int32.toUInt32 1 &&& Int32.toUInt32 31)).toInt32 &&& 1431655765)) &&& 858993459) + ((Int32.toUInt32 (a0 - ((Int32.toUInt32 a0 >>> (Int32.toUInt32 1 &&& Int32.toUInt32 31)).toInt32 &&& 1431655765)) >>> (Int32.toUInt32 2 &&& Int32.toUInt32 31)).toInt32 &&& 858993459)) + (Int32.toUInt32 (((a0 - ((Int32.toUInt32 a0 >>> (Int32.toUInt32 1 &&& Int32.toUInt32 31)).toInt32 &&& 1431655765)) &&& 858993459) + ((Int32.toUInt32 (a0 - ((Int32.toUInt32 a0 >>> (Int32.toUInt32 1 &&& Int32.toUInt32 31)).toInt32 &&& 1431655765)) >>> (Int32.toUInt32 2 &&& Int32.toUInt32 31)).toInt32 &&& 858993459)) >>> (Int32.toUInt32 4 &&& Int32.toUInt32 31)).toInt32) &&& 252645135) + (Int32.toUInt32 (((((a0 - ((Int32.toUInt32 a0 >>> (Int32.toUInt32 1 &&& Int32.toUInt32 31)).toInt32 &&& 1431655765)) &&& 858993459) + ((Int32.toUInt32 (a0 - ((Int32.toUInt32 a0 >>> (Int32.toUInt32 1 &&& Int32.toUInt32 31)).toInt32 &&& 1431655765)) >>> (Int32.toUInt32 2 &&& Int32.toUInt32 31)).toInt32 &&& 858993459)) + (Int32.toUInt32 (((a0 - ((Int32.toUInt32 a0 >>> (Int32.toUInt32 1 &&& Int32.toUInt32 31)).toInt32 &&& 1431655765)) &&& 858993459) + ((Int32.toUInt32 (a0 - ((Int32.toUInt32 a0 >>> (Int32.toUInt32 1 &&& Int32.toUInt32 31)).toInt32 &&& 1431655765)) >>> (Int32.toUInt32 2 &&& Int32.toUInt32 31)).toInt32 &&& 858993459)) >>> (Int32.toUInt32 4 &&& Int32.toUInt32 31)).toInt32) &&& 252645135) >>> (Int32.toUInt32 8 &&& Int32.toUInt32 31)).toInt32) + (Int32.toUInt32 ((((((a0 - ((Int32.toUInt32 a0 >>> (Int32.toUInt32 1 &&& Int32.toUInt32 31)).toInt32 &&& 1431655765)) &&& 858993459) + ((Int32.toUInt32 (a0 - ((Int32.toUInt32 a0 >>> (Int32.toUInt32 1 &&& Int32.toUInt32 31)).toInt32 &&& 1431655765)) >>> (Int32.toUInt32 2 &&& Int32.toUInt32 31)).toInt32 &&& 858993459)) + (Int32.toUInt32 (((a0 - ((Int32.toUInt32 a0 >>> (Int32.toUInt32 1 &&& Int32.toUInt32 31)).toInt32 &&& 1431655765)) &&& 858993459) + ((Int32.toUInt32 (a0 - ((Int32.toUInt32 a0 >>> (Int32.toUInt32 1 &&& Int32.toUInt32 31)).toInt32 &&& 1431655765)) >>> (Int32.toUInt32 2 &&& Int32.toUInt32 31)).toInt32 &&& 858993459)) >>> (Int32.toUInt32 4 &&& Int32.toUInt32 31)).toInt32) &&& 252645135) + (Int32.toUInt32 (((((a0 - ((Int32.toUInt32 a0 >>> (Int32.toUInt32 1 &&& Int32.toUInt32 31)).toInt32 &&& 1431655765)) &&& 858993459) + ((Int32.toUInt32 (a0 - ((Int32.toUInt32 a0 >>> (Int32.toUInt32 1 &&& Int32.toUInt32 31)).toInt32 &&& 1431655765)) >>> (Int32.toUInt32 2 &&& Int32.toUInt32 31)).toInt32 &&& 858993459)) + (Int32.toUInt32 (((a0 - ((Int32.toUInt32 a0 >>> (Int32.toUInt32 1 &&& Int32.toUInt32 31)).toInt32 &&& 1431655765)) &&& 858993459) + ((Int32.toUInt32 (a0 - ((Int32.toUInt32 a0 >>> (Int32.toUInt32 1 &&& Int32.toUInt32 31)).toInt32 &&& 1431655765)) >>> (Int32.toUInt32 2 &&& Int32.toUInt32 31)).toInt32 &&& 858993459)) >>> (Int32.toUInt32 4 &&& Int32.toUInt32 31)).toInt32) &&& 252645135) >>> (Int32.toUInt32 8 &&& Int32.toUInt32 31)).toInt32) >>> (Int32.toUInt32 16 &&& Int32.toUInt32 31)).toInt32) &&& 63)) hx hb hr (fun t ht hW => ⟨⟨((((((((a0 - ((Int32.toUInt32 a0 >>> (Int32.toUInt32 1 &&& Int32.toUInt32 31)).toInt32 &&& 1431655765)) &&& 858993459) + ((Int32.toUInt32 (a0 - ((Int32.toUInt32 a0 >>> (Int32.toUInt32 1 &&& Int32.toUInt32 31)).toInt32 &&& 1431655765)) >>> (Int32.toUInt32 2 &&& Int32.toUInt32 31)).toInt32 &&& 858993459)) + (Int32.toUInt32 (((a0 - ((Int32.toUInt32 a0 >>> (Int32.toUInt32 1 &&& Int32.toUInt32 31)).toInt32 &&& 1431655765)) &&& 858993459) + ((Int32.toUInt32 (a0 - ((Int32.toUInt32 a0 >>> (Int32.toUInt32 1 &&& Int32.toUInt32 31)).toInt32 &&& 1431655765)) >>> (Int32.toUInt32 2 &&& Int32.toUInt32 31)).toInt32 &&& 858993459)) >>> (Int32.toUInt32 4 &&& Int32.toUInt32 31)).toInt32) &&& 252645135) + (Int32.toUInt32 (((((a0 - ((Int32.toUInt32 a0 >>> (Int32.toUInt32 1 &&& Int32.toUInt32 31)).toInt32 &&& 1431655765)) &&& 858993459) + ((Int32.toUInt32 (a0 - ((Int32.toUInt32 a0 >>> (Int32.toUInt32 1 &&& Int32.toUInt32 31)).toInt32 &&& 1431655765)) >>> (Int32.toUInt32 2 &&& Int32.toUInt32 31)).toInt32 &&& 858993459)) + (Int32.toUInt32 (((a0 - ((Int32.toUInt32 a0 >>> (Int32.toUInt32 1 &&& Int32.toUInt32 31)).toInt32 &&& 1431655765)) &&& 858993459) + ((Int32.toUInt32 (a0 - ((Int32.toUInt32 a0 >>> (Int32.toUInt32 1 &&& Int32.toUInt32 31)).toInt32 &&& 1431655765)) >>> (Int32.toUInt32 2 &&& Int32.toUInt32 31)).toInt32 &&& 858993459)) >>> (Int32.toUInt32 4 &&& Int32.toUInt32 31)).toInt32) &&& 252645135) >>> (Int32.toUInt32 8 &&& Int32.toUInt32 31)).toInt32) + (Int32.toUInt32 ((((((a0 - ((Int32.toUInt32 a0 >>> (Int32.toUInt32 1 &&& Int32.toUInt32 31)).toInt32 &&& 1431655765)) &&& 858993459) + ((Int32.toUInt32 (a0 - ((Int32.toUInt32 a0 >>> (Int32.toUInt32 1 &&& Int32.toUInt32 31)).toInt32 &&& 1431655765)) >>> (Int32.toUInt32 2 &&& Int32.toUInt32 31)).toInt32 &&& 858993459)) + (Int32.toUInt32 (((a0 - ((Int32.toUInt32 a0 >>> (Int32.toUInt32 1 &&& Int32.toUInt32 31)).toInt32 &&& 1431655765)) &&& 858993459) + ((Int32.toUInt32 (a0 - ((Int32.toUInt32 a0 >>> (Int32.toUInt32 1 &&& Int32.toUInt32 31)).toInt32 &&& 1431655765)) >>> (Int32.toUInt32 2 &&& Int32.toUInt32 31)).toInt32 &&& 858993459)) >>> (Int32.toUInt32 4 &&& Int32.toUInt32 31)).toInt32) &&& 252645135) + (Int32.toUInt32 (((((a0 - ((Int32.toUInt32 a0 >>> (Int32.toUInt32 1 &&& Int32.toUInt32 31)).toInt32 &&& 1431655765)) &&& 858993459) + ((Int32.toUInt32 (a0 - ((Int32.toUInt32 a0 >>> (Int32.toUInt32 1 &&& Int32.toUInt32 31)).toInt32 &&& 1431655765)) >>> (Int32.toUInt32 2 &&& Int32.toUInt32 31)).toInt32 &&& 858993459)) + (Int32.toUInt32 (((a0 - ((Int32.toUInt32 a0 >>> (Int32.toUInt32 1 &&& Int32.toUInt32 31)).toInt32 &&& 1431655765)) &&& 858993459) + ((Int32.toUInt32 (a0 - ((Int32.toUInt32 a0 >>> (Int32.toUInt32 1 &&& Int32.toUInt32 31)).toInt32 &&& 1431655765)) >>> (Int32.toUInt32 2 &&& Int32.toUInt32 31)).toInt32 &&& 858993459)) >>> (Int32.toUInt32 4 &&& Int32.toUInt32 31)).toInt32) &&& 252645135) >>> (Int32.toUInt32 8 &&& Int32.toUInt32 31)).toInt32) >>> (Int32.toUInt32 16 &&& Int32.toUInt32 31)).toInt32) &&& 63), (), rfl, ⟨Option.some.inj hG, trivial⟩, trivial⟩, hS.F ht⟩) hS.2.2 dJ6_bitCount_0f7a4_52

theorem hdV_X6_falls : yX6_falls.cls = RX6 ∧ yX6_falls.cls ≠ "java/lang/invoke/MethodHandle" ∧ yX6_falls.cls ≠ "java/lang/invoke/VarHandle" ∧ (parseMethodDescriptor yX6_falls.desc).map (fun d => d.parameters.length) = some 2 := by decide +kernel
set_option maxHeartbeats 4000000 in
set_option maxRecDepth 100000 in
theorem C_X6_falls (l : Launch) (dC : Nat → ClassId) (dI : Nat → Nat → Nat) (cI cJ cZ : ClassId) (qa : Nat → Nat) (sz : Nat) (r_images : Nat → Int64) (r_asked : Int64) (n_likings : Nat → Int32) (n_day : Int32) (n_trust : Int32) (n_ill : Int32) (n_done : Int32) (p_befores : Nat → Int64) (p_known : Int32) (t_tears : Nat → Int32) (t_gains : Nat → Int32) (t_likings : Nat → Int32) (t_settings : Nat → Int32) (t_goodbyes : Int32) (t_women : Int32) (a1 : Int32) (a2 : Int32) (r0 : Int32) (r_n_ill : Int32) (r_p_befores : Nat → Int64) (r_p_known : Int32) (hG : gX6_falls n_likings n_day n_trust n_ill n_done p_befores p_known t_women a1 a2 = some (r0, r_n_ill, r_p_befores, r_p_known)) : Met l yX6_falls wsX6_falls ({ frames := 2, cells := 0, slots := 0, locals := 43 } : Room) (va_Pc [.ref (qa 0), .int a1, .int a2] (wq_pw (dC, dI) [(cI, .int), (cJ, .long), (cZ, .boolean)] (wcRNPT qa cI cJ cZ r_images r_asked n_likings n_day n_trust n_ill n_done p_befores p_known t_tears t_gains t_likings t_settings t_goodbyes t_women) sz)) (wq_Wi (dC, dI) r0 wq_tr (wcRNPT qa cI cJ cZ r_images r_asked n_likings n_day n_trust r_n_ill n_done r_p_befores r_p_known t_tears t_gains t_likings t_settings t_goodbyes t_women) (va_A (wcRNPT qa cI cJ cZ r_images r_asked n_likings n_day n_trust n_ill n_done p_befores p_known t_tears t_gains t_likings t_settings t_goodbyes t_women) sz)) 0 0 (va_A (wcRNPT qa cI cJ cZ r_images r_asked n_likings n_day n_trust n_ill n_done p_befores p_known t_tears t_gains t_likings t_settings t_goodbyes t_women) sz) := by
  refine Met.ofW (cc := cX6_falls) (maxL := 3) (ret := (some .int)) (by decide) rfl ?_
  intro p e s m args below meth c s₁ B hml hv
  obtain ⟨rfl, hsz, hP, hK, hD0, hE⟩ := hv
  have hx := B.exec
  have hb := B.bytes
  have hr := B.returns
  have hts := atoms_spec (ws := wsX6_falls) B.pre
  have hown : s.vm.findClass RX6 = some m.cls := findClass_of_methodNamed B.named
  have hlocks := B.notSynchronized
  subst hsz
  have hD := hD0.self (sz := s.heap.size)
  generalize hAe : va_A (wcRNPT qa cI cJ cZ r_images r_asked n_likings n_day n_trust n_ill n_done p_befores p_known t_tears t_gains t_likings t_settings t_goodbyes t_women) s.heap.size = A at hD hE ⊢
  have hA : ∀ q : Nat, s.heap.size ≤ q → A q := fun q h => by rw [← hAe]; exact Or.inr h
  have hS : va_S A s.heap s.heap [] := va_S.rf
  have hinX6 : ∀ w ∈ u_ws RX6 TX6 9, w ∈ wsX6_falls := by decide +kernel
  have hinX0 : ∀ w ∈ u_ws RX0 TX0 5, w ∈ wsX6_falls := by decide +kernel
  have k1 := hts (.fieldLink RX6 53 "DoorMornings" "told" "LDoorMornings$Told;") (by decide +kernel)
  have k2 := hts (.fieldLink RX6 19 "DoorMornings" "today" "LDoorMornings$Now;") (by decide +kernel)
  have k3 := hts (.fieldLink RX6 26 "DoorMornings" "past" "LDoorMornings$Past;") (by decide +kernel)
  have k4 := hts (.fieldLink RX6 122 "DoorMornings$Now" "ill" "I") (by decide +kernel)
  have hl := lv_entry ([.ref (qa 0), .int a1, .int a2]) (n := 3) (Nat.le_of_ble_eq_true rfl)
  rw [lg_entry_eq]
  generalize (lg_sl ([.ref (qa 0), .int a1, .int a2]) ++ List.replicate (3 - (lg_sl ([.ref (qa 0), .int a1, .int a2])).length) Slot.unset).toArray = ls at hl ⊢
  have hl : lv_has ls 3 [(0, .ref (qa 0)), (1, .int a1), (2, .int a2)] := hl
  unfold gX6_falls at hG
  refine lv_aload_n hx hb dX6_falls_0 rfl (lv_at hl 0 rfl) ?_
  refine va_get (D := (dC, dI)) (ci := 6) (v := .ref (qa 16)) (C := RX6) (T := TX6) (N := 9) hx hb hts hinX6 hown hK hP 0 rfl rfl 6 (by decide) k1 (fun _ h9 => h9) rfl dX6_falls_1 ?_
  refine lv_iload_n hx hb dX6_falls_4 rfl (lv_at hl 1 rfl) ?_
  obtain ⟨v2, g1, hG⟩ := wq_b1_s hG
  refine wq_ci (v := v2) (B := wq_Z1) (va_runV (As := [.int a1]) (rest := []) ⟨hx, hb, hml, hown, hts⟩ (C_X5_hasWoman l dC dI cI cJ cZ qa s.heap.size t_tears t_gains t_likings t_settings t_goodbyes t_women a1 v2 g1) (cwV 1 hts gX6_falls_X5_hasWoman rfl rfl rfl hdV_X5_hasWoman ⟨Nat.le_of_ble_eq_true rfl, Nat.le_of_ble_eq_true rfl⟩) (wq_ppV hK (hP.sub (ws' := wcT qa cI cJ cZ t_tears t_gains t_likings t_settings t_goodbyes t_women) [6, 7, 8, 9, 10] rfl) hE hS hA (ci := 5) (q0 := 0) rfl rfl) rfl rfl hl.1 rfl (lv_room (Nat.le_of_ble_eq_true rfl)) dX6_falls_5 ⟨Nat.zero_le _, Nat.zero_le _⟩) hS hA (fun H locs b3 hk hS => ?_)
  replace hP := wq_kp hP hk
  clear hk
  refine lv_if_eq (tgt := 20) hx hb dX6_falls_8 (by decide) (fun c4 => ?_) (fun c4 => ?_)
  · replace hG := wq_t c4 hG
    refine lv_iconst (v := (-1)) hx hb dX6_falls_20 (by decide) ?_
    obtain ⟨e0, e1, e2, e3⟩ := wq_j4 hG
    subst e0
    subst e1
    subst e2
    subst e3
    exact W.iret hx hb hr (fun t ht hW => ⟨⟨_, (), rfl, ⟨rfl, trivial⟩, by rw [ht]; exact hP, hD⟩, hS.F ht⟩) hS.2.2 dX6_falls_21
  · replace hG := wq_f c4 hG
    refine lv_iload_n hx hb dX6_falls_11 rfl (lv_at hl 2 rfl) ?_
    refine lv_if_lt (tgt := 20) hx hb dX6_falls_12 (by decide) (fun c5 => ?_) (fun c5 => ?_)
    · replace hG := wq_t c5 hG
      refine lv_iconst (v := (-1)) hx hb dX6_falls_20 (by decide) ?_
      obtain ⟨e0, e1, e2, e3⟩ := wq_j4 hG
      subst e0
      subst e1
      subst e2
      subst e3
      exact W.iret hx hb hr (fun t ht hW => ⟨⟨_, (), rfl, ⟨rfl, trivial⟩, by rw [ht]; exact hP, hD⟩, hS.F ht⟩) hS.2.2 dX6_falls_21
    · replace hG := wq_f c5 hG
      refine lv_iload_n hx hb dX6_falls_15 rfl (lv_at hl 2 rfl) ?_
      refine lv_iconst (v := 1) hx hb dX6_falls_16 (by decide) ?_
      refine lv_icmp_le (tgt := 22) hx hb dX6_falls_17 (by decide) (fun c6 => ?_) (fun c6 => ?_)
      · replace hG := wq_t c6 hG
        refine lv_aload_n hx hb dX6_falls_22 rfl (lv_at hl 0 rfl) ?_
        refine va_get (D := (dC, dI)) (ci := 6) (v := .ref (qa 3)) (C := RX6) (T := TX6) (N := 9) hx hb hts hinX6 hown hK hP 0 rfl rfl 1 (by decide) k2 (fun _ h9 => h9) rfl dX6_falls_23 ?_
        refine lv_iload_n hx hb dX6_falls_26 rfl (lv_at hl 1 rfl) ?_
        obtain ⟨v8, g7, hG⟩ := wq_b1_s hG
        refine wq_ci (v := v8) (B := wq_Z1) (va_runV (As := [.int a1]) (rest := []) ⟨hx, hb, hml, hown, hts⟩ (C_X0_isIll l dC dI cI cJ cZ qa H.size n_likings n_day n_trust n_ill n_done a1 v8 g7) (cwV 1 hts gX6_falls_X0_isIll rfl rfl rfl hdV_X0_isIll ⟨Nat.le_of_ble_eq_true rfl, Nat.le_of_ble_eq_true rfl⟩) (wq_ppV hK (hP.sub (ws' := wcN qa cI cJ cZ n_likings n_day n_trust n_ill n_done) [2, 3] rfl) hE hS hA (ci := 0) (q0 := 0) rfl rfl) rfl rfl hl.1 rfl (lv_room (Nat.le_of_ble_eq_true rfl)) dX6_falls_27 ⟨Nat.zero_le _, Nat.zero_le _⟩) hS hA (fun H locs b9 hk hS => ?_)
        replace hP := wq_kp hP hk
        clear hk
        refine lv_iload_n hx hb dX6_falls_30 rfl (lv_at hl 2 rfl) ?_
        refine lv_iconst (v := 1) hx hb dX6_falls_31 (by decide) ?_
        refine lv_icmp_ne (tgt := 39) hx hb dX6_falls_32 (by decide) (fun c10 => ?_) (fun c10 => ?_)
        · replace hG := wq_f c10 hG
          refine lv_iconst (v := 0) hx hb dX6_falls_39 (by decide) ?_
          refine lv_icmp_ne (tgt := 46) hx hb dX6_falls_40 (by decide) (fun c11 => ?_) (fun c11 => ?_)
          · replace hG := wq_f c11 hG
            refine lv_aload_n hx hb dX6_falls_46 rfl (lv_at hl 0 rfl) ?_
            refine va_get (D := (dC, dI)) (ci := 6) (v := .ref (qa 5)) (C := RX6) (T := TX6) (N := 9) hx hb hts hinX6 hown hK hP 0 rfl rfl 2 (by decide) k3 (fun _ h9 => h9) rfl dX6_falls_47 ?_
            refine lv_aload_n hx hb dX6_falls_50 rfl (lv_at hl 0 rfl) ?_
            refine va_get (D := (dC, dI)) (ci := 6) (v := .ref (qa 3)) (C := RX6) (T := TX6) (N := 9) hx hb hts hinX6 hown hK hP 0 rfl rfl 1 (by decide) k2 (fun _ h9 => h9) rfl dX6_falls_51 ?_
            obtain ⟨v13, g12, hG⟩ := wq_b1_s hG
            refine wq_cl (v := v13) (va_runV (As := []) (rest := [.ref (qa 5)]) ⟨hx, hb, hml, hown, hts⟩ (C_X0_folded l dC dI cI cJ cZ qa H.size n_likings n_day n_trust n_ill n_done  v13 g12) (cwV 0 hts gX6_falls_X0_folded rfl rfl rfl hdV_X0_folded ⟨Nat.le_of_ble_eq_true rfl, Nat.le_of_ble_eq_true rfl⟩) (wq_ppV hK (hP.sub (ws' := wcN qa cI cJ cZ n_likings n_day n_trust n_ill n_done) [2, 3] rfl) hE hS hA (ci := 0) (q0 := 0) rfl rfl) rfl rfl hl.1 rfl (lv_room (Nat.le_of_ble_eq_true rfl)) dX6_falls_54 ⟨Nat.zero_le _, Nat.zero_le _⟩) hS hA (fun H locs hk hS => ?_)
            replace hP := wq_kp hP hk
            clear hk
            obtain ⟨w15, w16, g14, hG⟩ := wq_b2_s hG
            have hFc := va_free (wc := wcP qa cI cJ cZ p_befores p_known) hD hS hA [4, 5] rfl
            refine wq_dv (D := (dC, dI)) (wr := wcRNT qa cI cJ cZ r_images r_asked n_likings n_day n_trust n_ill n_done t_tears t_gains t_likings t_settings t_goodbyes t_women) (w1 := wcP qa cI cJ cZ w15 w16) (w2 := wcRNPT qa cI cJ cZ r_images r_asked n_likings n_day n_trust n_ill n_done w15 w16 t_tears t_gains t_likings t_settings t_goodbyes t_women) (va_runV (As := [.long v13]) (rest := []) ⟨hx, hb, hml, hown, hts⟩ (C_X2_add l dC dI cI cJ cZ qa H.size p_befores p_known v13 w15 w16 g14) (cwV 1 hts gX6_falls_X2_add rfl rfl rfl hdV_X2_add ⟨Nat.le_of_ble_eq_true rfl, Nat.le_of_ble_eq_true rfl⟩) (wq_pwV hK (hP.sub (ws' := wcP qa cI cJ cZ p_befores p_known) [4, 5] rfl) (hD.sub (ws' := wcP qa cI cJ cZ p_befores p_known) [4, 5] (by decide) rfl) hE hS hFc (ci := 2) (q0 := 0) rfl rfl) rfl rfl hl.1 rfl (lv_room (Nat.le_of_ble_eq_true rfl)) dX6_falls_57 ⟨Nat.zero_le _, Nat.zero_le _⟩) hP hD hS hFc [4, 5] [0, 1, 2, 3, 6, 7, 8, 9, 10] [0, 1, 2, 3, 9, 10, 4, 5, 6, 7, 8] rfl rfl (by decide) (by decide) (by decide) rfl (fun H locs hP hD hS => ?_)
            clear hFc
            refine lv_aload_n hx hb dX6_falls_60 rfl (lv_at hl 0 rfl) ?_
            refine va_get (D := (dC, dI)) (ci := 6) (v := .ref (qa 3)) (C := RX6) (T := TX6) (N := 9) hx hb hts hinX6 hown hK hP 0 rfl rfl 1 (by decide) k2 (fun _ h9 => h9) rfl dX6_falls_61 ?_
            refine lv_dup hx hb dX6_falls_64 rfl ?_
            refine va_get (D := (dC, dI)) (ci := 0) (v := .int n_ill) (C := RX0) (T := TX0) (N := 5) hx hb hts hinX0 hown hK hP 2 rfl rfl 3 (by decide) k4 (fun _ h9 => h9) rfl dX6_falls_65 ?_
            refine lv_iconst (v := 1) hx hb dX6_falls_68 (by decide) ?_
            refine lv_iload_n hx hb dX6_falls_69 rfl (lv_at hl 1 rfl) ?_
            refine lv_ishl hx hb dX6_falls_70 ?_
            refine lv_ixor hx hb dX6_falls_71 ?_
            refine va_put (D := (dC, dI)) (ci := 0) (v := .int (n_ill ^^^ (1 <<< (a1 &&& 31)))) (ty := tyX0 3) (C := RX0) (T := TX0) (N := 5) hx hb hts hinX0 tyX0 tyX0_ok nmX0 hown hK hP hD hS 2 rfl rfl 3 (by decide) k4 (fun _ h9 => h9) rfl (tyX0_ok 3 (by decide)) rfl rfl (Nat.le_of_ble_eq_true rfl) dX6_falls_72 (fun H locs hP hD hS => ?_)
            replace hP : va_P (dC, dI) vwCl (wcRNPT qa cI cJ cZ r_images r_asked n_likings n_day n_trust (n_ill ^^^ (1 <<< (a1 &&& 31))) n_done w15 w16 t_tears t_gains t_likings t_settings t_goodbyes t_women) H := hP
            replace hD : va_D A (wcRNPT qa cI cJ cZ r_images r_asked n_likings n_day n_trust (n_ill ^^^ (1 <<< (a1 &&& 31))) n_done w15 w16 t_tears t_gains t_likings t_settings t_goodbyes t_women) := hD
            refine lv_aload_n hx hb dX6_falls_75 rfl (lv_at hl 0 rfl) ?_
            refine va_get (D := (dC, dI)) (ci := 6) (v := .ref (qa 3)) (C := RX6) (T := TX6) (N := 9) hx hb hts hinX6 hown hK hP 0 rfl rfl 1 (by decide) k2 (fun _ h9 => h9) rfl dX6_falls_76 ?_
            refine va_get (D := (dC, dI)) (ci := 0) (v := .int (n_ill ^^^ (1 <<< (a1 &&& 31)))) (C := RX0) (T := TX0) (N := 5) hx hb hts hinX0 hown hK hP 2 rfl rfl 3 (by decide) k4 (fun _ h9 => h9) rfl dX6_falls_79 ?_
            obtain ⟨v18, g17, hG⟩ := wq_b1_s hG
            refine wq_ci (v := v18) (B := wq_tr) (va_runS (As := [.int (n_ill ^^^ (1 <<< (a1 &&& 31)))]) (rest := []) ⟨hx, hb, hml, hown, hts⟩ (C_J6_bitCount_0f7a4 l dC dI cI cJ cZ qa H.size  (n_ill ^^^ (1 <<< (a1 &&& 31))) v18 g17) (va_cwS 1 hts gX6_falls_J6_bitCount_0f7a4 rfl rfl rfl hdS_J6_bitCount_0f7a4 ⟨Nat.le_of_ble_eq_true rfl, Nat.le_of_ble_eq_true rfl⟩) (wq_ppS hK (hP.sub (ws' := []) [] rfl) hE hS hA) rfl rfl hl.1 rfl (lv_room (Nat.le_of_ble_eq_true rfl)) dX6_falls_82 ⟨Nat.zero_le _, Nat.zero_le _⟩) hS hA (fun H locs b19 hk hS => ?_)
            replace hP := wq_kp hP hk
            clear hk
            obtain ⟨e0, e1, e2, e3⟩ := wq_j4 hG
            subst e0
            subst e1
            subst e2
            subst e3
            exact W.iret hx hb hr (fun t ht hW => ⟨⟨_, (), rfl, ⟨rfl, trivial⟩, by rw [ht]; exact hP, hD⟩, hS.F ht⟩) hS.2.2 dX6_falls_85
          · replace hG := wq_t c11 hG
            refine lv_bipush (v := (-2)) hx hb dX6_falls_43 (by decide) ?_
            obtain ⟨e0, e1, e2, e3⟩ := wq_j4 hG
            subst e0
            subst e1
            subst e2
            subst e3
            exact W.iret hx hb hr (fun t ht hW => ⟨⟨_, (), rfl, ⟨rfl, trivial⟩, by rw [ht]; exact hP, hD⟩, hS.F ht⟩) hS.2.2 dX6_falls_45
        · replace hG := wq_t c10 hG
          refine lv_iconst (v := 1) hx hb dX6_falls_35 (by decide) ?_
          refine lv_goto (tgt := 40) hx hb dX6_falls_36 (by decide) ?_
          refine lv_icmp_ne (tgt := 46) hx hb dX6_falls_40 (by decide) (fun c20 => ?_) (fun c20 => ?_)
          · replace hG := wq_f c20 hG
            refine lv_aload_n hx hb dX6_falls_46 rfl (lv_at hl 0 rfl) ?_
            refine va_get (D := (dC, dI)) (ci := 6) (v := .ref (qa 5)) (C := RX6) (T := TX6) (N := 9) hx hb hts hinX6 hown hK hP 0 rfl rfl 2 (by decide) k3 (fun _ h9 => h9) rfl dX6_falls_47 ?_
            refine lv_aload_n hx hb dX6_falls_50 rfl (lv_at hl 0 rfl) ?_
            refine va_get (D := (dC, dI)) (ci := 6) (v := .ref (qa 3)) (C := RX6) (T := TX6) (N := 9) hx hb hts hinX6 hown hK hP 0 rfl rfl 1 (by decide) k2 (fun _ h9 => h9) rfl dX6_falls_51 ?_
            obtain ⟨v22, g21, hG⟩ := wq_b1_s hG
            refine wq_cl (v := v22) (va_runV (As := []) (rest := [.ref (qa 5)]) ⟨hx, hb, hml, hown, hts⟩ (C_X0_folded l dC dI cI cJ cZ qa H.size n_likings n_day n_trust n_ill n_done  v22 g21) (cwV 0 hts gX6_falls_X0_folded rfl rfl rfl hdV_X0_folded ⟨Nat.le_of_ble_eq_true rfl, Nat.le_of_ble_eq_true rfl⟩) (wq_ppV hK (hP.sub (ws' := wcN qa cI cJ cZ n_likings n_day n_trust n_ill n_done) [2, 3] rfl) hE hS hA (ci := 0) (q0 := 0) rfl rfl) rfl rfl hl.1 rfl (lv_room (Nat.le_of_ble_eq_true rfl)) dX6_falls_54 ⟨Nat.zero_le _, Nat.zero_le _⟩) hS hA (fun H locs hk hS => ?_)
            replace hP := wq_kp hP hk
            clear hk
            obtain ⟨w24, w25, g23, hG⟩ := wq_b2_s hG
            have hFc := va_free (wc := wcP qa cI cJ cZ p_befores p_known) hD hS hA [4, 5] rfl
            refine wq_dv (D := (dC, dI)) (wr := wcRNT qa cI cJ cZ r_images r_asked n_likings n_day n_trust n_ill n_done t_tears t_gains t_likings t_settings t_goodbyes t_women) (w1 := wcP qa cI cJ cZ w24 w25) (w2 := wcRNPT qa cI cJ cZ r_images r_asked n_likings n_day n_trust n_ill n_done w24 w25 t_tears t_gains t_likings t_settings t_goodbyes t_women) (va_runV (As := [.long v22]) (rest := []) ⟨hx, hb, hml, hown, hts⟩ (C_X2_add l dC dI cI cJ cZ qa H.size p_befores p_known v22 w24 w25 g23) (cwV 1 hts gX6_falls_X2_add rfl rfl rfl hdV_X2_add ⟨Nat.le_of_ble_eq_true rfl, Nat.le_of_ble_eq_true rfl⟩) (wq_pwV hK (hP.sub (ws' := wcP qa cI cJ cZ p_befores p_known) [4, 5] rfl) (hD.sub (ws' := wcP qa cI cJ cZ p_befores p_known) [4, 5] (by decide) rfl) hE hS hFc (ci := 2) (q0 := 0) rfl rfl) rfl rfl hl.1 rfl (lv_room (Nat.le_of_ble_eq_true rfl)) dX6_falls_57 ⟨Nat.zero_le _, Nat.zero_le _⟩) hP hD hS hFc [4, 5] [0, 1, 2, 3, 6, 7, 8, 9, 10] [0, 1, 2, 3, 9, 10, 4, 5, 6, 7, 8] rfl rfl (by decide) (by decide) (by decide) rfl (fun H locs hP hD hS => ?_)
            clear hFc
            refine lv_aload_n hx hb dX6_falls_60 rfl (lv_at hl 0 rfl) ?_
            refine va_get (D := (dC, dI)) (ci := 6) (v := .ref (qa 3)) (C := RX6) (T := TX6) (N := 9) hx hb hts hinX6 hown hK hP 0 rfl rfl 1 (by decide) k2 (fun _ h9 => h9) rfl dX6_falls_61 ?_
            refine lv_dup hx hb dX6_falls_64 rfl ?_
            refine va_get (D := (dC, dI)) (ci := 0) (v := .int n_ill) (C := RX0) (T := TX0) (N := 5) hx hb hts hinX0 hown hK hP 2 rfl rfl 3 (by decide) k4 (fun _ h9 => h9) rfl dX6_falls_65 ?_
            refine lv_iconst (v := 1) hx hb dX6_falls_68 (by decide) ?_
            refine lv_iload_n hx hb dX6_falls_69 rfl (lv_at hl 1 rfl) ?_
            refine lv_ishl hx hb dX6_falls_70 ?_
            refine lv_ixor hx hb dX6_falls_71 ?_
            refine va_put (D := (dC, dI)) (ci := 0) (v := .int (n_ill ^^^ (1 <<< (a1 &&& 31)))) (ty := tyX0 3) (C := RX0) (T := TX0) (N := 5) hx hb hts hinX0 tyX0 tyX0_ok nmX0 hown hK hP hD hS 2 rfl rfl 3 (by decide) k4 (fun _ h9 => h9) rfl (tyX0_ok 3 (by decide)) rfl rfl (Nat.le_of_ble_eq_true rfl) dX6_falls_72 (fun H locs hP hD hS => ?_)
            replace hP : va_P (dC, dI) vwCl (wcRNPT qa cI cJ cZ r_images r_asked n_likings n_day n_trust (n_ill ^^^ (1 <<< (a1 &&& 31))) n_done w24 w25 t_tears t_gains t_likings t_settings t_goodbyes t_women) H := hP
            replace hD : va_D A (wcRNPT qa cI cJ cZ r_images r_asked n_likings n_day n_trust (n_ill ^^^ (1 <<< (a1 &&& 31))) n_done w24 w25 t_tears t_gains t_likings t_settings t_goodbyes t_women) := hD
            refine lv_aload_n hx hb dX6_falls_75 rfl (lv_at hl 0 rfl) ?_
            refine va_get (D := (dC, dI)) (ci := 6) (v := .ref (qa 3)) (C := RX6) (T := TX6) (N := 9) hx hb hts hinX6 hown hK hP 0 rfl rfl 1 (by decide) k2 (fun _ h9 => h9) rfl dX6_falls_76 ?_
            refine va_get (D := (dC, dI)) (ci := 0) (v := .int (n_ill ^^^ (1 <<< (a1 &&& 31)))) (C := RX0) (T := TX0) (N := 5) hx hb hts hinX0 hown hK hP 2 rfl rfl 3 (by decide) k4 (fun _ h9 => h9) rfl dX6_falls_79 ?_
            obtain ⟨v27, g26, hG⟩ := wq_b1_s hG
            refine wq_ci (v := v27) (B := wq_tr) (va_runS (As := [.int (n_ill ^^^ (1 <<< (a1 &&& 31)))]) (rest := []) ⟨hx, hb, hml, hown, hts⟩ (C_J6_bitCount_0f7a4 l dC dI cI cJ cZ qa H.size  (n_ill ^^^ (1 <<< (a1 &&& 31))) v27 g26) (va_cwS 1 hts gX6_falls_J6_bitCount_0f7a4 rfl rfl rfl hdS_J6_bitCount_0f7a4 ⟨Nat.le_of_ble_eq_true rfl, Nat.le_of_ble_eq_true rfl⟩) (wq_ppS hK (hP.sub (ws' := []) [] rfl) hE hS hA) rfl rfl hl.1 rfl (lv_room (Nat.le_of_ble_eq_true rfl)) dX6_falls_82 ⟨Nat.zero_le _, Nat.zero_le _⟩) hS hA (fun H locs b28 hk hS => ?_)
            replace hP := wq_kp hP hk
            clear hk
            obtain ⟨e0, e1, e2, e3⟩ := wq_j4 hG
            subst e0
            subst e1
            subst e2
            subst e3
            exact W.iret hx hb hr (fun t ht hW => ⟨⟨_, (), rfl, ⟨rfl, trivial⟩, by rw [ht]; exact hP, hD⟩, hS.F ht⟩) hS.2.2 dX6_falls_85
          · replace hG := wq_t c20 hG
            refine lv_bipush (v := (-2)) hx hb dX6_falls_43 (by decide) ?_
            obtain ⟨e0, e1, e2, e3⟩ := wq_j4 hG
            subst e0
            subst e1
            subst e2
            subst e3
            exact W.iret hx hb hr (fun t ht hW => ⟨⟨_, (), rfl, ⟨rfl, trivial⟩, by rw [ht]; exact hP, hD⟩, hS.F ht⟩) hS.2.2 dX6_falls_45
      · replace hG := wq_f c6 hG
        refine lv_iconst (v := (-1)) hx hb dX6_falls_20 (by decide) ?_
        obtain ⟨e0, e1, e2, e3⟩ := wq_j4 hG
        subst e0
        subst e1
        subst e2
        subst e3
        exact W.iret hx hb hr (fun t ht hW => ⟨⟨_, (), rfl, ⟨rfl, trivial⟩, by rw [ht]; exact hP, hD⟩, hS.F ht⟩) hS.2.2 dX6_falls_21

theorem hdV_X2_takeLatest : yX2_takeLatest.cls = RX2 ∧ yX2_takeLatest.cls ≠ "java/lang/invoke/MethodHandle" ∧ yX2_takeLatest.cls ≠ "java/lang/invoke/VarHandle" ∧ (parseMethodDescriptor yX2_takeLatest.desc).map (fun d => d.parameters.length) = some 0 := by decide +kernel
set_option maxHeartbeats 4000000 in
set_option maxRecDepth 100000 in
theorem C_X2_takeLatest (l : Launch) (dC : Nat → ClassId) (dI : Nat → Nat → Nat) (cI cJ cZ : ClassId) (qa : Nat → Nat) (sz : Nat) (p_befores : Nat → Int64) (p_known : Int32) (r0 : Int64) (r_p_known : Int32) (hG : gX2_takeLatest p_befores p_known = some (r0, r_p_known)) : Met l yX2_takeLatest wsX2_takeLatest ({ frames := 0, cells := 0, slots := 0, locals := 0 } : Room) (va_Pc [.ref (qa 5)] (wq_pw (dC, dI) [(cI, .int), (cJ, .long), (cZ, .boolean)] (wcP qa cI cJ cZ p_befores p_known) sz)) (wq_Wl (dC, dI) r0 (wcP qa cI cJ cZ p_befores r_p_known) (va_A (wcP qa cI cJ cZ p_befores p_known) sz)) 0 0 (va_A (wcP qa cI cJ cZ p_befores p_known) sz) := by
  refine Met.ofW (cc := cX2_takeLatest) (maxL := 1) (ret := (some .long)) (by decide) rfl ?_
  intro p e s m args below meth c s₁ B hml hv
  obtain ⟨rfl, hsz, hP, hK, hD0, hE⟩ := hv
  have hx := B.exec
  have hb := B.bytes
  have hr := B.returns
  have hts := atoms_spec (ws := wsX2_takeLatest) B.pre
  have hown : s.vm.findClass RX2 = some m.cls := findClass_of_methodNamed B.named
  have hlocks := B.notSynchronized
  subst hsz
  have hD := hD0.self (sz := s.heap.size)
  generalize hAe : va_A (wcP qa cI cJ cZ p_befores p_known) s.heap.size = A at hD hE ⊢
  have hA : ∀ q : Nat, s.heap.size ≤ q → A q := fun q h => by rw [← hAe]; exact Or.inr h
  have hS : va_S A s.heap s.heap [] := va_S.rf
  have hinX2 : ∀ w ∈ u_ws RX2 TX2 2, w ∈ wsX2_takeLatest := by decide +kernel
  have k1 := hts (.fieldLink RX2 15 "DoorMornings$Past" "known" "I") (by decide +kernel)
  have k2 := hts (.fieldLink RX2 9 "DoorMornings$Past" "befores" "[J") (by decide +kernel)
  have hl := lv_entry ([.ref (qa 5)]) (n := 1) (Nat.le_of_ble_eq_true rfl)
  rw [lg_entry_eq]
  generalize (lg_sl ([.ref (qa 5)]) ++ List.replicate (1 - (lg_sl ([.ref (qa 5)])).length) Slot.unset).toArray = ls at hl ⊢
  have hl : lv_has ls 1 [(0, .ref (qa 5))] := hl
  unfold gX2_takeLatest at hG
  refine lv_aload_n hx hb dX2_takeLatest_0 rfl (lv_at hl 0 rfl) ?_
  refine va_get (D := (dC, dI)) (ci := 2) (v := .int p_known) (C := RX2) (T := TX2) (N := 2) hx hb hts hinX2 hown hK hP 0 rfl rfl 1 (by decide) k1 (fun _ h9 => h9) rfl dX2_takeLatest_1 ?_
  refine lv_iconst (v := 1) hx hb dX2_takeLatest_4 (by decide) ?_
  refine lv_icmp_lt (tgt := 17) hx hb dX2_takeLatest_5 (by decide) (fun c1 => ?_) (fun c1 => ?_)
  · replace hG := wq_t c1 hG
    refine lv_lconst (v := 0) hx hb dX2_takeLatest_17 (by decide) ?_
    obtain ⟨e0, e1⟩ := wq_j2 hG
    subst e0
    subst e1
    exact W.lret hx hb hr (fun t ht hW => ⟨⟨_, (), rfl, rfl, by rw [ht]; exact hP, hD⟩, hS.F ht⟩) hS.2.2 dX2_takeLatest_18
  · replace hG := wq_f c1 hG
    refine lv_aload_n hx hb dX2_takeLatest_8 rfl (lv_at hl 0 rfl) ?_
    refine va_get (D := (dC, dI)) (ci := 2) (v := .int p_known) (C := RX2) (T := TX2) (N := 2) hx hb hts hinX2 hown hK hP 0 rfl rfl 1 (by decide) k1 (fun _ h9 => h9) rfl dX2_takeLatest_9 ?_
    refine lv_bipush (v := 10) hx hb dX2_takeLatest_12 (by decide) ?_
    refine lv_icmp_le (tgt := 19) hx hb dX2_takeLatest_14 (by decide) (fun c2 => ?_) (fun c2 => ?_)
    · replace hG := wq_t c2 hG
      refine lv_aload_n hx hb dX2_takeLatest_19 rfl (lv_at hl 0 rfl) ?_
      refine lv_dup hx hb dX2_takeLatest_20 rfl ?_
      refine va_get (D := (dC, dI)) (ci := 2) (v := .int p_known) (C := RX2) (T := TX2) (N := 2) hx hb hts hinX2 hown hK hP 0 rfl rfl 1 (by decide) k1 (fun _ h9 => h9) rfl dX2_takeLatest_21 ?_
      refine lv_iconst (v := 1) hx hb dX2_takeLatest_24 (by decide) ?_
      refine lv_isub hx hb dX2_takeLatest_25 ?_
      refine va_put (D := (dC, dI)) (ci := 2) (v := .int (p_known - 1)) (ty := tyX2 1) (C := RX2) (T := TX2) (N := 2) hx hb hts hinX2 tyX2 tyX2_ok nmX2 hown hK hP hD hS 0 rfl rfl 1 (by decide) k1 (fun _ h9 => h9) rfl (tyX2_ok 1 (by decide)) rfl rfl (Nat.le_of_ble_eq_true rfl) dX2_takeLatest_26 (fun H locs hP hD hS => ?_)
      replace hP : va_P (dC, dI) vwCl (wcP qa cI cJ cZ p_befores (p_known - 1)) H := hP
      replace hD : va_D A (wcP qa cI cJ cZ p_befores (p_known - 1)) := hD
      refine lv_aload_n hx hb dX2_takeLatest_29 rfl (lv_at hl 0 rfl) ?_
      refine va_get (D := (dC, dI)) (ci := 2) (v := .ref (qa 6)) (C := RX2) (T := TX2) (N := 2) hx hb hts hinX2 hown hK hP 0 rfl rfl 0 (by decide) k2 (fun _ h9 => h9) rfl dX2_takeLatest_30 ?_
      refine lv_aload_n hx hb dX2_takeLatest_33 rfl (lv_at hl 0 rfl) ?_
      refine va_get (D := (dC, dI)) (ci := 2) (v := .int (p_known - 1)) (C := RX2) (T := TX2) (N := 2) hx hb hts hinX2 hown hK hP 0 rfl rfl 1 (by decide) k1 (fun _ h9 => h9) rfl dX2_takeLatest_34 ?_
      obtain ⟨h3, hG⟩ := wq_chk_s hG
      refine wq_lald (D := (dC, dI)) hx hb hK hP 1 1 rfl rfl h3 (Int32.toNatClampNeg (p_known - 1)) rfl dX2_takeLatest_37 ?_
      obtain ⟨e0, e1⟩ := wq_j2 hG
      subst e0
      subst e1
      exact W.lret hx hb hr (fun t ht hW => ⟨⟨_, (), rfl, rfl, by rw [ht]; exact hP, hD⟩, hS.F ht⟩) hS.2.2 dX2_takeLatest_38
    · replace hG := wq_f c2 hG
      refine lv_lconst (v := 0) hx hb dX2_takeLatest_17 (by decide) ?_
      obtain ⟨e0, e1⟩ := wq_j2 hG
      subst e0
      subst e1
      exact W.lret hx hb hr (fun t ht hW => ⟨⟨_, (), rfl, rfl, by rw [ht]; exact hP, hD⟩, hS.F ht⟩) hS.2.2 dX2_takeLatest_18

theorem hdV_X0_unfold : yX0_unfold.cls = RX0 ∧ yX0_unfold.cls ≠ "java/lang/invoke/MethodHandle" ∧ yX0_unfold.cls ≠ "java/lang/invoke/VarHandle" ∧ (parseMethodDescriptor yX0_unfold.desc).map (fun d => d.parameters.length) = some 1 := by decide +kernel
set_option maxHeartbeats 4000000 in
set_option maxRecDepth 100000 in
theorem C_X0_unfold (l : Launch) (dC : Nat → ClassId) (dI : Nat → Nat → Nat) (cI cJ cZ : ClassId) (qa : Nat → Nat) (sz : Nat) (n_likings : Nat → Int32) (n_day : Int32) (n_trust : Int32) (n_ill : Int32) (n_done : Int32) (a1 : Int64) (r_n_likings : Nat → Int32) (r_n_day : Int32) (r_n_trust : Int32) (r_n_ill : Int32) (r_n_done : Int32) (hG : gX0_unfold n_likings n_day n_trust n_ill n_done a1 = some (r_n_likings, r_n_day, r_n_trust, r_n_ill, r_n_done)) : Met l yX0_unfold wsX0_unfold ({ frames := 0, cells := 0, slots := 0, locals := 0 } : Room) (va_Pc [.ref (qa 3), .long a1] (wq_pw (dC, dI) [(cI, .int), (cJ, .long), (cZ, .boolean)] (wcN qa cI cJ cZ n_likings n_day n_trust n_ill n_done) sz)) (wq_Wv (dC, dI) (wcN qa cI cJ cZ r_n_likings r_n_day r_n_trust r_n_ill r_n_done) (va_A (wcN qa cI cJ cZ n_likings n_day n_trust n_ill n_done) sz)) 0 0 (va_A (wcN qa cI cJ cZ n_likings n_day n_trust n_ill n_done) sz) := by
  refine Met.ofW (cc := cX0_unfold) (maxL := 6) (ret := none) (by decide) rfl ?_
  intro p e s m args below meth c s₁ B hml hv
  obtain ⟨rfl, hsz, hP, hK, hD0, hE⟩ := hv
  have hx := B.exec
  have hb := B.bytes
  have hr := B.returns
  have hts := atoms_spec (ws := wsX0_unfold) B.pre
  have hown : s.vm.findClass RX0 = some m.cls := findClass_of_methodNamed B.named
  have hlocks := B.notSynchronized
  subst hsz
  have hD := hD0.self (sz := s.heap.size)
  generalize hAe : va_A (wcN qa cI cJ cZ n_likings n_day n_trust n_ill n_done) s.heap.size = A at hD hE ⊢
  have hA : ∀ q : Nat, s.heap.size ≤ q → A q := fun q h => by rw [← hAe]; exact Or.inr h
  have hS : va_S A s.heap s.heap [] := va_S.rf
  have hinX0 : ∀ w ∈ u_ws RX0 TX0 5, w ∈ wsX0_unfold := by decide +kernel
  have k1 := hts (.constantLong RX0 37 (31)) (by decide +kernel)
  have k2 := hts (.fieldLink RX0 19 "DoorMornings$Now" "trust" "I") (by decide +kernel)
  have k3 := hts (.fieldLink RX0 15 "DoorMornings$Now" "day" "I") (by decide +kernel)
  have k4 := hts (.fieldLink RX0 9 "DoorMornings$Now" "likings" "[I") (by decide +kernel)
  have k5 := hts (.constantLong RX0 35 (15)) (by decide +kernel)
  have k6 := hts (.fieldLink RX0 25 "DoorMornings$Now" "done" "Z") (by decide +kernel)
  have k7 := hts (.fieldLink RX0 22 "DoorMornings$Now" "ill" "I") (by decide +kernel)
  have hl := lv_entry ([.ref (qa 3), .long a1]) (n := 6) (Nat.le_of_ble_eq_true rfl)
  rw [lg_entry_eq]
  generalize (lg_sl ([.ref (qa 3), .long a1]) ++ List.replicate (6 - (lg_sl ([.ref (qa 3), .long a1])).length) Slot.unset).toArray = ls at hl ⊢
  have hl : lv_has ls 6 [(0, .ref (qa 3)), (1, .long a1)] := hl
  have hL36 : ∀ (z_n_day : Int32) (z_n_trust : Int32) (z_n_ill : Int32) (z_n_done : Int32) (n : Nat) (x3 : Int64) (x5 : Int32) (z_n_likings : Nat → Int32) (H : Heap) (locs : List Loc) (ls : Array Slot), gX0_unfold_L36 z_n_day z_n_trust z_n_ill z_n_done n x3 x5 z_n_likings = some (r_n_likings, r_n_day, r_n_trust, r_n_ill, r_n_done) → va_P (dC, dI) vwCl (wcN qa cI cJ cZ z_n_likings z_n_day z_n_trust z_n_ill z_n_done) H → va_D A (wcN qa cI cJ cZ z_n_likings z_n_day z_n_trust z_n_ill z_n_done) → va_S A s.heap H locs → lv_has ls 6 [(0, .ref (qa 3)), (3, .long x3), (5, .int x5)] → W p l e (headSpec wsX0_unfold ({ frames := 0, cells := 0, slots := 0, locals := 0 } : Room)).room s m ([.ref (qa 3), .long a1] : List Value).toArray below meth c H locs 0 0 (MQ below (wq_Wv (dC, dI) (wcN qa cI cJ cZ r_n_likings r_n_day r_n_trust r_n_ill r_n_done) A) ([.ref (qa 3), .long a1] : List Value).toArray s 0 0 A) (F0 m 36 ls []) := by
    intro z_n_day z_n_trust z_n_ill z_n_done n
    induction n with
    | zero =>
      intro x3 x5 z_n_likings H locs ls hG
      exact absurd (show (none : Option ((Nat → Int32) × Int32 × Int32 × Int32 × Int32)) = some (r_n_likings, r_n_day, r_n_trust, r_n_ill, r_n_done) from hG) (by intro h9; cases h9)
    | succ n ih36 =>
      intro x3 x5 z_n_likings H locs ls hG hP hD hS hl
      rw [gX0_unfold_L36] at hG
      refine lv_iload hx hb dX0_unfold_36 (lv_at hl 2 rfl) ?_
      refine lv_if_lt (tgt := 64) hx hb dX0_unfold_38 (by decide) (fun c1 => ?_) (fun c1 => ?_)
      · replace hG := wq_t c1 hG
        refine lv_aload_n hx hb dX0_unfold_64 rfl (lv_at hl 0 rfl) ?_
        refine lv_lload_n hx hb dX0_unfold_65 rfl (lv_at hl 1 rfl) ?_
        refine lv_ldc2 (v := 31) hx hb hown k1 dX0_unfold_66 ?_
        refine lv_land hx hb dX0_unfold_69 ?_
        refine lv_l2i hx hb dX0_unfold_70 rfl ?_
        refine va_put (D := (dC, dI)) (ci := 0) (v := .int (Int64.toInt32 (x3 &&& 31))) (ty := tyX0 2) (C := RX0) (T := TX0) (N := 5) hx hb hts hinX0 tyX0 tyX0_ok nmX0 hown hK hP hD hS 0 rfl rfl 2 (by decide) k2 (fun _ h9 => h9) rfl (tyX0_ok 2 (by decide)) rfl rfl (Nat.le_of_ble_eq_true rfl) dX0_unfold_71 (fun H locs hP hD hS => ?_)
        replace hP : va_P (dC, dI) vwCl (wcN qa cI cJ cZ z_n_likings z_n_day (Int64.toInt32 (x3 &&& 31)) z_n_ill z_n_done) H := hP
        replace hD : va_D A (wcN qa cI cJ cZ z_n_likings z_n_day (Int64.toInt32 (x3 &&& 31)) z_n_ill z_n_done) := hD
        refine lv_aload_n hx hb dX0_unfold_74 rfl (lv_at hl 0 rfl) ?_
        refine lv_lload_n hx hb dX0_unfold_75 rfl (lv_at hl 1 rfl) ?_
        refine lv_iconst (v := 5) hx hb dX0_unfold_76 (by decide) ?_
        refine lv_lshr hx hb dX0_unfold_77 rfl ?_
        refine lv_l2i hx hb dX0_unfold_78 rfl ?_
        refine va_put (D := (dC, dI)) (ci := 0) (v := .int (Int64.toInt32 (x3 >>> (Int32.toInt64 5 &&& 63)))) (ty := tyX0 1) (C := RX0) (T := TX0) (N := 5) hx hb hts hinX0 tyX0 tyX0_ok nmX0 hown hK hP hD hS 0 rfl rfl 1 (by decide) k3 (fun _ h9 => h9) rfl (tyX0_ok 1 (by decide)) rfl rfl (Nat.le_of_ble_eq_true rfl) dX0_unfold_79 (fun H locs hP hD hS => ?_)
        replace hP : va_P (dC, dI) vwCl (wcN qa cI cJ cZ z_n_likings (Int64.toInt32 (x3 >>> (Int32.toInt64 5 &&& 63))) (Int64.toInt32 (x3 &&& 31)) z_n_ill z_n_done) H := hP
        replace hD : va_D A (wcN qa cI cJ cZ z_n_likings (Int64.toInt32 (x3 >>> (Int32.toInt64 5 &&& 63))) (Int64.toInt32 (x3 &&& 31)) z_n_ill z_n_done) := hD
        obtain ⟨e0, e1, e2, e3, e4⟩ := wq_j5 hG
        subst e0
        subst e1
        subst e2
        subst e3
        subst e4
        exact W.vret hx hb hr (fun t ht hW => ⟨⟨(), rfl, trivial, by rw [ht]; exact hP, hD⟩, hS.F ht⟩) hS.2.2 dX0_unfold_82
      · replace hG := wq_f c1 hG
        refine lv_aload_n hx hb dX0_unfold_41 rfl (lv_at hl 0 rfl) ?_
        refine va_get (D := (dC, dI)) (ci := 0) (v := .ref (qa 4)) (C := RX0) (T := TX0) (N := 5) hx hb hts hinX0 hown hK hP 0 rfl rfl 0 (by decide) k4 (fun _ h9 => h9) rfl dX0_unfold_42 ?_
        refine lv_iload hx hb dX0_unfold_45 (lv_at hl 2 rfl) ?_
        refine lv_lload_n hx hb dX0_unfold_47 rfl (lv_at hl 1 rfl) ?_
        refine lv_ldc2 (v := 15) hx hb hown k5 dX0_unfold_48 ?_
        refine lv_land hx hb dX0_unfold_51 ?_
        refine lv_l2i hx hb dX0_unfold_52 rfl ?_
        obtain ⟨h2, hG⟩ := wq_chk_s hG
        refine wq_iast (D := (dC, dI)) hx hb hK hP hD hS 1 0 rfl rfl h2 (Int32.toNatClampNeg x5) rfl (wcN qa cI cJ cZ (upd z_n_likings (Int32.toNatClampNeg x5) (Int64.toInt32 (x3 &&& 15))) z_n_day z_n_trust z_n_ill z_n_done) rfl dX0_unfold_53 (fun H locs hP hD hS => ?_)
        refine lv_lload_n hx hb dX0_unfold_54 rfl (lv_at hl 1 rfl) ?_
        refine lv_iconst (v := 4) hx hb dX0_unfold_55 (by decide) ?_
        refine lv_lshr hx hb dX0_unfold_56 rfl ?_
        refine lv_lstore_n (lv' := [(3, .long (x3 >>> (Int32.toInt64 4 &&& 63))), (0, .ref (qa 3)), (5, .int x5)]) hx hb dX0_unfold_57 rfl hl (by decide) rfl (fun ls hl => ?_)
        refine lv_iinc (v := (x5 + (-1))) (lv' := [(5, .int (x5 + (-1))), (3, .long (x3 >>> (Int32.toInt64 4 &&& 63))), (0, .ref (qa 3))]) hx hb dX0_unfold_58 hl (k := 2) rfl rfl (by decide) rfl (fun ls hl => ?_)
        refine lv_goto (tgt := 36) hx hb dX0_unfold_61 (by decide) ?_
        exact ih36 (x3 >>> (Int32.toInt64 4 &&& 63)) (x5 + (-1)) (upd z_n_likings (Int32.toNatClampNeg x5) (Int64.toInt32 (x3 &&& 15))) _ _ _ hG hP hD hS (lv_sub hl [2, 1, 0] rfl)
  unfold gX0_unfold at hG
  refine lv_aload_n hx hb dX0_unfold_0 rfl (lv_at hl 0 rfl) ?_
  refine lv_lload_n hx hb dX0_unfold_1 rfl (lv_at hl 1 rfl) ?_
  refine lv_lconst (v := 1) hx hb dX0_unfold_2 (by decide) ?_
  refine lv_land hx hb dX0_unfold_3 ?_
  refine lv_lconst (v := 1) hx hb dX0_unfold_4 (by decide) ?_
  refine W.lcmp hx hb dX0_unfold_5 ?_
  refine lv_if_ne (tgt := 13) hx hb dX0_unfold_6 (by decide) (fun c3 => ?_) (fun c3 => ?_)
  · replace hG := wq_f c3 hG
    refine lv_iconst (v := 0) hx hb dX0_unfold_13 (by decide) ?_
    refine va_put (D := (dC, dI)) (ci := 0) (v := .int 0) (ty := tyX0 4) (C := RX0) (T := TX0) (N := 5) hx hb hts hinX0 tyX0 tyX0_ok nmX0 hown hK hP hD hS 0 rfl rfl 4 (by decide) k6 (fun _ h9 => h9) rfl (tyX0_ok 4 (by decide)) rfl rfl (Nat.le_of_ble_eq_true rfl) dX0_unfold_14 (fun H locs hP hD hS => ?_)
    replace hP : va_P (dC, dI) vwCl (wcN qa cI cJ cZ n_likings n_day n_trust n_ill 0) H := hP
    replace hD : va_D A (wcN qa cI cJ cZ n_likings n_day n_trust n_ill 0) := hD
    refine lv_aload_n hx hb dX0_unfold_17 rfl (lv_at hl 0 rfl) ?_
    refine lv_lload_n hx hb dX0_unfold_18 rfl (lv_at hl 1 rfl) ?_
    refine lv_iconst (v := 1) hx hb dX0_unfold_19 (by decide) ?_
    refine lv_lshr hx hb dX0_unfold_20 rfl ?_
    refine lv_ldc2 (v := 15) hx hb hown k5 dX0_unfold_21 ?_
    refine lv_land hx hb dX0_unfold_24 ?_
    refine lv_l2i hx hb dX0_unfold_25 rfl ?_
    refine va_put (D := (dC, dI)) (ci := 0) (v := .int (Int64.toInt32 ((a1 >>> (Int32.toInt64 1 &&& 63)) &&& 15))) (ty := tyX0 3) (C := RX0) (T := TX0) (N := 5) hx hb hts hinX0 tyX0 tyX0_ok nmX0 hown hK hP hD hS 0 rfl rfl 3 (by decide) k7 (fun _ h9 => h9) rfl (tyX0_ok 3 (by decide)) rfl rfl (Nat.le_of_ble_eq_true rfl) dX0_unfold_26 (fun H locs hP hD hS => ?_)
    replace hP : va_P (dC, dI) vwCl (wcN qa cI cJ cZ n_likings n_day n_trust (Int64.toInt32 ((a1 >>> (Int32.toInt64 1 &&& 63)) &&& 15)) 0) H := hP
    replace hD : va_D A (wcN qa cI cJ cZ n_likings n_day n_trust (Int64.toInt32 ((a1 >>> (Int32.toInt64 1 &&& 63)) &&& 15)) 0) := hD
    refine lv_lload_n hx hb dX0_unfold_29 rfl (lv_at hl 1 rfl) ?_
    refine lv_iconst (v := 5) hx hb dX0_unfold_30 (by decide) ?_
    refine lv_lshr hx hb dX0_unfold_31 rfl ?_
    refine lv_lstore_n (lv' := [(3, .long (a1 >>> (Int32.toInt64 5 &&& 63))), (0, .ref (qa 3)), (1, .long a1)]) hx hb dX0_unfold_32 rfl hl (by decide) rfl (fun ls hl => ?_)
    refine lv_iconst (v := 3) hx hb dX0_unfold_33 (by decide) ?_
    refine lv_istore (lv' := [(5, .int 3), (3, .long (a1 >>> (Int32.toInt64 5 &&& 63))), (0, .ref (qa 3)), (1, .long a1)]) hx hb dX0_unfold_34 hl (by decide) rfl (fun ls hl => ?_)
    exact hL36 n_day n_trust (Int64.toInt32 ((a1 >>> (Int32.toInt64 1 &&& 63)) &&& 15)) 0 1000 (a1 >>> (Int32.toInt64 5 &&& 63)) 3 n_likings _ _ _ hG hP hD hS (lv_sub hl [2, 1, 0] rfl)
  · replace hG := wq_t c3 hG
    refine lv_iconst (v := 1) hx hb dX0_unfold_9 (by decide) ?_
    refine lv_goto (tgt := 14) hx hb dX0_unfold_10 (by decide) ?_
    refine va_put (D := (dC, dI)) (ci := 0) (v := .int 1) (ty := tyX0 4) (C := RX0) (T := TX0) (N := 5) hx hb hts hinX0 tyX0 tyX0_ok nmX0 hown hK hP hD hS 0 rfl rfl 4 (by decide) k6 (fun _ h9 => h9) rfl (tyX0_ok 4 (by decide)) rfl rfl (Nat.le_of_ble_eq_true rfl) dX0_unfold_14 (fun H locs hP hD hS => ?_)
    replace hP : va_P (dC, dI) vwCl (wcN qa cI cJ cZ n_likings n_day n_trust n_ill 1) H := hP
    replace hD : va_D A (wcN qa cI cJ cZ n_likings n_day n_trust n_ill 1) := hD
    refine lv_aload_n hx hb dX0_unfold_17 rfl (lv_at hl 0 rfl) ?_
    refine lv_lload_n hx hb dX0_unfold_18 rfl (lv_at hl 1 rfl) ?_
    refine lv_iconst (v := 1) hx hb dX0_unfold_19 (by decide) ?_
    refine lv_lshr hx hb dX0_unfold_20 rfl ?_
    refine lv_ldc2 (v := 15) hx hb hown k5 dX0_unfold_21 ?_
    refine lv_land hx hb dX0_unfold_24 ?_
    refine lv_l2i hx hb dX0_unfold_25 rfl ?_
    refine va_put (D := (dC, dI)) (ci := 0) (v := .int (Int64.toInt32 ((a1 >>> (Int32.toInt64 1 &&& 63)) &&& 15))) (ty := tyX0 3) (C := RX0) (T := TX0) (N := 5) hx hb hts hinX0 tyX0 tyX0_ok nmX0 hown hK hP hD hS 0 rfl rfl 3 (by decide) k7 (fun _ h9 => h9) rfl (tyX0_ok 3 (by decide)) rfl rfl (Nat.le_of_ble_eq_true rfl) dX0_unfold_26 (fun H locs hP hD hS => ?_)
    replace hP : va_P (dC, dI) vwCl (wcN qa cI cJ cZ n_likings n_day n_trust (Int64.toInt32 ((a1 >>> (Int32.toInt64 1 &&& 63)) &&& 15)) 1) H := hP
    replace hD : va_D A (wcN qa cI cJ cZ n_likings n_day n_trust (Int64.toInt32 ((a1 >>> (Int32.toInt64 1 &&& 63)) &&& 15)) 1) := hD
    refine lv_lload_n hx hb dX0_unfold_29 rfl (lv_at hl 1 rfl) ?_
    refine lv_iconst (v := 5) hx hb dX0_unfold_30 (by decide) ?_
    refine lv_lshr hx hb dX0_unfold_31 rfl ?_
    refine lv_lstore_n (lv' := [(3, .long (a1 >>> (Int32.toInt64 5 &&& 63))), (0, .ref (qa 3)), (1, .long a1)]) hx hb dX0_unfold_32 rfl hl (by decide) rfl (fun ls hl => ?_)
    refine lv_iconst (v := 3) hx hb dX0_unfold_33 (by decide) ?_
    refine lv_istore (lv' := [(5, .int 3), (3, .long (a1 >>> (Int32.toInt64 5 &&& 63))), (0, .ref (qa 3)), (1, .long a1)]) hx hb dX0_unfold_34 hl (by decide) rfl (fun ls hl => ?_)
    exact hL36 n_day n_trust (Int64.toInt32 ((a1 >>> (Int32.toInt64 1 &&& 63)) &&& 15)) 1 1000 (a1 >>> (Int32.toInt64 5 &&& 63)) 3 n_likings _ _ _ hG hP hD hS (lv_sub hl [2, 1, 0] rfl)

theorem hdV_X6_undo : yX6_undo.cls = RX6 ∧ yX6_undo.cls ≠ "java/lang/invoke/MethodHandle" ∧ yX6_undo.cls ≠ "java/lang/invoke/VarHandle" ∧ (parseMethodDescriptor yX6_undo.desc).map (fun d => d.parameters.length) = some 0 := by decide +kernel
set_option maxHeartbeats 4000000 in
set_option maxRecDepth 100000 in
theorem C_X6_undo (l : Launch) (dC : Nat → ClassId) (dI : Nat → Nat → Nat) (cI cJ cZ : ClassId) (qa : Nat → Nat) (sz : Nat) (r_images : Nat → Int64) (r_asked : Int64) (n_likings : Nat → Int32) (n_day : Int32) (n_trust : Int32) (n_ill : Int32) (n_done : Int32) (p_befores : Nat → Int64) (p_known : Int32) (r0 : Int32) (r_n_likings : Nat → Int32) (r_n_day : Int32) (r_n_trust : Int32) (r_n_ill : Int32) (r_n_done : Int32) (r_p_known : Int32) (hG : gX6_undo n_likings n_day n_trust n_ill n_done p_befores p_known = some (r0, r_n_likings, r_n_day, r_n_trust, r_n_ill, r_n_done, r_p_known)) : Met l yX6_undo wsX6_undo ({ frames := 1, cells := 0, slots := 0, locals := 25 } : Room) (va_Pc [.ref (qa 0)] (wq_pw (dC, dI) [(cI, .int), (cJ, .long), (cZ, .boolean)] (wcRNP qa cI cJ cZ r_images r_asked n_likings n_day n_trust n_ill n_done p_befores p_known) sz)) (wq_Wi (dC, dI) r0 wq_tr (wcRNP qa cI cJ cZ r_images r_asked r_n_likings r_n_day r_n_trust r_n_ill r_n_done p_befores r_p_known) (va_A (wcRNP qa cI cJ cZ r_images r_asked n_likings n_day n_trust n_ill n_done p_befores p_known) sz)) 0 0 (va_A (wcRNP qa cI cJ cZ r_images r_asked n_likings n_day n_trust n_ill n_done p_befores p_known) sz) := by
  refine Met.ofW (cc := cX6_undo) (maxL := 1) (ret := (some .int)) (by decide) rfl ?_
  intro p e s m args below meth c s₁ B hml hv
  obtain ⟨rfl, hsz, hP, hK, hD0, hE⟩ := hv
  have hx := B.exec
  have hb := B.bytes
  have hr := B.returns
  have hts := atoms_spec (ws := wsX6_undo) B.pre
  have hown : s.vm.findClass RX6 = some m.cls := findClass_of_methodNamed B.named
  have hlocks := B.notSynchronized
  subst hsz
  have hD := hD0.self (sz := s.heap.size)
  generalize hAe : va_A (wcRNP qa cI cJ cZ r_images r_asked n_likings n_day n_trust n_ill n_done p_befores p_known) s.heap.size = A at hD hE ⊢
  have hA : ∀ q : Nat, s.heap.size ≤ q → A q := fun q h => by rw [← hAe]; exact Or.inr h
  have hS : va_S A s.heap s.heap [] := va_S.rf
  have hinX6 : ∀ w ∈ u_ws RX6 TX6 9, w ∈ wsX6_undo := by decide +kernel
  have hinX2 : ∀ w ∈ u_ws RX2 TX2 2, w ∈ wsX6_undo := by decide +kernel
  have k1 := hts (.fieldLink RX6 26 "DoorMornings" "past" "LDoorMornings$Past;") (by decide +kernel)
  have k2 := hts (.fieldLink RX6 125 "DoorMornings$Past" "known" "I") (by decide +kernel)
  have k3 := hts (.fieldLink RX6 19 "DoorMornings" "today" "LDoorMornings$Now;") (by decide +kernel)
  have hl := lv_entry ([.ref (qa 0)]) (n := 1) (Nat.le_of_ble_eq_true rfl)
  rw [lg_entry_eq]
  generalize (lg_sl ([.ref (qa 0)]) ++ List.replicate (1 - (lg_sl ([.ref (qa 0)])).length) Slot.unset).toArray = ls at hl ⊢
  have hl : lv_has ls 1 [(0, .ref (qa 0))] := hl
  unfold gX6_undo at hG
  refine lv_aload_n hx hb dX6_undo_0 rfl (lv_at hl 0 rfl) ?_
  refine va_get (D := (dC, dI)) (ci := 6) (v := .ref (qa 5)) (C := RX6) (T := TX6) (N := 9) hx hb hts hinX6 hown hK hP 0 rfl rfl 2 (by decide) k1 (fun _ h9 => h9) rfl dX6_undo_1 ?_
  refine va_get (D := (dC, dI)) (ci := 2) (v := .int p_known) (C := RX2) (T := TX2) (N := 2) hx hb hts hinX2 hown hK hP 4 rfl rfl 1 (by decide) k2 (fun _ h9 => h9) rfl dX6_undo_4 ?_
  refine lv_iconst (v := 1) hx hb dX6_undo_7 (by decide) ?_
  refine lv_icmp_ge (tgt := 14) hx hb dX6_undo_8 (by decide) (fun c1 => ?_) (fun c1 => ?_)
  · replace hG := wq_t c1 hG
    refine lv_aload_n hx hb dX6_undo_14 rfl (lv_at hl 0 rfl) ?_
    refine va_get (D := (dC, dI)) (ci := 6) (v := .ref (qa 3)) (C := RX6) (T := TX6) (N := 9) hx hb hts hinX6 hown hK hP 0 rfl rfl 1 (by decide) k3 (fun _ h9 => h9) rfl dX6_undo_15 ?_
    refine lv_aload_n hx hb dX6_undo_18 rfl (lv_at hl 0 rfl) ?_
    refine va_get (D := (dC, dI)) (ci := 6) (v := .ref (qa 5)) (C := RX6) (T := TX6) (N := 9) hx hb hts hinX6 hown hK hP 0 rfl rfl 2 (by decide) k1 (fun _ h9 => h9) rfl dX6_undo_19 ?_
    obtain ⟨v3, w4, g2, hG⟩ := wq_b2_s hG
    have hFc := va_free (wc := wcP qa cI cJ cZ p_befores p_known) hD hS hA [4, 5] rfl
    refine wq_dl (D := (dC, dI)) (v := v3) (wr := wcRN qa cI cJ cZ r_images r_asked n_likings n_day n_trust n_ill n_done) (w1 := wcP qa cI cJ cZ p_befores w4) (w2 := wcRNP qa cI cJ cZ r_images r_asked n_likings n_day n_trust n_ill n_done p_befores w4) (va_runV (As := []) (rest := [.ref (qa 3)]) ⟨hx, hb, hml, hown, hts⟩ (C_X2_takeLatest l dC dI cI cJ cZ qa s.heap.size p_befores p_known  v3 w4 g2) (cwV 0 hts gX6_undo_X2_takeLatest rfl rfl rfl hdV_X2_takeLatest ⟨Nat.le_of_ble_eq_true rfl, Nat.le_of_ble_eq_true rfl⟩) (wq_pwV hK (hP.sub (ws' := wcP qa cI cJ cZ p_befores p_known) [4, 5] rfl) (hD.sub (ws' := wcP qa cI cJ cZ p_befores p_known) [4, 5] (by decide) rfl) hE hS hFc (ci := 2) (q0 := 0) rfl rfl) rfl rfl hl.1 rfl (lv_room (Nat.le_of_ble_eq_true rfl)) dX6_undo_22 ⟨Nat.zero_le _, Nat.zero_le _⟩) hP hD hS hFc [4, 5] [0, 1, 2, 3] [0, 1, 2, 3, 4, 5] rfl rfl (by decide) (by decide) (by decide) rfl (fun H locs hP hD hS => ?_)
    clear hFc
    obtain ⟨w6, w7, w8, w9, w10, g5, hG⟩ := wq_b5_s hG
    have hFc := va_free (wc := wcN qa cI cJ cZ n_likings n_day n_trust n_ill n_done) hD hS hA [2, 3] rfl
    refine wq_dv (D := (dC, dI)) (wr := wcRP qa cI cJ cZ r_images r_asked p_befores w4) (w1 := wcN qa cI cJ cZ w6 w7 w8 w9 w10) (w2 := wcRNP qa cI cJ cZ r_images r_asked w6 w7 w8 w9 w10 p_befores w4) (va_runV (As := [.long v3]) (rest := []) ⟨hx, hb, hml, hown, hts⟩ (C_X0_unfold l dC dI cI cJ cZ qa H.size n_likings n_day n_trust n_ill n_done v3 w6 w7 w8 w9 w10 g5) (cwV 1 hts gX6_undo_X0_unfold rfl rfl rfl hdV_X0_unfold ⟨Nat.le_of_ble_eq_true rfl, Nat.le_of_ble_eq_true rfl⟩) (wq_pwV hK (hP.sub (ws' := wcN qa cI cJ cZ n_likings n_day n_trust n_ill n_done) [2, 3] rfl) (hD.sub (ws' := wcN qa cI cJ cZ n_likings n_day n_trust n_ill n_done) [2, 3] (by decide) rfl) hE hS hFc (ci := 0) (q0 := 0) rfl rfl) rfl rfl hl.1 rfl (lv_room (Nat.le_of_ble_eq_true rfl)) dX6_undo_25 ⟨Nat.zero_le _, Nat.zero_le _⟩) hP hD hS hFc [2, 3] [0, 1, 4, 5] [0, 1, 4, 5, 2, 3] rfl rfl (by decide) (by decide) (by decide) rfl (fun H locs hP hD hS => ?_)
    clear hFc
    refine lv_aload_n hx hb dX6_undo_28 rfl (lv_at hl 0 rfl) ?_
    refine va_get (D := (dC, dI)) (ci := 6) (v := .ref (qa 5)) (C := RX6) (T := TX6) (N := 9) hx hb hts hinX6 hown hK hP 0 rfl rfl 2 (by decide) k1 (fun _ h9 => h9) rfl dX6_undo_29 ?_
    refine va_get (D := (dC, dI)) (ci := 2) (v := .int w4) (C := RX2) (T := TX2) (N := 2) hx hb hts hinX2 hown hK hP 4 rfl rfl 1 (by decide) k2 (fun _ h9 => h9) rfl dX6_undo_32 ?_
    obtain ⟨e0, e1, e2, e3, e4, e5, e6⟩ := wq_j7 hG
    subst e0
    subst e1
    subst e2
    subst e3
    subst e4
    subst e5
    subst e6
    exact W.iret hx hb hr (fun t ht hW => ⟨⟨_, (), rfl, ⟨rfl, trivial⟩, by rw [ht]; exact hP, hD⟩, hS.F ht⟩) hS.2.2 dX6_undo_35
  · replace hG := wq_f c1 hG
    refine lv_bipush (v := (-2)) hx hb dX6_undo_11 (by decide) ?_
    obtain ⟨e0, e1, e2, e3, e4, e5, e6⟩ := wq_j7 hG
    subst e0
    subst e1
    subst e2
    subst e3
    subst e4
    subst e5
    subst e6
    exact W.iret hx hb hr (fun t ht hW => ⟨⟨_, (), rfl, ⟨rfl, trivial⟩, by rw [ht]; exact hP, hD⟩, hS.F ht⟩) hS.2.2 dX6_undo_13

theorem hdV_X6_would : yX6_would.cls = RX6 ∧ yX6_would.cls ≠ "java/lang/invoke/MethodHandle" ∧ yX6_would.cls ≠ "java/lang/invoke/VarHandle" ∧ (parseMethodDescriptor yX6_would.desc).map (fun d => d.parameters.length) = some 3 := by decide +kernel
set_option maxHeartbeats 4000000 in
set_option maxRecDepth 100000 in
theorem C_X6_would (l : Launch) (dC : Nat → ClassId) (dI : Nat → Nat → Nat) (cI cJ cZ : ClassId) (qa : Nat → Nat) (sz : Nat) (r_images : Nat → Int64) (r_asked : Int64) (n_likings : Nat → Int32) (n_day : Int32) (n_trust : Int32) (n_ill : Int32) (n_done : Int32) (t_tears : Nat → Int32) (t_gains : Nat → Int32) (t_likings : Nat → Int32) (t_settings : Nat → Int32) (t_goodbyes : Int32) (t_women : Int32) (a1 : Int32) (a2 : Int32) (a3 : Int32) (r0 : Int32) (hG : gX6_would n_likings n_trust t_tears t_settings t_goodbyes t_women a1 a2 a3 = some r0) : Met l yX6_would wsX6_would ({ frames := 4, cells := 0, slots := 0, locals := 89 } : Room) (va_Pc [.ref (qa 0), .int a1, .int a2, .int a3] (wq_pp (dC, dI) [(cI, .int), (cJ, .long), (cZ, .boolean)] (wcRNT qa cI cJ cZ r_images r_asked n_likings n_day n_trust n_ill n_done t_tears t_gains t_likings t_settings t_goodbyes t_women) sz)) (wq_Qi r0 wq_tr (va_A [] sz)) 0 0 (va_A [] sz) := by
  refine Met.ofW (cc := cX6_would) (maxL := 4) (ret := (some .int)) (by decide) rfl ?_
  intro p e s m args below meth c s₁ B hml hv
  obtain ⟨rfl, hsz, hP, hK, hE⟩ := hv
  have hx := B.exec
  have hb := B.bytes
  have hr := B.returns
  have hts := atoms_spec (ws := wsX6_would) B.pre
  have hown : s.vm.findClass RX6 = some m.cls := findClass_of_methodNamed B.named
  have hlocks := B.notSynchronized
  subst hsz
  generalize hAe : va_A [] s.heap.size = A at hE ⊢
  have hA : ∀ q : Nat, s.heap.size ≤ q → A q := fun q h => by rw [← hAe]; exact Or.inr h
  have hS : va_S A s.heap s.heap [] := va_S.rf
  have hl := lv_entry ([.ref (qa 0), .int a1, .int a2, .int a3]) (n := 4) (Nat.le_of_ble_eq_true rfl)
  rw [lg_entry_eq]
  generalize (lg_sl ([.ref (qa 0), .int a1, .int a2, .int a3]) ++ List.replicate (4 - (lg_sl ([.ref (qa 0), .int a1, .int a2, .int a3])).length) Slot.unset).toArray = ls at hl ⊢
  have hl : lv_has ls 4 [(0, .ref (qa 0)), (1, .int a1), (2, .int a2), (3, .int a3)] := hl
  unfold gX6_would at hG
  refine lv_aload_n hx hb dX6_would_0 rfl (lv_at hl 0 rfl) ?_
  refine lv_iload_n hx hb dX6_would_1 rfl (lv_at hl 1 rfl) ?_
  refine lv_iload_n hx hb dX6_would_2 rfl (lv_at hl 2 rfl) ?_
  refine lv_iload_n hx hb dX6_would_3 rfl (lv_at hl 3 rfl) ?_
  obtain ⟨v2, g1, hG⟩ := wq_b1_s hG
  refine wq_ci (v := v2) (B := wq_Z1) (va_runV (As := [.int a1, .int a2, .int a3]) (rest := []) ⟨hx, hb, hml, hown, hts⟩ (C_X6_isMorning l dC dI cI cJ cZ qa s.heap.size r_images r_asked t_tears t_gains t_likings t_settings t_goodbyes t_women a1 a2 a3 v2 g1) (cwV 3 hts gX6_would_X6_isMorning rfl rfl rfl hdV_X6_isMorning ⟨Nat.le_of_ble_eq_true rfl, Nat.le_of_ble_eq_true rfl⟩) (wq_ppV hK (hP.sub (ws' := wcRT qa cI cJ cZ r_images r_asked t_tears t_gains t_likings t_settings t_goodbyes t_women) [0, 1, 4, 5, 6, 7, 8] rfl) hE hS hA (ci := 6) (q0 := 0) rfl rfl) rfl rfl hl.1 rfl (lv_room (Nat.le_of_ble_eq_true rfl)) dX6_would_4 ⟨Nat.zero_le _, Nat.zero_le _⟩) hS hA (fun H locs b3 hk hS => ?_)
  replace hP := wq_kp hP hk
  clear hk
  refine lv_if_ne (tgt := 12) hx hb dX6_would_7 (by decide) (fun c4 => ?_) (fun c4 => ?_)
  · replace hG := wq_f c4 hG
    refine lv_aload_n hx hb dX6_would_12 rfl (lv_at hl 0 rfl) ?_
    refine lv_iload_n hx hb dX6_would_13 rfl (lv_at hl 1 rfl) ?_
    refine lv_iload_n hx hb dX6_would_14 rfl (lv_at hl 2 rfl) ?_
    refine lv_iload_n hx hb dX6_would_15 rfl (lv_at hl 3 rfl) ?_
    obtain ⟨v6, g5, hG⟩ := wq_b1_s hG
    refine wq_ci (v := v6) (B := wq_tr) (va_runV (As := [.int a1, .int a2, .int a3]) (rest := []) ⟨hx, hb, hml, hown, hts⟩ (C_X6_minutesNow l dC dI cI cJ cZ qa H.size r_images r_asked n_likings n_day n_trust n_ill n_done t_tears t_gains t_likings t_settings t_goodbyes t_women a1 a2 a3 v6 g5) (cwV 3 hts gX6_would_X6_minutesNow rfl rfl rfl hdV_X6_minutesNow ⟨Nat.le_of_ble_eq_true rfl, Nat.le_of_ble_eq_true rfl⟩) (wq_ppV hK hP hE hS hA (ci := 6) (q0 := 0) rfl rfl) rfl rfl hl.1 rfl (lv_room (Nat.le_of_ble_eq_true rfl)) dX6_would_16 ⟨Nat.zero_le _, Nat.zero_le _⟩) hS hA (fun H locs b7 hk hS => ?_)
    replace hP := wq_kp hP hk
    clear hk
    exact W.iret (v := v6) hx hb hr (fun t ht hW => ⟨⟨v6, (), rfl, ⟨Option.some.inj hG, trivial⟩, trivial⟩, hS.F ht⟩) hS.2.2 dX6_would_19
  · replace hG := wq_t c4 hG
    refine lv_iconst (v := (-1)) hx hb dX6_would_10 (by decide) ?_
    exact W.iret (v := (-1)) hx hb hr (fun t ht hW => ⟨⟨(-1), (), rfl, ⟨Option.some.inj hG, trivial⟩, trivial⟩, hS.F ht⟩) hS.2.2 dX6_would_11

theorem hdV_X6_farthest : yX6_farthest.cls = RX6 ∧ yX6_farthest.cls ≠ "java/lang/invoke/MethodHandle" ∧ yX6_farthest.cls ≠ "java/lang/invoke/VarHandle" ∧ (parseMethodDescriptor yX6_farthest.desc).map (fun d => d.parameters.length) = some 2 := by decide +kernel
set_option maxHeartbeats 4000000 in
set_option maxRecDepth 100000 in
theorem C_X6_farthest (l : Launch) (dC : Nat → ClassId) (dI : Nat → Nat → Nat) (cI cJ cZ : ClassId) (qa : Nat → Nat) (sz : Nat) (r_images : Nat → Int64) (r_asked : Int64) (n_likings : Nat → Int32) (n_day : Int32) (n_trust : Int32) (n_ill : Int32) (n_done : Int32) (t_tears : Nat → Int32) (t_gains : Nat → Int32) (t_likings : Nat → Int32) (t_settings : Nat → Int32) (t_goodbyes : Int32) (t_women : Int32) (a1 : Int32) (a2 : Int32) (r0 : Int32) (hG : gX6_farthest n_likings n_trust t_tears t_settings t_goodbyes t_women a1 a2 = some r0) : Met l yX6_farthest wsX6_farthest ({ frames := 4, cells := 0, slots := 0, locals := 88 } : Room) (va_Pc [.ref (qa 0), .int a1, .int a2] (wq_pp (dC, dI) [(cI, .int), (cJ, .long), (cZ, .boolean)] (wcRNT qa cI cJ cZ r_images r_asked n_likings n_day n_trust n_ill n_done t_tears t_gains t_likings t_settings t_goodbyes t_women) sz)) (wq_Qi r0 wq_tr (va_A [] sz)) 0 0 (va_A [] sz) := by
  refine Met.ofW (cc := cX6_farthest) (maxL := 4) (ret := (some .int)) (by decide) rfl ?_
  intro p e s m args below meth c s₁ B hml hv
  obtain ⟨rfl, hsz, hP, hK, hE⟩ := hv
  have hx := B.exec
  have hb := B.bytes
  have hr := B.returns
  have hts := atoms_spec (ws := wsX6_farthest) B.pre
  have hown : s.vm.findClass RX6 = some m.cls := findClass_of_methodNamed B.named
  have hlocks := B.notSynchronized
  subst hsz
  generalize hAe : va_A [] s.heap.size = A at hE ⊢
  have hA : ∀ q : Nat, s.heap.size ≤ q → A q := fun q h => by rw [← hAe]; exact Or.inr h
  have hS : va_S A s.heap s.heap [] := va_S.rf
  have hinX6 : ∀ w ∈ u_ws RX6 TX6 9, w ∈ wsX6_farthest := by decide +kernel
  have k1 := hts (.fieldLink RX6 53 "DoorMornings" "told" "LDoorMornings$Told;") (by decide +kernel)
  have hl := lv_entry ([.ref (qa 0), .int a1, .int a2]) (n := 4) (Nat.le_of_ble_eq_true rfl)
  rw [lg_entry_eq]
  generalize (lg_sl ([.ref (qa 0), .int a1, .int a2]) ++ List.replicate (4 - (lg_sl ([.ref (qa 0), .int a1, .int a2])).length) Slot.unset).toArray = ls at hl ⊢
  have hl : lv_has ls 4 [(0, .ref (qa 0)), (1, .int a1), (2, .int a2)] := hl
  unfold gX6_farthest at hG
  refine lv_aload_n hx hb dX6_farthest_0 rfl (lv_at hl 0 rfl) ?_
  refine va_get (D := (dC, dI)) (ci := 6) (v := .ref (qa 16)) (C := RX6) (T := TX6) (N := 9) hx hb hts hinX6 hown hK hP 0 rfl rfl 6 (by decide) k1 (fun _ h9 => h9) rfl dX6_farthest_1 ?_
  refine lv_iload_n hx hb dX6_farthest_4 rfl (lv_at hl 1 rfl) ?_
  obtain ⟨v2, g1, hG⟩ := wq_b1_s hG
  refine wq_ci (v := v2) (B := wq_Z1) (va_runV (As := [.int a1]) (rest := []) ⟨hx, hb, hml, hown, hts⟩ (C_X5_hasGoodbye l dC dI cI cJ cZ qa s.heap.size t_tears t_gains t_likings t_settings t_goodbyes t_women a1 v2 g1) (cwV 1 hts gX6_farthest_X5_hasGoodbye rfl rfl rfl hdV_X5_hasGoodbye ⟨Nat.le_of_ble_eq_true rfl, Nat.le_of_ble_eq_true rfl⟩) (wq_ppV hK (hP.sub (ws' := wcT qa cI cJ cZ t_tears t_gains t_likings t_settings t_goodbyes t_women) [4, 5, 6, 7, 8] rfl) hE hS hA (ci := 5) (q0 := 0) rfl rfl) rfl rfl hl.1 rfl (lv_room (Nat.le_of_ble_eq_true rfl)) dX6_farthest_5 ⟨Nat.zero_le _, Nat.zero_le _⟩) hS hA (fun H locs b3 hk hS => ?_)
  replace hP := wq_kp hP hk
  clear hk
  refine lv_if_eq (tgt := 22) hx hb dX6_farthest_8 (by decide) (fun c4 => ?_) (fun c4 => ?_)
  · replace hG := wq_t c4 hG
    refine lv_iconst (v := (-1)) hx hb dX6_farthest_22 (by decide) ?_
    exact W.iret (v := (-1)) hx hb hr (fun t ht hW => ⟨⟨(-1), (), rfl, ⟨Option.some.inj hG, trivial⟩, trivial⟩, hS.F ht⟩) hS.2.2 dX6_farthest_23
  · replace hG := wq_f c4 hG
    refine lv_aload_n hx hb dX6_farthest_11 rfl (lv_at hl 0 rfl) ?_
    refine va_get (D := (dC, dI)) (ci := 6) (v := .ref (qa 16)) (C := RX6) (T := TX6) (N := 9) hx hb hts hinX6 hown hK hP 0 rfl rfl 6 (by decide) k1 (fun _ h9 => h9) rfl dX6_farthest_12 ?_
    refine lv_iload_n hx hb dX6_farthest_15 rfl (lv_at hl 2 rfl) ?_
    obtain ⟨v6, g5, hG⟩ := wq_b1_s hG
    refine wq_ci (v := v6) (B := wq_Z1) (va_runV (As := [.int a2]) (rest := []) ⟨hx, hb, hml, hown, hts⟩ (C_X5_hasWoman l dC dI cI cJ cZ qa H.size t_tears t_gains t_likings t_settings t_goodbyes t_women a2 v6 g5) (cwV 1 hts gX6_farthest_X5_hasWoman rfl rfl rfl hdV_X5_hasWoman ⟨Nat.le_of_ble_eq_true rfl, Nat.le_of_ble_eq_true rfl⟩) (wq_ppV hK (hP.sub (ws' := wcT qa cI cJ cZ t_tears t_gains t_likings t_settings t_goodbyes t_women) [4, 5, 6, 7, 8] rfl) hE hS hA (ci := 5) (q0 := 0) rfl rfl) rfl rfl hl.1 rfl (lv_room (Nat.le_of_ble_eq_true rfl)) dX6_farthest_16 ⟨Nat.zero_le _, Nat.zero_le _⟩) hS hA (fun H locs b7 hk hS => ?_)
    replace hP := wq_kp hP hk
    clear hk
    refine lv_if_ne (tgt := 24) hx hb dX6_farthest_19 (by decide) (fun c8 => ?_) (fun c8 => ?_)
    · replace hG := wq_f c8 hG
      refine lv_aload_n hx hb dX6_farthest_24 rfl (lv_at hl 0 rfl) ?_
      refine lv_iload_n hx hb dX6_farthest_25 rfl (lv_at hl 1 rfl) ?_
      refine lv_iload_n hx hb dX6_farthest_26 rfl (lv_at hl 2 rfl) ?_
      obtain ⟨v10, g9, hG⟩ := wq_b1_s hG
      refine wq_ci (v := v10) (B := wq_tr) (va_runV (As := [.int a1, .int a2]) (rest := []) ⟨hx, hb, hml, hown, hts⟩ (C_X6_reachNow l dC dI cI cJ cZ qa H.size r_images r_asked n_likings n_day n_trust n_ill n_done t_tears t_gains t_likings t_settings t_goodbyes t_women a1 a2 v10 g9) (cwV 2 hts gX6_farthest_X6_reachNow rfl rfl rfl hdV_X6_reachNow ⟨Nat.le_of_ble_eq_true rfl, Nat.le_of_ble_eq_true rfl⟩) (wq_ppV hK hP hE hS hA (ci := 6) (q0 := 0) rfl rfl) rfl rfl hl.1 rfl (lv_room (Nat.le_of_ble_eq_true rfl)) dX6_farthest_27 ⟨Nat.zero_le _, Nat.zero_le _⟩) hS hA (fun H locs b11 hk hS => ?_)
      replace hP := wq_kp hP hk
      clear hk
      refine lv_istore_n (lv' := [(3, .int v10), (0, .ref (qa 0)), (1, .int a1), (2, .int a2)]) hx hb dX6_farthest_30 rfl hl (by decide) rfl (fun ls hl => ?_)
      refine lv_iload_n hx hb dX6_farthest_31 rfl (lv_at hl 0 rfl) ?_
      refine lv_iconst (v := 1) hx hb dX6_farthest_32 (by decide) ?_
      refine lv_icmp_ge (tgt := 41) hx hb dX6_farthest_33 (by decide) (fun c12 => ?_) (fun c12 => ?_)
      · replace hG := wq_t c12 hG
        refine lv_iload_n hx hb dX6_farthest_41 rfl (lv_at hl 0 rfl) ?_
        exact W.iret (v := v10) hx hb hr (fun t ht hW => ⟨⟨v10, (), rfl, ⟨Option.some.inj hG, trivial⟩, trivial⟩, hS.F ht⟩) hS.2.2 dX6_farthest_42
      · replace hG := wq_f c12 hG
        refine lv_bipush (v := (-9)) hx hb dX6_farthest_36 (by decide) ?_
        refine lv_goto (tgt := 42) hx hb dX6_farthest_38 (by decide) ?_
        exact W.iret (v := (-9)) hx hb hr (fun t ht hW => ⟨⟨(-9), (), rfl, ⟨Option.some.inj hG, trivial⟩, trivial⟩, hS.F ht⟩) hS.2.2 dX6_farthest_42
    · replace hG := wq_t c8 hG
      refine lv_iconst (v := (-1)) hx hb dX6_farthest_22 (by decide) ?_
      exact W.iret (v := (-1)) hx hb hr (fun t ht hW => ⟨⟨(-1), (), rfl, ⟨Option.some.inj hG, trivial⟩, trivial⟩, hS.F ht⟩) hS.2.2 dX6_farthest_23

theorem hdS_X1_placeOf : yX1_placeOf.cls ≠ "java/lang/invoke/MethodHandle" ∧ yX1_placeOf.cls ≠ "java/lang/invoke/VarHandle" ∧ (parseMethodDescriptor yX1_placeOf.desc).map (fun d => d.parameters.length) = some 2 := by decide +kernel
set_option maxHeartbeats 4000000 in
set_option maxRecDepth 100000 in
theorem C_X1_placeOf (l : Launch) (dC : Nat → ClassId) (dI : Nat → Nat → Nat) (cI cJ cZ : ClassId) (qa : Nat → Nat) (sz : Nat) (a0 : Int32) (a1 : Int32) (r0 : Int32) (hG : gX1_placeOf a0 a1 = some r0) : Met l yX1_placeOf wsX1_placeOf ({ frames := 0, cells := 0, slots := 0, locals := 0 } : Room) (va_Pc [.int a0, .int a1] (wq_pp (dC, dI) [(cI, .int), (cJ, .long), (cZ, .boolean)] ([]) sz)) (wq_Qi r0 wq_tr (va_A [] sz)) 0 0 (va_A [] sz) := by
  refine Met.ofW (cc := cX1_placeOf) (maxL := 2) (ret := (some .int)) (by decide) rfl ?_
  intro p e s m args below meth c s₁ B hml hv
  obtain ⟨rfl, hsz, hP, hK, hE⟩ := hv
  have hx := B.exec
  have hb := B.bytes
  have hr := B.returns
  have hts := atoms_spec (ws := wsX1_placeOf) B.pre
  have hown : s.vm.findClass RX1 = some m.cls := findClass_of_methodNamed B.named
  have hlocks := B.notSynchronized
  subst hsz
  generalize hAe : va_A [] s.heap.size = A at hE ⊢
  have hA : ∀ q : Nat, s.heap.size ≤ q → A q := fun q h => by rw [← hAe]; exact Or.inr h
  have hS : va_S A s.heap s.heap [] := va_S.rf
  have hl := lv_entry ([.int a0, .int a1]) (n := 2) (Nat.le_of_ble_eq_true rfl)
  rw [lg_entry_eq]
  generalize (lg_sl ([.int a0, .int a1]) ++ List.replicate (2 - (lg_sl ([.int a0, .int a1])).length) Slot.unset).toArray = ls at hl ⊢
  have hl : lv_has ls 2 [(0, .int a0), (1, .int a1)] := hl
  unfold gX1_placeOf at hG
  refine lv_iload_n hx hb dX1_placeOf_0 rfl (lv_at hl 0 rfl) ?_
  refine lv_bipush (v := 10) hx hb dX1_placeOf_1 (by decide) ?_
  refine lv_imul hx hb dX1_placeOf_3 ?_
  refine lv_iload_n hx hb dX1_placeOf_4 rfl (lv_at hl 1 rfl) ?_
  refine lv_iadd hx hb dX1_placeOf_5 ?_
  exact W.iret (v := ((a0 * 10) + a1)) hx hb hr (fun t ht hW => ⟨⟨((a0 * 10) + a1), (), rfl, ⟨Option.some.inj hG, trivial⟩, trivial⟩, hS.F ht⟩) hS.2.2 dX1_placeOf_6

