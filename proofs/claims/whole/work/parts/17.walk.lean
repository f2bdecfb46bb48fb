theorem hdS_X1_isPlace : yX1_isPlace.cls ≠ "java/lang/invoke/MethodHandle" ∧ yX1_isPlace.cls ≠ "java/lang/invoke/VarHandle" ∧ (parseMethodDescriptor yX1_isPlace.desc).map (fun d => d.parameters.length) = some 1 := by decide +kernel
set_option maxHeartbeats 4000000 in
set_option maxRecDepth 100000 in
theorem C_X1_isPlace (l : Launch) (dC : Nat → ClassId) (dI : Nat → Nat → Nat) (cI cJ cZ : ClassId) (qa : Nat → Nat) (sz : Nat) (a0 : Int32) (r0 : Int32) (hG : gX1_isPlace a0 = some r0) : Met l yX1_isPlace wsX1_isPlace ({ frames := 0, cells := 0, slots := 0, locals := 0 } : Room) (va_Pc [.int a0] (wq_pp (dC, dI) [(cI, .int), (cJ, .long), (cZ, .boolean)] ([]) sz)) (wq_Qi r0 wq_Z1 (va_A [] sz)) 0 0 (va_A [] sz) := by
  refine Met.ofW (cc := cX1_isPlace) (maxL := 1) (ret := (some .boolean)) (by decide) rfl ?_
  intro p e s m args below meth c s₁ B hml hv
  obtain ⟨rfl, hsz, hP, hK, hE⟩ := hv
  have hx := B.exec
  have hb := B.bytes
  have hr := B.returns
  have hts := atoms_spec (ws := wsX1_isPlace) B.pre
  have hown : s.vm.findClass RX1 = some m.cls := findClass_of_methodNamed B.named
  have hlocks := B.notSynchronized
  subst hsz
  generalize hAe : va_A [] s.heap.size = A at hE ⊢
  have hA : ∀ q : Nat, s.heap.size ≤ q → A q := fun q h => by rw [← hAe]; exact Or.inr h
  have hS : va_S A s.heap s.heap [] := va_S.rf
  have hl := lv_entry ([.int a0]) (n := 1) (Nat.le_of_ble_eq_true rfl)
  rw [lg_entry_eq]
  generalize (lg_sl ([.int a0]) ++ List.replicate (1 - (lg_sl ([.int a0])).length) Slot.unset).toArray = ls at hl ⊢
  have hl : lv_has ls 1 [(0, .int a0)] := hl
  unfold gX1_isPlace at hG
  refine lv_iload_n hx hb dX1_isPlace_0 rfl (lv_at hl 0 rfl) ?_
  refine lv_if_lt (tgt := 15) hx hb dX1_isPlace_1 (by decide) (fun c1 => ?_) (fun c1 => ?_)
  · replace hG := wq_t c1 hG
    refine lv_iconst (v := 0) hx hb dX1_isPlace_15 (by decide) ?_
    exact W.zret (v := 0) hx hb hr (wq_Z1_n (Or.inl rfl)) (fun t ht hW => ⟨⟨0, (), rfl, ⟨Option.some.inj hG, (Or.inl rfl)⟩, trivial⟩, hS.F ht⟩) hS.2.2 dX1_isPlace_16
  · replace hG := wq_f c1 hG
    refine lv_iload_n hx hb dX1_isPlace_4 rfl (lv_at hl 0 rfl) ?_
    refine lv_sipush (v := 250) hx hb dX1_isPlace_5 (by decide) ?_
    refine lv_icmp_ge (tgt := 15) hx hb dX1_isPlace_8 (by decide) (fun c2 => ?_) (fun c2 => ?_)
    · replace hG := wq_t c2 hG
      refine lv_iconst (v := 0) hx hb dX1_isPlace_15 (by decide) ?_
      exact W.zret (v := 0) hx hb hr (wq_Z1_n (Or.inl rfl)) (fun t ht hW => ⟨⟨0, (), rfl, ⟨Option.some.inj hG, (Or.inl rfl)⟩, trivial⟩, hS.F ht⟩) hS.2.2 dX1_isPlace_16
    · replace hG := wq_f c2 hG
      refine lv_iconst (v := 1) hx hb dX1_isPlace_11 (by decide) ?_
      refine lv_goto (tgt := 16) hx hb dX1_isPlace_12 (by decide) ?_
      exact W.zret (v := 1) hx hb hr (wq_Z1_n (Or.inr rfl)) (fun t ht hW => ⟨⟨1, (), rfl, ⟨Option.some.inj hG, (Or.inr rfl)⟩, trivial⟩, hS.F ht⟩) hS.2.2 dX1_isPlace_16

theorem hdV_X1_offer : yX1_offer.cls = RX1 ∧ yX1_offer.cls ≠ "java/lang/invoke/MethodHandle" ∧ yX1_offer.cls ≠ "java/lang/invoke/VarHandle" ∧ (parseMethodDescriptor yX1_offer.desc).map (fun d => d.parameters.length) = some 4 := by decide +kernel
set_option maxHeartbeats 4000000 in
set_option maxRecDepth 100000 in
theorem C_X1_offer (l : Launch) (dC : Nat → ClassId) (dI : Nat → Nat → Nat) (cI cJ cZ : ClassId) (qa : Nat → Nat) (sz : Nat) (o_fewest : Nat → Int32) (o_rows : Nat → Int32) (o_first : Nat → Int32) (o_stands : Int32) (a1 : Int32) (a2 : Int32) (a3 : Int32) (a4 : Int32) (r_o_fewest : Nat → Int32) (r_o_rows : Nat → Int32) (r_o_first : Nat → Int32) (hG : gX1_offer o_fewest o_rows o_first a1 a2 a3 a4 = some (r_o_fewest, r_o_rows, r_o_first)) : Met l yX1_offer wsX1_offer ({ frames := 1, cells := 0, slots := 0, locals := 20 } : Room) (va_Pc [.ref (qa 11), .int a1, .int a2, .int a3, .int a4] (wq_pw (dC, dI) [(cI, .int), (cJ, .long), (cZ, .boolean)] (wcO qa cI cJ cZ o_fewest o_rows o_first o_stands) sz)) (wq_Wv (dC, dI) (wcO qa cI cJ cZ r_o_fewest r_o_rows r_o_first o_stands) (va_A (wcO qa cI cJ cZ o_fewest o_rows o_first o_stands) sz)) 0 0 (va_A (wcO qa cI cJ cZ o_fewest o_rows o_first o_stands) sz) := by
  refine Met.ofW (cc := cX1_offer) (maxL := 5) (ret := none) (by decide) rfl ?_
  intro p e s m args below meth c s₁ B hml hv
  obtain ⟨rfl, hsz, hP, hK, hD0, hE⟩ := hv
  have hx := B.exec
  have hb := B.bytes
  have hr := B.returns
  have hts := atoms_spec (ws := wsX1_offer) B.pre
  have hown : s.vm.findClass RX1 = some m.cls := findClass_of_methodNamed B.named
  have hlocks := B.notSynchronized
  subst hsz
  have hD := hD0.self (sz := s.heap.size)
  generalize hAe : va_A (wcO qa cI cJ cZ o_fewest o_rows o_first o_stands) s.heap.size = A at hD hE ⊢
  have hA : ∀ q : Nat, s.heap.size ≤ q → A q := fun q h => by rw [← hAe]; exact Or.inr h
  have hS : va_S A s.heap s.heap [] := va_S.rf
  have hinX1 : ∀ w ∈ u_ws RX1 TX1 4, w ∈ wsX1_offer := by decide +kernel
  have k1 := hts (.fieldLink RX1 11 "DoorMornings$Outlook" "fewest" "[I") (by decide +kernel)
  have k2 := hts (.fieldLink RX1 15 "DoorMornings$Outlook" "rows" "[I") (by decide +kernel)
  have k3 := hts (.constant RX1 67 (1000003)) (by decide +kernel)
  have k4 := hts (.fieldLink RX1 18 "DoorMornings$Outlook" "firstGoodbye" "[I") (by decide +kernel)
  have hl := lv_entry ([.ref (qa 11), .int a1, .int a2, .int a3, .int a4]) (n := 5) (Nat.le_of_ble_eq_true rfl)
  rw [lg_entry_eq]
  generalize (lg_sl ([.ref (qa 11), .int a1, .int a2, .int a3, .int a4]) ++ List.replicate (5 - (lg_sl ([.ref (qa 11), .int a1, .int a2, .int a3, .int a4])).length) Slot.unset).toArray = ls at hl ⊢
  have hl : lv_has ls 5 [(0, .ref (qa 11)), (1, .int a1), (2, .int a2), (3, .int a3), (4, .int a4)] := hl
  unfold gX1_offer at hG
  refine lv_iload_n hx hb dX1_offer_0 rfl (lv_at hl 1 rfl) ?_
  obtain ⟨v2, g1, hG⟩ := wq_b1_s hG
  refine wq_ci (v := v2) (B := wq_Z1) (va_runS (As := [.int a1]) (rest := []) ⟨hx, hb, hml, hown, hts⟩ (C_X1_isPlace l dC dI cI cJ cZ qa s.heap.size  a1 v2 g1) (va_cwS 1 hts gX1_offer_X1_isPlace rfl rfl rfl hdS_X1_isPlace ⟨Nat.le_of_ble_eq_true rfl, Nat.le_of_ble_eq_true rfl⟩) (wq_ppS hK (hP.sub (ws' := []) [] rfl) hE hS hA) rfl rfl hl.1 rfl (lv_room (Nat.le_of_ble_eq_true rfl)) dX1_offer_1 ⟨Nat.zero_le _, Nat.zero_le _⟩) hS hA (fun H locs b3 hk hS => ?_)
  replace hP := wq_kp hP hk
  clear hk
  refine lv_if_ne (tgt := 8) hx hb dX1_offer_4 (by decide) (fun c4 => ?_) (fun c4 => ?_)
  · replace hG := wq_f c4 hG
    refine lv_aload_n hx hb dX1_offer_8 rfl (lv_at hl 0 rfl) ?_
    refine va_get (D := (dC, dI)) (ci := 1) (v := .ref (qa 12)) (C := RX1) (T := TX1) (N := 4) hx hb hts hinX1 hown hK hP 0 rfl rfl 0 (by decide) k1 (fun _ h9 => h9) rfl dX1_offer_9 ?_
    refine lv_iload_n hx hb dX1_offer_12 rfl (lv_at hl 1 rfl) ?_
    obtain ⟨h5, hG⟩ := wq_chk_s hG
    refine wq_iald (D := (dC, dI)) hx hb hK hP 1 0 rfl rfl h5 (Int32.toNatClampNeg a1) rfl dX1_offer_13 ?_
    refine lv_if_eq (tgt := 27) hx hb dX1_offer_14 (by decide) (fun c6 => ?_) (fun c6 => ?_)
    · replace hG := wq_t c6 hG
      refine lv_aload_n hx hb dX1_offer_27 rfl (lv_at hl 0 rfl) ?_
      refine va_get (D := (dC, dI)) (ci := 1) (v := .ref (qa 12)) (C := RX1) (T := TX1) (N := 4) hx hb hts hinX1 hown hK hP 0 rfl rfl 0 (by decide) k1 (fun _ h9 => h9) rfl dX1_offer_28 ?_
      refine lv_iload_n hx hb dX1_offer_31 rfl (lv_at hl 1 rfl) ?_
      refine lv_iload_n hx hb dX1_offer_32 rfl (lv_at hl 3 rfl) ?_
      refine wq_iast (D := (dC, dI)) hx hb hK hP hD hS 1 0 rfl rfl h5 (Int32.toNatClampNeg a1) rfl (wcO qa cI cJ cZ (upd o_fewest (Int32.toNatClampNeg a1) a3) o_rows o_first o_stands) rfl dX1_offer_33 (fun H locs hP hD hS => ?_)
      refine lv_aload_n hx hb dX1_offer_34 rfl (lv_at hl 0 rfl) ?_
      refine va_get (D := (dC, dI)) (ci := 1) (v := .ref (qa 13)) (C := RX1) (T := TX1) (N := 4) hx hb hts hinX1 hown hK hP 0 rfl rfl 1 (by decide) k2 (fun _ h9 => h9) rfl dX1_offer_35 ?_
      refine lv_iload_n hx hb dX1_offer_38 rfl (lv_at hl 1 rfl) ?_
      refine lv_iload hx hb dX1_offer_39 (lv_at hl 4 rfl) ?_
      refine lv_ldc (v := 1000003) hx hb hown k3 dX1_offer_41 ?_
      refine lv_irem hx hb dX1_offer_43 (by decide) ?_
      refine wq_iast (D := (dC, dI)) hx hb hK hP hD hS 2 0 rfl rfl h5 (Int32.toNatClampNeg a1) rfl (wcO qa cI cJ cZ (upd o_fewest (Int32.toNatClampNeg a1) a3) (upd o_rows (Int32.toNatClampNeg a1) (a4 - a4 / 1000003 * 1000003)) o_first o_stands) rfl dX1_offer_44 (fun H locs hP hD hS => ?_)
      refine lv_aload_n hx hb dX1_offer_45 rfl (lv_at hl 0 rfl) ?_
      refine va_get (D := (dC, dI)) (ci := 1) (v := .ref (qa 14)) (C := RX1) (T := TX1) (N := 4) hx hb hts hinX1 hown hK hP 0 rfl rfl 2 (by decide) k4 (fun _ h9 => h9) rfl dX1_offer_46 ?_
      refine lv_iload_n hx hb dX1_offer_49 rfl (lv_at hl 1 rfl) ?_
      refine lv_iload_n hx hb dX1_offer_50 rfl (lv_at hl 2 rfl) ?_
      refine wq_iast (D := (dC, dI)) hx hb hK hP hD hS 3 0 rfl rfl h5 (Int32.toNatClampNeg a1) rfl (wcO qa cI cJ cZ (upd o_fewest (Int32.toNatClampNeg a1) a3) (upd o_rows (Int32.toNatClampNeg a1) (a4 - a4 / 1000003 * 1000003)) (upd o_first (Int32.toNatClampNeg a1) a2) o_stands) rfl dX1_offer_51 (fun H locs hP hD hS => ?_)
      refine lv_goto (tgt := 83) hx hb dX1_offer_52 (by decide) ?_
      obtain ⟨e0, e1, e2⟩ := wq_j3 hG
      subst e0
      subst e1
      subst e2
      exact W.vret hx hb hr (fun t ht hW => ⟨⟨(), rfl, trivial, by rw [ht]; exact hP, hD⟩, hS.F ht⟩) hS.2.2 dX1_offer_83
    · replace hG := wq_f c6 hG
      refine lv_iload_n hx hb dX1_offer_17 rfl (lv_at hl 3 rfl) ?_
      refine lv_aload_n hx hb dX1_offer_18 rfl (lv_at hl 0 rfl) ?_
      refine va_get (D := (dC, dI)) (ci := 1) (v := .ref (qa 12)) (C := RX1) (T := TX1) (N := 4) hx hb hts hinX1 hown hK hP 0 rfl rfl 0 (by decide) k1 (fun _ h9 => h9) rfl dX1_offer_19 ?_
      refine lv_iload_n hx hb dX1_offer_22 rfl (lv_at hl 1 rfl) ?_
      refine wq_iald (D := (dC, dI)) hx hb hK hP 1 0 rfl rfl h5 (Int32.toNatClampNeg a1) rfl dX1_offer_23 ?_
      refine lv_icmp_ge (tgt := 55) hx hb dX1_offer_24 (by decide) (fun c7 => ?_) (fun c7 => ?_)
      · replace hG := wq_t c7 hG
        refine lv_iload_n hx hb dX1_offer_55 rfl (lv_at hl 3 rfl) ?_
        refine lv_aload_n hx hb dX1_offer_56 rfl (lv_at hl 0 rfl) ?_
        refine va_get (D := (dC, dI)) (ci := 1) (v := .ref (qa 12)) (C := RX1) (T := TX1) (N := 4) hx hb hts hinX1 hown hK hP 0 rfl rfl 0 (by decide) k1 (fun _ h9 => h9) rfl dX1_offer_57 ?_
        refine lv_iload_n hx hb dX1_offer_60 rfl (lv_at hl 1 rfl) ?_
        refine wq_iald (D := (dC, dI)) hx hb hK hP 1 0 rfl rfl h5 (Int32.toNatClampNeg a1) rfl dX1_offer_61 ?_
        refine lv_icmp_ne (tgt := 83) hx hb dX1_offer_62 (by decide) (fun c8 => ?_) (fun c8 => ?_)
        · replace hG := wq_f c8 hG
          obtain ⟨e0, e1, e2⟩ := wq_j3 hG
          subst e0
          subst e1
          subst e2
          exact W.vret hx hb hr (fun t ht hW => ⟨⟨(), rfl, trivial, by rw [ht]; exact hP, hD⟩, hS.F ht⟩) hS.2.2 dX1_offer_83
        · replace hG := wq_t c8 hG
          refine lv_aload_n hx hb dX1_offer_65 rfl (lv_at hl 0 rfl) ?_
          refine va_get (D := (dC, dI)) (ci := 1) (v := .ref (qa 13)) (C := RX1) (T := TX1) (N := 4) hx hb hts hinX1 hown hK hP 0 rfl rfl 1 (by decide) k2 (fun _ h9 => h9) rfl dX1_offer_66 ?_
          refine lv_iload_n hx hb dX1_offer_69 rfl (lv_at hl 1 rfl) ?_
          refine lv_aload_n hx hb dX1_offer_70 rfl (lv_at hl 0 rfl) ?_
          refine va_get (D := (dC, dI)) (ci := 1) (v := .ref (qa 13)) (C := RX1) (T := TX1) (N := 4) hx hb hts hinX1 hown hK hP 0 rfl rfl 1 (by decide) k2 (fun _ h9 => h9) rfl dX1_offer_71 ?_
          refine lv_iload_n hx hb dX1_offer_74 rfl (lv_at hl 1 rfl) ?_
          refine wq_iald (D := (dC, dI)) hx hb hK hP 2 0 rfl rfl h5 (Int32.toNatClampNeg a1) rfl dX1_offer_75 ?_
          refine lv_iload hx hb dX1_offer_76 (lv_at hl 4 rfl) ?_
          refine lv_iadd hx hb dX1_offer_78 ?_
          refine lv_ldc (v := 1000003) hx hb hown k3 dX1_offer_79 ?_
          refine lv_irem hx hb dX1_offer_81 (by decide) ?_
          refine wq_iast (D := (dC, dI)) hx hb hK hP hD hS 2 0 rfl rfl h5 (Int32.toNatClampNeg a1) rfl (wcO qa cI cJ cZ o_fewest (upd o_rows (Int32.toNatClampNeg a1) (((o_rows (Int32.toNatClampNeg a1)) + a4) - ((o_rows (Int32.toNatClampNeg a1)) + a4) / 1000003 * 1000003)) o_first o_stands) rfl dX1_offer_82 (fun H locs hP hD hS => ?_)
          obtain ⟨e0, e1, e2⟩ := wq_j3 hG
          subst e0
          subst e1
          subst e2
          exact W.vret hx hb hr (fun t ht hW => ⟨⟨(), rfl, trivial, by rw [ht]; exact hP, hD⟩, hS.F ht⟩) hS.2.2 dX1_offer_83
      · replace hG := wq_f c7 hG
        refine lv_aload_n hx hb dX1_offer_27 rfl (lv_at hl 0 rfl) ?_
        refine va_get (D := (dC, dI)) (ci := 1) (v := .ref (qa 12)) (C := RX1) (T := TX1) (N := 4) hx hb hts hinX1 hown hK hP 0 rfl rfl 0 (by decide) k1 (fun _ h9 => h9) rfl dX1_offer_28 ?_
        refine lv_iload_n hx hb dX1_offer_31 rfl (lv_at hl 1 rfl) ?_
        refine lv_iload_n hx hb dX1_offer_32 rfl (lv_at hl 3 rfl) ?_
        refine wq_iast (D := (dC, dI)) hx hb hK hP hD hS 1 0 rfl rfl h5 (Int32.toNatClampNeg a1) rfl (wcO qa cI cJ cZ (upd o_fewest (Int32.toNatClampNeg a1) a3) o_rows o_first o_stands) rfl dX1_offer_33 (fun H locs hP hD hS => ?_)
        refine lv_aload_n hx hb dX1_offer_34 rfl (lv_at hl 0 rfl) ?_
        refine va_get (D := (dC, dI)) (ci := 1) (v := .ref (qa 13)) (C := RX1) (T := TX1) (N := 4) hx hb hts hinX1 hown hK hP 0 rfl rfl 1 (by decide) k2 (fun _ h9 => h9) rfl dX1_offer_35 ?_
        refine lv_iload_n hx hb dX1_offer_38 rfl (lv_at hl 1 rfl) ?_
        refine lv_iload hx hb dX1_offer_39 (lv_at hl 4 rfl) ?_
        refine lv_ldc (v := 1000003) hx hb hown k3 dX1_offer_41 ?_
        refine lv_irem hx hb dX1_offer_43 (by decide) ?_
        refine wq_iast (D := (dC, dI)) hx hb hK hP hD hS 2 0 rfl rfl h5 (Int32.toNatClampNeg a1) rfl (wcO qa cI cJ cZ (upd o_fewest (Int32.toNatClampNeg a1) a3) (upd o_rows (Int32.toNatClampNeg a1) (a4 - a4 / 1000003 * 1000003)) o_first o_stands) rfl dX1_offer_44 (fun H locs hP hD hS => ?_)
        refine lv_aload_n hx hb dX1_offer_45 rfl (lv_at hl 0 rfl) ?_
        refine va_get (D := (dC, dI)) (ci := 1) (v := .ref (qa 14)) (C := RX1) (T := TX1) (N := 4) hx hb hts hinX1 hown hK hP 0 rfl rfl 2 (by decide) k4 (fun _ h9 => h9) rfl dX1_offer_46 ?_
        refine lv_iload_n hx hb dX1_offer_49 rfl (lv_at hl 1 rfl) ?_
        refine lv_iload_n hx hb dX1_offer_50 rfl (lv_at hl 2 rfl) ?_
        refine wq_iast (D := (dC, dI)) hx hb hK hP hD hS 3 0 rfl rfl h5 (Int32.toNatClampNeg a1) rfl (wcO qa cI cJ cZ (upd o_fewest (Int32.toNatClampNeg a1) a3) (upd o_rows (Int32.toNatClampNeg a1) (a4 - a4 / 1000003 * 1000003)) (upd o_first (Int32.toNatClampNeg a1) a2) o_stands) rfl dX1_offer_51 (fun H locs hP hD hS => ?_)
        refine lv_goto (tgt := 83) hx hb dX1_offer_52 (by decide) ?_
        obtain ⟨e0, e1, e2⟩ := wq_j3 hG
        subst e0
        subst e1
        subst e2
        exact W.vret hx hb hr (fun t ht hW => ⟨⟨(), rfl, trivial, by rw [ht]; exact hP, hD⟩, hS.F ht⟩) hS.2.2 dX1_offer_83
  · replace hG := wq_t c4 hG
    obtain ⟨e0, e1, e2⟩ := wq_j3 hG
    subst e0
    subst e1
    subst e2
    exact W.vret hx hb hr (fun t ht hW => ⟨⟨(), rfl, trivial, by rw [ht]; exact hP, hD⟩, hS.F ht⟩) hS.2.2 dX1_offer_7

theorem hdV_X1_fewestAt : yX1_fewestAt.cls = RX1 ∧ yX1_fewestAt.cls ≠ "java/lang/invoke/MethodHandle" ∧ yX1_fewestAt.cls ≠ "java/lang/invoke/VarHandle" ∧ (parseMethodDescriptor yX1_fewestAt.desc).map (fun d => d.parameters.length) = some 1 := by decide +kernel
set_option maxHeartbeats 4000000 in
set_option maxRecDepth 100000 in
theorem C_X1_fewestAt (l : Launch) (dC : Nat → ClassId) (dI : Nat → Nat → Nat) (cI cJ cZ : ClassId) (qa : Nat → Nat) (sz : Nat) (o_fewest : Nat → Int32) (o_rows : Nat → Int32) (o_first : Nat → Int32) (o_stands : Int32) (a1 : Int32) (r0 : Int32) (hG : gX1_fewestAt o_fewest a1 = some r0) : Met l yX1_fewestAt wsX1_fewestAt ({ frames := 1, cells := 0, slots := 0, locals := 20 } : Room) (va_Pc [.ref (qa 11), .int a1] (wq_pp (dC, dI) [(cI, .int), (cJ, .long), (cZ, .boolean)] (wcO qa cI cJ cZ o_fewest o_rows o_first o_stands) sz)) (wq_Qi r0 wq_tr (va_A [] sz)) 0 0 (va_A [] sz) := by
  refine Met.ofW (cc := cX1_fewestAt) (maxL := 2) (ret := (some .int)) (by decide) rfl ?_
  intro p e s m args below meth c s₁ B hml hv
  obtain ⟨rfl, hsz, hP, hK, hE⟩ := hv
  have hx := B.exec
  have hb := B.bytes
  have hr := B.returns
  have hts := atoms_spec (ws := wsX1_fewestAt) B.pre
  have hown : s.vm.findClass RX1 = some m.cls := findClass_of_methodNamed B.named
  have hlocks := B.notSynchronized
  subst hsz
  generalize hAe : va_A [] s.heap.size = A at hE ⊢
  have hA : ∀ q : Nat, s.heap.size ≤ q → A q := fun q h => by rw [← hAe]; exact Or.inr h
  have hS : va_S A s.heap s.heap [] := va_S.rf
  have hinX1 : ∀ w ∈ u_ws RX1 TX1 4, w ∈ wsX1_fewestAt := by decide +kernel
  have k1 := hts (.fieldLink RX1 11 "DoorMornings$Outlook" "fewest" "[I") (by decide +kernel)
  have hl := lv_entry ([.ref (qa 11), .int a1]) (n := 2) (Nat.le_of_ble_eq_true rfl)
  rw [lg_entry_eq]
  generalize (lg_sl ([.ref (qa 11), .int a1]) ++ List.replicate (2 - (lg_sl ([.ref (qa 11), .int a1])).length) Slot.unset).toArray = ls at hl ⊢
  have hl : lv_has ls 2 [(0, .ref (qa 11)), (1, .int a1)] := hl
  unfold gX1_fewestAt at hG
  refine lv_iload_n hx hb dX1_fewestAt_0 rfl (lv_at hl 1 rfl) ?_
  obtain ⟨v2, g1, hG⟩ := wq_b1_s hG
  refine wq_ci (v := v2) (B := wq_Z1) (va_runS (As := [.int a1]) (rest := []) ⟨hx, hb, hml, hown, hts⟩ (C_X1_isPlace l dC dI cI cJ cZ qa s.heap.size  a1 v2 g1) (va_cwS 1 hts gX1_fewestAt_X1_isPlace rfl rfl rfl hdS_X1_isPlace ⟨Nat.le_of_ble_eq_true rfl, Nat.le_of_ble_eq_true rfl⟩) (wq_ppS hK (hP.sub (ws' := []) [] rfl) hE hS hA) rfl rfl hl.1 rfl (lv_room (Nat.le_of_ble_eq_true rfl)) dX1_fewestAt_1 ⟨Nat.zero_le _, Nat.zero_le _⟩) hS hA (fun H locs b3 hk hS => ?_)
  replace hP := wq_kp hP hk
  clear hk
  refine lv_if_eq (tgt := 16) hx hb dX1_fewestAt_4 (by decide) (fun c4 => ?_) (fun c4 => ?_)
  · replace hG := wq_t c4 hG
    refine lv_iconst (v := 0) hx hb dX1_fewestAt_16 (by decide) ?_
    exact W.iret (v := 0) hx hb hr (fun t ht hW => ⟨⟨0, (), rfl, ⟨Option.some.inj hG, trivial⟩, trivial⟩, hS.F ht⟩) hS.2.2 dX1_fewestAt_17
  · replace hG := wq_f c4 hG
    refine lv_aload_n hx hb dX1_fewestAt_7 rfl (lv_at hl 0 rfl) ?_
    refine va_get (D := (dC, dI)) (ci := 1) (v := .ref (qa 12)) (C := RX1) (T := TX1) (N := 4) hx hb hts hinX1 hown hK hP 0 rfl rfl 0 (by decide) k1 (fun _ h9 => h9) rfl dX1_fewestAt_8 ?_
    refine lv_iload_n hx hb dX1_fewestAt_11 rfl (lv_at hl 1 rfl) ?_
    obtain ⟨h5, hG⟩ := wq_chk_s hG
    refine wq_iald (D := (dC, dI)) hx hb hK hP 1 0 rfl rfl h5 (Int32.toNatClampNeg a1) rfl dX1_fewestAt_12 ?_
    refine lv_goto (tgt := 17) hx hb dX1_fewestAt_13 (by decide) ?_
    exact W.iret (v := (o_fewest (Int32.toNatClampNeg a1))) hx hb hr (fun t ht hW => ⟨⟨(o_fewest (Int32.toNatClampNeg a1)), (), rfl, ⟨Option.some.inj hG, trivial⟩, trivial⟩, hS.F ht⟩) hS.2.2 dX1_fewestAt_17

theorem hdV_X1_rowsAt : yX1_rowsAt.cls = RX1 ∧ yX1_rowsAt.cls ≠ "java/lang/invoke/MethodHandle" ∧ yX1_rowsAt.cls ≠ "java/lang/invoke/VarHandle" ∧ (parseMethodDescriptor yX1_rowsAt.desc).map (fun d => d.parameters.length) = some 1 := by decide +kernel
set_option maxHeartbeats 4000000 in
set_option maxRecDepth 100000 in
theorem C_X1_rowsAt (l : Launch) (dC : Nat → ClassId) (dI : Nat → Nat → Nat) (cI cJ cZ : ClassId) (qa : Nat → Nat) (sz : Nat) (o_fewest : Nat → Int32) (o_rows : Nat → Int32) (o_first : Nat → Int32) (o_stands : Int32) (a1 : Int32) (r0 : Int32) (hG : gX1_rowsAt o_rows a1 = some r0) : Met l yX1_rowsAt wsX1_rowsAt ({ frames := 1, cells := 0, slots := 0, locals := 20 } : Room) (va_Pc [.ref (qa 11), .int a1] (wq_pp (dC, dI) [(cI, .int), (cJ, .long), (cZ, .boolean)] (wcO qa cI cJ cZ o_fewest o_rows o_first o_stands) sz)) (wq_Qi r0 wq_tr (va_A [] sz)) 0 0 (va_A [] sz) := by
  refine Met.ofW (cc := cX1_rowsAt) (maxL := 2) (ret := (some .int)) (by decide) rfl ?_
  intro p e s m args below meth c s₁ B hml hv
  obtain ⟨rfl, hsz, hP, hK, hE⟩ := hv
  have hx := B.exec
  have hb := B.bytes
  have hr := B.returns
  have hts := atoms_spec (ws := wsX1_rowsAt) B.pre
  have hown : s.vm.findClass RX1 = some m.cls := findClass_of_methodNamed B.named
  have hlocks := B.notSynchronized
  subst hsz
  generalize hAe : va_A [] s.heap.size = A at hE ⊢
  have hA : ∀ q : Nat, s.heap.size ≤ q → A q := fun q h => by rw [← hAe]; exact Or.inr h
  have hS : va_S A s.heap s.heap [] := va_S.rf
  have hinX1 : ∀ w ∈ u_ws RX1 TX1 4, w ∈ wsX1_rowsAt := by decide +kernel
  have k1 := hts (.fieldLink RX1 15 "DoorMornings$Outlook" "rows" "[I") (by decide +kernel)
  have hl := lv_entry ([.ref (qa 11), .int a1]) (n := 2) (Nat.le_of_ble_eq_true rfl)
  rw [lg_entry_eq]
  generalize (lg_sl ([.ref (qa 11), .int a1]) ++ List.replicate (2 - (lg_sl ([.ref (qa 11), .int a1])).length) Slot.unset).toArray = ls at hl ⊢
  have hl : lv_has ls 2 [(0, .ref (qa 11)), (1, .int a1)] := hl
  unfold gX1_rowsAt at hG
  refine lv_iload_n hx hb dX1_rowsAt_0 rfl (lv_at hl 1 rfl) ?_
  obtain ⟨v2, g1, hG⟩ := wq_b1_s hG
  refine wq_ci (v := v2) (B := wq_Z1) (va_runS (As := [.int a1]) (rest := []) ⟨hx, hb, hml, hown, hts⟩ (C_X1_isPlace l dC dI cI cJ cZ qa s.heap.size  a1 v2 g1) (va_cwS 1 hts gX1_rowsAt_X1_isPlace rfl rfl rfl hdS_X1_isPlace ⟨Nat.le_of_ble_eq_true rfl, Nat.le_of_ble_eq_true rfl⟩) (wq_ppS hK (hP.sub (ws' := []) [] rfl) hE hS hA) rfl rfl hl.1 rfl (lv_room (Nat.le_of_ble_eq_true rfl)) dX1_rowsAt_1 ⟨Nat.zero_le _, Nat.zero_le _⟩) hS hA (fun H locs b3 hk hS => ?_)
  replace hP := wq_kp hP hk
  clear hk
  refine lv_if_eq (tgt := 16) hx hb dX1_rowsAt_4 (by decide) (fun c4 => ?_) (fun c4 => ?_)
  · replace hG := wq_t c4 hG
    refine lv_iconst (v := 0) hx hb dX1_rowsAt_16 (by decide) ?_
    exact W.iret (v := 0) hx hb hr (fun t ht hW => ⟨⟨0, (), rfl, ⟨Option.some.inj hG, trivial⟩, trivial⟩, hS.F ht⟩) hS.2.2 dX1_rowsAt_17
  · replace hG := wq_f c4 hG
    refine lv_aload_n hx hb dX1_rowsAt_7 rfl (lv_at hl 0 rfl) ?_
    refine va_get (D := (dC, dI)) (ci := 1) (v := .ref (qa 13)) (C := RX1) (T := TX1) (N := 4) hx hb hts hinX1 hown hK hP 0 rfl rfl 1 (by decide) k1 (fun _ h9 => h9) rfl dX1_rowsAt_8 ?_
    refine lv_iload_n hx hb dX1_rowsAt_11 rfl (lv_at hl 1 rfl) ?_
    obtain ⟨h5, hG⟩ := wq_chk_s hG
    refine wq_iald (D := (dC, dI)) hx hb hK hP 2 0 rfl rfl h5 (Int32.toNatClampNeg a1) rfl dX1_rowsAt_12 ?_
    refine lv_goto (tgt := 17) hx hb dX1_rowsAt_13 (by decide) ?_
    exact W.iret (v := (o_rows (Int32.toNatClampNeg a1))) hx hb hr (fun t ht hW => ⟨⟨(o_rows (Int32.toNatClampNeg a1)), (), rfl, ⟨Option.some.inj hG, trivial⟩, trivial⟩, hS.F ht⟩) hS.2.2 dX1_rowsAt_17

theorem hdV_X1_workOutFrom : yX1_workOutFrom.cls = RX1 ∧ yX1_workOutFrom.cls ≠ "java/lang/invoke/MethodHandle" ∧ yX1_workOutFrom.cls ≠ "java/lang/invoke/VarHandle" ∧ (parseMethodDescriptor yX1_workOutFrom.desc).map (fun d => d.parameters.length) = some 3 := by decide +kernel
set_option maxHeartbeats 4000000 in
set_option maxRecDepth 100000 in
theorem C_X1_workOutFrom (l : Launch) (dC : Nat → ClassId) (dI : Nat → Nat → Nat) (cI cJ cZ : ClassId) (qa : Nat → Nat) (sz : Nat) (o_fewest : Nat → Int32) (o_rows : Nat → Int32) (o_first : Nat → Int32) (o_stands : Int32) (t_tears : Nat → Int32) (t_gains : Nat → Int32) (t_likings : Nat → Int32) (t_settings : Nat → Int32) (t_goodbyes : Int32) (t_women : Int32) (a2 : Int32) (a3 : Int32) (r_o_fewest : Nat → Int32) (r_o_rows : Nat → Int32) (r_o_first : Nat → Int32) (hG : gX1_workOutFrom o_fewest o_rows o_first t_tears t_gains t_settings t_goodbyes a2 a3 = some (r_o_fewest, r_o_rows, r_o_first)) : Met l yX1_workOutFrom wsX1_workOutFrom ({ frames := 3, cells := 0, slots := 0, locals := 66 } : Room) (va_Pc [.ref (qa 11), .ref (qa 16), .int a2, .int a3] (wq_pw (dC, dI) [(cI, .int), (cJ, .long), (cZ, .boolean)] (wcOT qa cI cJ cZ o_fewest o_rows o_first o_stands t_tears t_gains t_likings t_settings t_goodbyes t_women) sz)) (wq_Wv (dC, dI) (wcOT qa cI cJ cZ r_o_fewest r_o_rows r_o_first o_stands t_tears t_gains t_likings t_settings t_goodbyes t_women) (va_A (wcOT qa cI cJ cZ o_fewest o_rows o_first o_stands t_tears t_gains t_likings t_settings t_goodbyes t_women) sz)) 0 0 (va_A (wcOT qa cI cJ cZ o_fewest o_rows o_first o_stands t_tears t_gains t_likings t_settings t_goodbyes t_women) sz) := by
  refine Met.ofW (cc := cX1_workOutFrom) (maxL := 9) (ret := none) (by decide) rfl ?_
  intro p e s m args below meth c s₁ B hml hv
  obtain ⟨rfl, hsz, hP, hK, hD0, hE⟩ := hv
  have hx := B.exec
  have hb := B.bytes
  have hr := B.returns
  have hts := atoms_spec (ws := wsX1_workOutFrom) B.pre
  have hown : s.vm.findClass RX1 = some m.cls := findClass_of_methodNamed B.named
  have hlocks := B.notSynchronized
  subst hsz
  have hD := hD0.self (sz := s.heap.size)
  generalize hAe : va_A (wcOT qa cI cJ cZ o_fewest o_rows o_first o_stands t_tears t_gains t_likings t_settings t_goodbyes t_women) s.heap.size = A at hD hE ⊢
  have hA : ∀ q : Nat, s.heap.size ≤ q → A q := fun q h => by rw [← hAe]; exact Or.inr h
  have hS : va_S A s.heap s.heap [] := va_S.rf
  have hinX5 : ∀ w ∈ u_ws RX5 TX5 6, w ∈ wsX1_workOutFrom := by decide +kernel
  have hinX1 : ∀ w ∈ u_ws RX1 TX1 4, w ∈ wsX1_workOutFrom := by decide +kernel
  have k1 := hts (.fieldLink RX1 49 "DoorMornings$Told" "goodbyes" "I") (by decide +kernel)
  have k2 := hts (.fieldLink RX1 11 "DoorMornings$Outlook" "fewest" "[I") (by decide +kernel)
  have k3 := hts (.fieldLink RX1 15 "DoorMornings$Outlook" "rows" "[I") (by decide +kernel)
  have hl := lv_entry ([.ref (qa 11), .ref (qa 16), .int a2, .int a3]) (n := 9) (Nat.le_of_ble_eq_true rfl)
  rw [lg_entry_eq]
  generalize (lg_sl ([.ref (qa 11), .ref (qa 16), .int a2, .int a3]) ++ List.replicate (9 - (lg_sl ([.ref (qa 11), .ref (qa 16), .int a2, .int a3])).length) Slot.unset).toArray = ls at hl ⊢
  have hl : lv_has ls 9 [(0, .ref (qa 11)), (1, .ref (qa 16)), (2, .int a2), (3, .int a3)] := hl
  have hL42 : ∀ (x4 : Int32) (x5 : Int32) (n : Nat) (x6 : Int32) (z_o_fewest : Nat → Int32) (z_o_rows : Nat → Int32) (z_o_first : Nat → Int32) (H : Heap) (locs : List Loc) (ls : Array Slot), gX1_workOutFrom_L42 t_tears t_gains t_settings t_goodbyes a2 a3 x4 x5 n x6 z_o_fewest z_o_rows z_o_first = some (r_o_fewest, r_o_rows, r_o_first) → va_P (dC, dI) vwCl (wcOT qa cI cJ cZ z_o_fewest z_o_rows z_o_first o_stands t_tears t_gains t_likings t_settings t_goodbyes t_women) H → va_D A (wcOT qa cI cJ cZ z_o_fewest z_o_rows z_o_first o_stands t_tears t_gains t_likings t_settings t_goodbyes t_women) → va_S A s.heap H locs → lv_has ls 9 [(0, .ref (qa 11)), (1, .ref (qa 16)), (2, .int a2), (3, .int a3), (4, .int x4), (5, .int x5), (6, .int x6)] → W p l e (headSpec wsX1_workOutFrom ({ frames := 3, cells := 0, slots := 0, locals := 66 } : Room)).room s m ([.ref (qa 11), .ref (qa 16), .int a2, .int a3] : List Value).toArray below meth c H locs 0 0 (MQ below (wq_Wv (dC, dI) (wcOT qa cI cJ cZ r_o_fewest r_o_rows r_o_first o_stands t_tears t_gains t_likings t_settings t_goodbyes t_women) A) ([.ref (qa 11), .ref (qa 16), .int a2, .int a3] : List Value).toArray s 0 0 A) (F0 m 42 ls []) := by
    intro x4 x5 n
    induction n with
    | zero =>
      intro x6 z_o_fewest z_o_rows z_o_first H locs ls hG
      exact absurd (show (none : Option ((Nat → Int32) × (Nat → Int32) × (Nat → Int32))) = some (r_o_fewest, r_o_rows, r_o_first) from hG) (by intro h9; cases h9)
    | succ n ih42 =>
      intro x6 z_o_fewest z_o_rows z_o_first H locs ls hG hP hD hS hl
      rw [gX1_workOutFrom_L42] at hG
      refine lv_iload hx hb dX1_workOutFrom_42 (lv_at hl 6 rfl) ?_
      refine lv_aload_n hx hb dX1_workOutFrom_44 rfl (lv_at hl 1 rfl) ?_
      refine va_get (D := (dC, dI)) (ci := 5) (v := .int t_goodbyes) (C := RX5) (T := TX5) (N := 6) hx hb hts hinX5 hown hK hP 4 rfl rfl 4 (by decide) k1 (fun _ h9 => h9) rfl dX1_workOutFrom_45 ?_
      refine lv_icmp_ge (tgt := 157) hx hb dX1_workOutFrom_48 (by decide) (fun c1 => ?_) (fun c1 => ?_)
      · replace hG := wq_t c1 hG
        obtain ⟨e0, e1, e2⟩ := wq_j3 hG
        subst e0
        subst e1
        subst e2
        exact W.vret hx hb hr (fun t ht hW => ⟨⟨(), rfl, trivial, by rw [ht]; exact hP, hD⟩, hS.F ht⟩) hS.2.2 dX1_workOutFrom_157
      · replace hG := wq_f c1 hG
        refine lv_aload_n hx hb dX1_workOutFrom_51 rfl (lv_at hl 1 rfl) ?_
        refine lv_iload hx hb dX1_workOutFrom_52 (lv_at hl 6 rfl) ?_
        refine lv_iload_n hx hb dX1_workOutFrom_54 rfl (lv_at hl 2 rfl) ?_
        refine lv_iload_n hx hb dX1_workOutFrom_55 rfl (lv_at hl 3 rfl) ?_
        obtain ⟨v3, g2, hG⟩ := wq_b1_s hG
        refine wq_ci (v := v3) (B := wq_tr) (va_runV (As := [.int x6, .int a2, .int a3]) (rest := []) ⟨hx, hb, hml, hown, hts⟩ (C_X5_reach l dC dI cI cJ cZ qa H.size t_tears t_gains t_likings t_settings t_goodbyes t_women x6 a2 a3 v3 g2) (cwV 3 hts gX1_workOutFrom_X5_reach rfl rfl rfl hdV_X5_reach ⟨Nat.le_of_ble_eq_true rfl, Nat.le_of_ble_eq_true rfl⟩) (wq_ppV hK (hP.sub (ws' := wcT qa cI cJ cZ t_tears t_gains t_likings t_settings t_goodbyes t_women) [4, 5, 6, 7, 8] rfl) hE hS hA (ci := 5) (q0 := 0) rfl rfl) rfl rfl hl.1 rfl (lv_room (Nat.le_of_ble_eq_true rfl)) dX1_workOutFrom_56 ⟨Nat.zero_le _, Nat.zero_le _⟩) hS hA (fun H locs b4 hk hS => ?_)
        replace hP := wq_kp hP hk
        clear hk
        refine lv_istore (lv' := [(7, .int v3), (0, .ref (qa 11)), (1, .ref (qa 16)), (2, .int a2), (3, .int a3), (4, .int x4), (5, .int x5), (6, .int x6)]) hx hb dX1_workOutFrom_59 hl (by decide) rfl (fun ls hl => ?_)
        refine lv_iload hx hb dX1_workOutFrom_61 (lv_at hl 0 rfl) ?_
        refine lv_iload hx hb dX1_workOutFrom_63 (lv_at hl 6 rfl) ?_
        refine lv_icmp_lt (tgt := 87) hx hb dX1_workOutFrom_65 (by decide) (fun c5 => ?_) (fun c5 => ?_)
        · replace hG := wq_t c5 hG
          refine lv_iload hx hb dX1_workOutFrom_87 (lv_at hl 0 rfl) ?_
          refine lv_iconst (v := 1) hx hb dX1_workOutFrom_89 (by decide) ?_
          refine lv_icmp_lt (tgt := 151) hx hb dX1_workOutFrom_90 (by decide) (fun c6 => ?_) (fun c6 => ?_)
          · replace hG := wq_t c6 hG
            refine lv_iinc (v := (x6 + 1)) (lv' := [(6, .int (x6 + 1)), (7, .int v3), (0, .ref (qa 11)), (1, .ref (qa 16)), (2, .int a2), (3, .int a3), (4, .int x4), (5, .int x5)]) hx hb dX1_workOutFrom_151 hl (k := 7) rfl rfl (by decide) rfl (fun ls hl => ?_)
            refine lv_goto (tgt := 42) hx hb dX1_workOutFrom_154 (by decide) ?_
            exact ih42 (x6 + 1) z_o_fewest z_o_rows z_o_first _ _ _ hG hP hD hS (lv_sub hl [2, 3, 4, 5, 6, 7, 0] rfl)
          · replace hG := wq_f c6 hG
            refine lv_aload_n hx hb dX1_workOutFrom_93 rfl (lv_at hl 2 rfl) ?_
            refine lv_iload hx hb dX1_workOutFrom_94 (lv_at hl 7 rfl) ?_
            refine lv_iload_n hx hb dX1_workOutFrom_96 rfl (lv_at hl 3 rfl) ?_
            obtain ⟨v8, g7, hG⟩ := wq_b1_s hG
            refine wq_ci (v := v8) (B := wq_tr) (va_runV (As := [.int x6, .int a2]) (rest := []) ⟨hx, hb, hml, hown, hts⟩ (C_X5_calmerTrust l dC dI cI cJ cZ qa H.size t_tears t_gains t_likings t_settings t_goodbyes t_women x6 a2 v8 g7) (cwV 2 hts gX1_workOutFrom_X5_calmerTrust rfl rfl rfl hdV_X5_calmerTrust ⟨Nat.le_of_ble_eq_true rfl, Nat.le_of_ble_eq_true rfl⟩) (wq_ppV hK (hP.sub (ws' := wcT qa cI cJ cZ t_tears t_gains t_likings t_settings t_goodbyes t_women) [4, 5, 6, 7, 8] rfl) hE hS hA (ci := 5) (q0 := 0) rfl rfl) rfl rfl hl.1 rfl (lv_room (Nat.le_of_ble_eq_true rfl)) dX1_workOutFrom_97 ⟨Nat.zero_le _, Nat.zero_le _⟩) hS hA (fun H locs b9 hk hS => ?_)
            replace hP := wq_kp hP hk
            clear hk
            refine lv_aload_n hx hb dX1_workOutFrom_100 rfl (lv_at hl 2 rfl) ?_
            refine lv_iload_n hx hb dX1_workOutFrom_101 rfl (lv_at hl 4 rfl) ?_
            obtain ⟨v11, g10, hG⟩ := wq_b1_s hG
            refine wq_ci (v := v11) (B := wq_tr) (va_runV (As := [.int a3]) (rest := [.int v8]) ⟨hx, hb, hml, hown, hts⟩ (C_X5_calmerLiking l dC dI cI cJ cZ qa H.size t_tears t_gains t_likings t_settings t_goodbyes t_women a3 v11 g10) (cwV 1 hts gX1_workOutFrom_X5_calmerLiking rfl rfl rfl hdV_X5_calmerLiking ⟨Nat.le_of_ble_eq_true rfl, Nat.le_of_ble_eq_true rfl⟩) (wq_ppV hK (hP.sub (ws' := wcT qa cI cJ cZ t_tears t_gains t_likings t_settings t_goodbyes t_women) [4, 5, 6, 7, 8] rfl) hE hS hA (ci := 5) (q0 := 0) rfl rfl) rfl rfl hl.1 rfl (lv_room (Nat.le_of_ble_eq_true rfl)) dX1_workOutFrom_102 ⟨Nat.zero_le _, Nat.zero_le _⟩) hS hA (fun H locs b12 hk hS => ?_)
            replace hP := wq_kp hP hk
            clear hk
            obtain ⟨v14, g13, hG⟩ := wq_b1_s hG
            refine wq_ci (v := v14) (B := wq_tr) (va_runS (As := [.int v8, .int v11]) (rest := []) ⟨hx, hb, hml, hown, hts⟩ (C_X1_placeOf l dC dI cI cJ cZ qa H.size  v8 v11 v14 g13) (va_cwS 2 hts gX1_workOutFrom_X1_placeOf rfl rfl rfl hdS_X1_placeOf ⟨Nat.le_of_ble_eq_true rfl, Nat.le_of_ble_eq_true rfl⟩) (wq_ppS hK (hP.sub (ws' := []) [] rfl) hE hS hA) rfl rfl hl.1 rfl (lv_room (Nat.le_of_ble_eq_true rfl)) dX1_workOutFrom_105 ⟨Nat.zero_le _, Nat.zero_le _⟩) hS hA (fun H locs b15 hk hS => ?_)
            replace hP := wq_kp hP hk
            clear hk
            refine lv_istore (lv' := [(8, .int v14), (7, .int v3), (0, .ref (qa 11)), (1, .ref (qa 16)), (2, .int a2), (3, .int a3), (4, .int x4), (5, .int x5), (6, .int x6)]) hx hb dX1_workOutFrom_108 hl (by decide) rfl (fun ls hl => ?_)
            refine lv_iload hx hb dX1_workOutFrom_110 (lv_at hl 0 rfl) ?_
            refine lv_iload hx hb dX1_workOutFrom_112 (lv_at hl 6 rfl) ?_
            refine lv_icmp_eq (tgt := 151) hx hb dX1_workOutFrom_114 (by decide) (fun c16 => ?_) (fun c16 => ?_)
            · replace hG := wq_t c16 hG
              refine lv_iinc (v := (x6 + 1)) (lv' := [(6, .int (x6 + 1)), (8, .int v14), (7, .int v3), (0, .ref (qa 11)), (1, .ref (qa 16)), (2, .int a2), (3, .int a3), (4, .int x4), (5, .int x5)]) hx hb dX1_workOutFrom_151 hl (k := 8) rfl rfl (by decide) rfl (fun ls hl => ?_)
              refine lv_goto (tgt := 42) hx hb dX1_workOutFrom_154 (by decide) ?_
              exact ih42 (x6 + 1) z_o_fewest z_o_rows z_o_first _ _ _ hG hP hD hS (lv_sub hl [3, 4, 5, 6, 7, 8, 0] rfl)
            · replace hG := wq_f c16 hG
              refine lv_aload_n hx hb dX1_workOutFrom_117 rfl (lv_at hl 2 rfl) ?_
              refine lv_iload hx hb dX1_workOutFrom_118 (lv_at hl 0 rfl) ?_
              obtain ⟨v18, g17, hG⟩ := wq_b1_s hG
              refine wq_ci (v := v18) (B := wq_tr) (va_runV (As := [.int v14]) (rest := []) ⟨hx, hb, hml, hown, hts⟩ (C_X1_fewestAt l dC dI cI cJ cZ qa H.size z_o_fewest z_o_rows z_o_first o_stands v14 v18 g17) (cwV 1 hts gX1_workOutFrom_X1_fewestAt rfl rfl rfl hdV_X1_fewestAt ⟨Nat.le_of_ble_eq_true rfl, Nat.le_of_ble_eq_true rfl⟩) (wq_ppV hK (hP.sub (ws' := wcO qa cI cJ cZ z_o_fewest z_o_rows z_o_first o_stands) [0, 1, 2, 3] rfl) hE hS hA (ci := 1) (q0 := 0) rfl rfl) rfl rfl hl.1 rfl (lv_room (Nat.le_of_ble_eq_true rfl)) dX1_workOutFrom_120 ⟨Nat.zero_le _, Nat.zero_le _⟩) hS hA (fun H locs b19 hk hS => ?_)
              replace hP := wq_kp hP hk
              clear hk
              refine lv_if_le (tgt := 151) hx hb dX1_workOutFrom_123 (by decide) (fun c20 => ?_) (fun c20 => ?_)
              · replace hG := wq_t c20 hG
                refine lv_iinc (v := (x6 + 1)) (lv' := [(6, .int (x6 + 1)), (8, .int v14), (7, .int v3), (0, .ref (qa 11)), (1, .ref (qa 16)), (2, .int a2), (3, .int a3), (4, .int x4), (5, .int x5)]) hx hb dX1_workOutFrom_151 hl (k := 8) rfl rfl (by decide) rfl (fun ls hl => ?_)
                refine lv_goto (tgt := 42) hx hb dX1_workOutFrom_154 (by decide) ?_
                exact ih42 (x6 + 1) z_o_fewest z_o_rows z_o_first _ _ _ hG hP hD hS (lv_sub hl [3, 4, 5, 6, 7, 8, 0] rfl)
              · replace hG := wq_f c20 hG
                refine lv_aload_n hx hb dX1_workOutFrom_126 rfl (lv_at hl 2 rfl) ?_
                refine lv_iload hx hb dX1_workOutFrom_127 (lv_at hl 6 rfl) ?_
                refine lv_iload hx hb dX1_workOutFrom_129 (lv_at hl 8 rfl) ?_
                refine lv_aload_n hx hb dX1_workOutFrom_131 rfl (lv_at hl 2 rfl) ?_
                refine lv_iload hx hb dX1_workOutFrom_132 (lv_at hl 0 rfl) ?_
                obtain ⟨v22, g21, hG⟩ := wq_b1_s hG
                refine wq_ci (v := v22) (B := wq_tr) (va_runV (As := [.int v14]) (rest := [.int x6, .int x4, .ref (qa 11)]) ⟨hx, hb, hml, hown, hts⟩ (C_X1_fewestAt l dC dI cI cJ cZ qa H.size z_o_fewest z_o_rows z_o_first o_stands v14 v22 g21) (cwV 1 hts gX1_workOutFrom_X1_fewestAt rfl rfl rfl hdV_X1_fewestAt ⟨Nat.le_of_ble_eq_true rfl, Nat.le_of_ble_eq_true rfl⟩) (wq_ppV hK (hP.sub (ws' := wcO qa cI cJ cZ z_o_fewest z_o_rows z_o_first o_stands) [0, 1, 2, 3] rfl) hE hS hA (ci := 1) (q0 := 0) rfl rfl) rfl rfl hl.1 rfl (lv_room (Nat.le_of_ble_eq_true rfl)) dX1_workOutFrom_134 ⟨Nat.zero_le _, Nat.zero_le _⟩) hS hA (fun H locs b23 hk hS => ?_)
                replace hP := wq_kp hP hk
                clear hk
                refine lv_iconst (v := 1) hx hb dX1_workOutFrom_137 (by decide) ?_
                refine lv_iadd hx hb dX1_workOutFrom_138 ?_
                refine lv_iload hx hb dX1_workOutFrom_139 (lv_at hl 1 rfl) ?_
                refine lv_aload_n hx hb dX1_workOutFrom_141 rfl (lv_at hl 2 rfl) ?_
                refine lv_iload hx hb dX1_workOutFrom_142 (lv_at hl 0 rfl) ?_
                obtain ⟨v25, g24, hG⟩ := wq_b1_s hG
                refine wq_ci (v := v25) (B := wq_tr) (va_runV (As := [.int v14]) (rest := [.int v3, .int (v22 + 1), .int x6, .int x4, .ref (qa 11)]) ⟨hx, hb, hml, hown, hts⟩ (C_X1_rowsAt l dC dI cI cJ cZ qa H.size z_o_fewest z_o_rows z_o_first o_stands v14 v25 g24) (cwV 1 hts gX1_workOutFrom_X1_rowsAt rfl rfl rfl hdV_X1_rowsAt ⟨Nat.le_of_ble_eq_true rfl, Nat.le_of_ble_eq_true rfl⟩) (wq_ppV hK (hP.sub (ws' := wcO qa cI cJ cZ z_o_fewest z_o_rows z_o_first o_stands) [0, 1, 2, 3] rfl) hE hS hA (ci := 1) (q0 := 0) rfl rfl) rfl rfl hl.1 rfl (lv_room (Nat.le_of_ble_eq_true rfl)) dX1_workOutFrom_144 ⟨Nat.zero_le _, Nat.zero_le _⟩) hS hA (fun H locs b26 hk hS => ?_)
                replace hP := wq_kp hP hk
                clear hk
                refine lv_imul hx hb dX1_workOutFrom_147 ?_
                obtain ⟨w28, w29, w30, g27, hG⟩ := wq_b3_s hG
                have hFc := va_free (wc := wcO qa cI cJ cZ z_o_fewest z_o_rows z_o_first o_stands) hD hS hA [0, 1, 2, 3] rfl
                refine wq_dv (D := (dC, dI)) (wr := wcT qa cI cJ cZ t_tears t_gains t_likings t_settings t_goodbyes t_women) (w1 := wcO qa cI cJ cZ w28 w29 w30 o_stands) (w2 := wcOT qa cI cJ cZ w28 w29 w30 o_stands t_tears t_gains t_likings t_settings t_goodbyes t_women) (va_runV (As := [.int x4, .int x6, .int (v22 + 1), .int (v3 * v25)]) (rest := []) ⟨hx, hb, hml, hown, hts⟩ (C_X1_offer l dC dI cI cJ cZ qa H.size z_o_fewest z_o_rows z_o_first o_stands x4 x6 (v22 + 1) (v3 * v25) w28 w29 w30 g27) (cwV 4 hts gX1_workOutFrom_X1_offer rfl rfl rfl hdV_X1_offer ⟨Nat.le_of_ble_eq_true rfl, Nat.le_of_ble_eq_true rfl⟩) (wq_pwV hK (hP.sub (ws' := wcO qa cI cJ cZ z_o_fewest z_o_rows z_o_first o_stands) [0, 1, 2, 3] rfl) (hD.sub (ws' := wcO qa cI cJ cZ z_o_fewest z_o_rows z_o_first o_stands) [0, 1, 2, 3] (by decide) rfl) hE hS hFc (ci := 1) (q0 := 0) rfl rfl) rfl rfl hl.1 rfl (lv_room (Nat.le_of_ble_eq_true rfl)) dX1_workOutFrom_148 ⟨Nat.zero_le _, Nat.zero_le _⟩) hP hD hS hFc [0, 1, 2, 3] [4, 5, 6, 7, 8] [5, 6, 7, 8, 0, 1, 2, 3, 4] rfl rfl (by decide) (by decide) (by decide) rfl (fun H locs hP hD hS => ?_)
                clear hFc
                refine lv_iinc (v := (x6 + 1)) (lv' := [(6, .int (x6 + 1)), (8, .int v14), (7, .int v3), (0, .ref (qa 11)), (1, .ref (qa 16)), (2, .int a2), (3, .int a3), (4, .int x4), (5, .int x5)]) hx hb dX1_workOutFrom_151 hl (k := 8) rfl rfl (by decide) rfl (fun ls hl => ?_)
                refine lv_goto (tgt := 42) hx hb dX1_workOutFrom_154 (by decide) ?_
                exact ih42 (x6 + 1) w28 w29 w30 _ _ _ hG hP hD hS (lv_sub hl [3, 4, 5, 6, 7, 8, 0] rfl)
        · replace hG := wq_f c5 hG
          refine lv_aload_n hx hb dX1_workOutFrom_68 rfl (lv_at hl 1 rfl) ?_
          refine lv_iload hx hb dX1_workOutFrom_69 (lv_at hl 5 rfl) ?_
          refine lv_iload hx hb dX1_workOutFrom_71 (lv_at hl 7 rfl) ?_
          refine lv_iconst (v := 1) hx hb dX1_workOutFrom_73 (by decide) ?_
          refine lv_iload hx hb dX1_workOutFrom_74 (lv_at hl 0 rfl) ?_
          refine lv_iload hx hb dX1_workOutFrom_76 (lv_at hl 6 rfl) ?_
          refine lv_isub hx hb dX1_workOutFrom_78 ?_
          refine lv_iconst (v := 1) hx hb dX1_workOutFrom_79 (by decide) ?_
          refine lv_iadd hx hb dX1_workOutFrom_80 ?_
          obtain ⟨w32, w33, w34, g31, hG⟩ := wq_b3_s hG
          have hFc := va_free (wc := wcO qa cI cJ cZ z_o_fewest z_o_rows z_o_first o_stands) hD hS hA [0, 1, 2, 3] rfl
          refine wq_dv (D := (dC, dI)) (wr := wcT qa cI cJ cZ t_tears t_gains t_likings t_settings t_goodbyes t_women) (w1 := wcO qa cI cJ cZ w32 w33 w34 o_stands) (w2 := wcOT qa cI cJ cZ w32 w33 w34 o_stands t_tears t_gains t_likings t_settings t_goodbyes t_women) (va_runV (As := [.int x4, .int x6, .int 1, .int ((v3 - x5) + 1)]) (rest := []) ⟨hx, hb, hml, hown, hts⟩ (C_X1_offer l dC dI cI cJ cZ qa H.size z_o_fewest z_o_rows z_o_first o_stands x4 x6 1 ((v3 - x5) + 1) w32 w33 w34 g31) (cwV 4 hts gX1_workOutFrom_X1_offer rfl rfl rfl hdV_X1_offer ⟨Nat.le_of_ble_eq_true rfl, Nat.le_of_ble_eq_true rfl⟩) (wq_pwV hK (hP.sub (ws' := wcO qa cI cJ cZ z_o_fewest z_o_rows z_o_first o_stands) [0, 1, 2, 3] rfl) (hD.sub (ws' := wcO qa cI cJ cZ z_o_fewest z_o_rows z_o_first o_stands) [0, 1, 2, 3] (by decide) rfl) hE hS hFc (ci := 1) (q0 := 0) rfl rfl) rfl rfl hl.1 rfl (lv_room (Nat.le_of_ble_eq_true rfl)) dX1_workOutFrom_81 ⟨Nat.zero_le _, Nat.zero_le _⟩) hP hD hS hFc [0, 1, 2, 3] [4, 5, 6, 7, 8] [5, 6, 7, 8, 0, 1, 2, 3, 4] rfl rfl (by decide) (by decide) (by decide) rfl (fun H locs hP hD hS => ?_)
          clear hFc
          refine lv_goto (tgt := 151) hx hb dX1_workOutFrom_84 (by decide) ?_
          refine lv_iinc (v := (x6 + 1)) (lv' := [(6, .int (x6 + 1)), (7, .int v3), (0, .ref (qa 11)), (1, .ref (qa 16)), (2, .int a2), (3, .int a3), (4, .int x4), (5, .int x5)]) hx hb dX1_workOutFrom_151 hl (k := 7) rfl rfl (by decide) rfl (fun ls hl => ?_)
          refine lv_goto (tgt := 42) hx hb dX1_workOutFrom_154 (by decide) ?_
          exact ih42 (x6 + 1) w32 w33 w34 _ _ _ hG hP hD hS (lv_sub hl [2, 3, 4, 5, 6, 7, 0] rfl)
  unfold gX1_workOutFrom at hG
  refine lv_iload_n hx hb dX1_workOutFrom_0 rfl (lv_at hl 2 rfl) ?_
  refine lv_iload_n hx hb dX1_workOutFrom_1 rfl (lv_at hl 3 rfl) ?_
  obtain ⟨v36, g35, hG⟩ := wq_b1_s hG
  refine wq_ci (v := v36) (B := wq_tr) (va_runS (As := [.int a2, .int a3]) (rest := []) ⟨hx, hb, hml, hown, hts⟩ (C_X1_placeOf l dC dI cI cJ cZ qa s.heap.size  a2 a3 v36 g35) (va_cwS 2 hts gX1_workOutFrom_X1_placeOf rfl rfl rfl hdS_X1_placeOf ⟨Nat.le_of_ble_eq_true rfl, Nat.le_of_ble_eq_true rfl⟩) (wq_ppS hK (hP.sub (ws' := []) [] rfl) hE hS hA) rfl rfl hl.1 rfl (lv_room (Nat.le_of_ble_eq_true rfl)) dX1_workOutFrom_2 ⟨Nat.zero_le _, Nat.zero_le _⟩) hS hA (fun H locs b37 hk hS => ?_)
  replace hP := wq_kp hP hk
  clear hk
  refine lv_istore (lv' := [(4, .int v36), (0, .ref (qa 11)), (1, .ref (qa 16)), (2, .int a2), (3, .int a3)]) hx hb dX1_workOutFrom_5 hl (by decide) rfl (fun ls hl => ?_)
  refine lv_iload hx hb dX1_workOutFrom_7 (lv_at hl 0 rfl) ?_
  obtain ⟨v39, g38, hG⟩ := wq_b1_s hG
  refine wq_ci (v := v39) (B := wq_Z1) (va_runS (As := [.int v36]) (rest := []) ⟨hx, hb, hml, hown, hts⟩ (C_X1_isPlace l dC dI cI cJ cZ qa H.size  v36 v39 g38) (va_cwS 1 hts gX1_workOutFrom_X1_isPlace rfl rfl rfl hdS_X1_isPlace ⟨Nat.le_of_ble_eq_true rfl, Nat.le_of_ble_eq_true rfl⟩) (wq_ppS hK (hP.sub (ws' := []) [] rfl) hE hS hA) rfl rfl hl.1 rfl (lv_room (Nat.le_of_ble_eq_true rfl)) dX1_workOutFrom_9 ⟨Nat.zero_le _, Nat.zero_le _⟩) hS hA (fun H locs b40 hk hS => ?_)
  replace hP := wq_kp hP hk
  clear hk
  refine lv_if_ne (tgt := 16) hx hb dX1_workOutFrom_12 (by decide) (fun c41 => ?_) (fun c41 => ?_)
  · replace hG := wq_f c41 hG
    refine lv_aload_n hx hb dX1_workOutFrom_16 rfl (lv_at hl 1 rfl) ?_
    refine va_get (D := (dC, dI)) (ci := 1) (v := .ref (qa 12)) (C := RX1) (T := TX1) (N := 4) hx hb hts hinX1 hown hK hP 0 rfl rfl 0 (by decide) k2 (fun _ h9 => h9) rfl dX1_workOutFrom_17 ?_
    refine lv_iload hx hb dX1_workOutFrom_20 (lv_at hl 0 rfl) ?_
    refine lv_iconst (v := 0) hx hb dX1_workOutFrom_22 (by decide) ?_
    obtain ⟨h42, hG⟩ := wq_chk_s hG
    refine wq_iast (D := (dC, dI)) hx hb hK hP hD hS 1 0 rfl rfl h42 (Int32.toNatClampNeg v36) rfl (wcOT qa cI cJ cZ (upd o_fewest (Int32.toNatClampNeg v36) 0) o_rows o_first o_stands t_tears t_gains t_likings t_settings t_goodbyes t_women) rfl dX1_workOutFrom_23 (fun H locs hP hD hS => ?_)
    refine lv_aload_n hx hb dX1_workOutFrom_24 rfl (lv_at hl 1 rfl) ?_
    refine va_get (D := (dC, dI)) (ci := 1) (v := .ref (qa 13)) (C := RX1) (T := TX1) (N := 4) hx hb hts hinX1 hown hK hP 0 rfl rfl 1 (by decide) k3 (fun _ h9 => h9) rfl dX1_workOutFrom_25 ?_
    refine lv_iload hx hb dX1_workOutFrom_28 (lv_at hl 0 rfl) ?_
    refine lv_iconst (v := 0) hx hb dX1_workOutFrom_30 (by decide) ?_
    refine wq_iast (D := (dC, dI)) hx hb hK hP hD hS 2 0 rfl rfl h42 (Int32.toNatClampNeg v36) rfl (wcOT qa cI cJ cZ (upd o_fewest (Int32.toNatClampNeg v36) 0) (upd o_rows (Int32.toNatClampNeg v36) 0) o_first o_stands t_tears t_gains t_likings t_settings t_goodbyes t_women) rfl dX1_workOutFrom_31 (fun H locs hP hD hS => ?_)
    refine lv_aload_n hx hb dX1_workOutFrom_32 rfl (lv_at hl 2 rfl) ?_
    refine lv_iconst (v := 3) hx hb dX1_workOutFrom_33 (by decide) ?_
    obtain ⟨v44, g43, hG⟩ := wq_b1_s hG
    refine wq_ci (v := v44) (B := wq_tr) (va_runV (As := [.int 3]) (rest := []) ⟨hx, hb, hml, hown, hts⟩ (C_X5_setting l dC dI cI cJ cZ qa H.size t_tears t_gains t_likings t_settings t_goodbyes t_women 3 v44 g43) (cwV 1 hts gX1_workOutFrom_X5_setting rfl rfl rfl hdV_X5_setting ⟨Nat.le_of_ble_eq_true rfl, Nat.le_of_ble_eq_true rfl⟩) (wq_ppV hK (hP.sub (ws' := wcT qa cI cJ cZ t_tears t_gains t_likings t_settings t_goodbyes t_women) [4, 5, 6, 7, 8] rfl) hE hS hA (ci := 5) (q0 := 0) rfl rfl) rfl rfl hl.1 rfl (lv_room (Nat.le_of_ble_eq_true rfl)) dX1_workOutFrom_34 ⟨Nat.zero_le _, Nat.zero_le _⟩) hS hA (fun H locs b45 hk hS => ?_)
    replace hP := wq_kp hP hk
    clear hk
    refine lv_istore (lv' := [(5, .int v44), (4, .int v36), (0, .ref (qa 11)), (1, .ref (qa 16)), (2, .int a2), (3, .int a3)]) hx hb dX1_workOutFrom_37 hl (by decide) rfl (fun ls hl => ?_)
    refine lv_iconst (v := 0) hx hb dX1_workOutFrom_39 (by decide) ?_
    refine lv_istore (lv' := [(6, .int 0), (5, .int v44), (4, .int v36), (0, .ref (qa 11)), (1, .ref (qa 16)), (2, .int a2), (3, .int a3)]) hx hb dX1_workOutFrom_40 hl (by decide) rfl (fun ls hl => ?_)
    exact hL42 v36 v44 1000 0 (upd o_fewest (Int32.toNatClampNeg v36) 0) (upd o_rows (Int32.toNatClampNeg v36) 0) o_first _ _ _ hG hP hD hS (lv_sub hl [3, 4, 5, 6, 2, 1, 0] rfl)
  · replace hG := wq_t c41 hG
    obtain ⟨e0, e1, e2⟩ := wq_j3 hG
    subst e0
    subst e1
    subst e2
    exact W.vret hx hb hr (fun t ht hW => ⟨⟨(), rfl, trivial, by rw [ht]; exact hP, hD⟩, hS.F ht⟩) hS.2.2 dX1_workOutFrom_15

theorem hdV_X1_workOut : yX1_workOut.cls = RX1 ∧ yX1_workOut.cls ≠ "java/lang/invoke/MethodHandle" ∧ yX1_workOut.cls ≠ "java/lang/invoke/VarHandle" ∧ (parseMethodDescriptor yX1_workOut.desc).map (fun d => d.parameters.length) = some 1 := by decide +kernel
set_option maxHeartbeats 4000000 in
set_option maxRecDepth 100000 in
theorem C_X1_workOut (l : Launch) (dC : Nat → ClassId) (dI : Nat → Nat → Nat) (cI cJ cZ : ClassId) (qa : Nat → Nat) (sz : Nat) (o_fewest : Nat → Int32) (o_rows : Nat → Int32) (o_first : Nat → Int32) (o_stands : Int32) (t_tears : Nat → Int32) (t_gains : Nat → Int32) (t_likings : Nat → Int32) (t_settings : Nat → Int32) (t_goodbyes : Int32) (t_women : Int32) (r_o_fewest : Nat → Int32) (r_o_rows : Nat → Int32) (r_o_first : Nat → Int32) (r_o_stands : Int32) (hG : gX1_workOut o_fewest o_rows o_first o_stands t_tears t_gains t_settings t_goodbyes = some (r_o_fewest, r_o_rows, r_o_first, r_o_stands)) : Met l yX1_workOut wsX1_workOut ({ frames := 4, cells := 0, slots := 0, locals := 94 } : Room) (va_Pc [.ref (qa 11), .ref (qa 16)] (wq_pw (dC, dI) [(cI, .int), (cJ, .long), (cZ, .boolean)] (wcOT qa cI cJ cZ o_fewest o_rows o_first o_stands t_tears t_gains t_likings t_settings t_goodbyes t_women) sz)) (wq_Wv (dC, dI) (wcOT qa cI cJ cZ r_o_fewest r_o_rows r_o_first r_o_stands t_tears t_gains t_likings t_settings t_goodbyes t_women) (va_A (wcOT qa cI cJ cZ o_fewest o_rows o_first o_stands t_tears t_gains t_likings t_settings t_goodbyes t_women) sz)) 0 0 (va_A (wcOT qa cI cJ cZ o_fewest o_rows o_first o_stands t_tears t_gains t_likings t_settings t_goodbyes t_women) sz) := by
  refine Met.ofW (cc := cX1_workOut) (maxL := 4) (ret := none) (by decide) rfl ?_
  intro p e s m args below meth c s₁ B hml hv
  obtain ⟨rfl, hsz, hP, hK, hD0, hE⟩ := hv
  have hx := B.exec
  have hb := B.bytes
  have hr := B.returns
  have hts := atoms_spec (ws := wsX1_workOut) B.pre
  have hown : s.vm.findClass RX1 = some m.cls := findClass_of_methodNamed B.named
  have hlocks := B.notSynchronized
  subst hsz
  have hD := hD0.self (sz := s.heap.size)
  generalize hAe : va_A (wcOT qa cI cJ cZ o_fewest o_rows o_first o_stands t_tears t_gains t_likings t_settings t_goodbyes t_women) s.heap.size = A at hD hE ⊢
  have hA : ∀ q : Nat, s.heap.size ≤ q → A q := fun q h => by rw [← hAe]; exact Or.inr h
  have hS : va_S A s.heap s.heap [] := va_S.rf
  have hinX1 : ∀ w ∈ u_ws RX1 TX1 4, w ∈ wsX1_workOut := by decide +kernel
  have k1 := hts (.fieldLink RX1 21 "DoorMornings$Outlook" "stands" "Z") (by decide +kernel)
  have hl := lv_entry ([.ref (qa 11), .ref (qa 16)]) (n := 4) (Nat.le_of_ble_eq_true rfl)
  rw [lg_entry_eq]
  generalize (lg_sl ([.ref (qa 11), .ref (qa 16)]) ++ List.replicate (4 - (lg_sl ([.ref (qa 11), .ref (qa 16)])).length) Slot.unset).toArray = ls at hl ⊢
  have hl : lv_has ls 4 [(0, .ref (qa 11)), (1, .ref (qa 16))] := hl
  have hL10 : ∀ (z_o_stands : Int32) (x2 : Int32) (kk3 : Int32 → (Nat → Int32) → (Nat → Int32) → (Nat → Int32) → Option ((Nat → Int32) × (Nat → Int32) × (Nat → Int32) × Int32)) (hk3 : ∀ (y2 : Int32) (u_o_fewest : Nat → Int32) (u_o_rows : Nat → Int32) (u_o_first : Nat → Int32) (H : Heap) (locs : List Loc) (ls : Array Slot), kk3 y2 u_o_fewest u_o_rows u_o_first = some (r_o_fewest, r_o_rows, r_o_first, r_o_stands) → va_P (dC, dI) vwCl (wcOT qa cI cJ cZ u_o_fewest u_o_rows u_o_first z_o_stands t_tears t_gains t_likings t_settings t_goodbyes t_women) H → va_D A (wcOT qa cI cJ cZ u_o_fewest u_o_rows u_o_first z_o_stands t_tears t_gains t_likings t_settings t_goodbyes t_women) → va_S A s.heap H locs → lv_has ls 4 [(0, .ref (qa 11)), (1, .ref (qa 16)), (2, .int y2)] → W p l e (headSpec wsX1_workOut ({ frames := 4, cells := 0, slots := 0, locals := 94 } : Room)).room s m ([.ref (qa 11), .ref (qa 16)] : List Value).toArray below meth c H locs 0 0 (MQ below (wq_Wv (dC, dI) (wcOT qa cI cJ cZ r_o_fewest r_o_rows r_o_first r_o_stands t_tears t_gains t_likings t_settings t_goodbyes t_women) A) ([.ref (qa 11), .ref (qa 16)] : List Value).toArray s 0 0 A) (F0 m 3 ls [])) (n : Nat) (x3 : Int32) (z_o_fewest : Nat → Int32) (z_o_rows : Nat → Int32) (z_o_first : Nat → Int32) (H : Heap) (locs : List Loc) (ls : Array Slot), gX1_workOut_L10 kk3 z_o_stands t_tears t_gains t_settings t_goodbyes x2 n x3 z_o_fewest z_o_rows z_o_first = some (r_o_fewest, r_o_rows, r_o_first, r_o_stands) → va_P (dC, dI) vwCl (wcOT qa cI cJ cZ z_o_fewest z_o_rows z_o_first z_o_stands t_tears t_gains t_likings t_settings t_goodbyes t_women) H → va_D A (wcOT qa cI cJ cZ z_o_fewest z_o_rows z_o_first z_o_stands t_tears t_gains t_likings t_settings t_goodbyes t_women) → va_S A s.heap H locs → lv_has ls 4 [(0, .ref (qa 11)), (1, .ref (qa 16)), (2, .int x2), (3, .int x3)] → W p l e (headSpec wsX1_workOut ({ frames := 4, cells := 0, slots := 0, locals := 94 } : Room)).room s m ([.ref (qa 11), .ref (qa 16)] : List Value).toArray below meth c H locs 0 0 (MQ below (wq_Wv (dC, dI) (wcOT qa cI cJ cZ r_o_fewest r_o_rows r_o_first r_o_stands t_tears t_gains t_likings t_settings t_goodbyes t_women) A) ([.ref (qa 11), .ref (qa 16)] : List Value).toArray s 0 0 A) (F0 m 10 ls []) := by
    intro z_o_stands x2 kk3 hk3 n
    induction n with
    | zero =>
      intro x3 z_o_fewest z_o_rows z_o_first H locs ls hG
      exact absurd (show (none : Option ((Nat → Int32) × (Nat → Int32) × (Nat → Int32) × Int32)) = some (r_o_fewest, r_o_rows, r_o_first, r_o_stands) from hG) (by intro h9; cases h9)
    | succ n ih10 =>
      intro x3 z_o_fewest z_o_rows z_o_first H locs ls hG hP hD hS hl
      rw [gX1_workOut_L10] at hG
      refine lv_iload_n hx hb dX1_workOut_10 rfl (lv_at hl 3 rfl) ?_
      refine lv_if_lt (tgt := 27) hx hb dX1_workOut_11 (by decide) (fun c1 => ?_) (fun c1 => ?_)
      · replace hG := wq_t c1 hG
        refine lv_iinc (v := (x2 + (-1))) (lv' := [(2, .int (x2 + (-1))), (0, .ref (qa 11)), (1, .ref (qa 16)), (3, .int x3)]) hx hb dX1_workOut_27 hl (k := 2) rfl rfl (by decide) rfl (fun ls hl => ?_)
        refine lv_goto (tgt := 3) hx hb dX1_workOut_30 (by decide) ?_
        exact hk3 (x2 + (-1)) z_o_fewest z_o_rows z_o_first _ _ _ hG hP hD hS (lv_sub hl [1, 2, 0] rfl)
      · replace hG := wq_f c1 hG
        refine lv_aload_n hx hb dX1_workOut_14 rfl (lv_at hl 0 rfl) ?_
        refine lv_aload_n hx hb dX1_workOut_15 rfl (lv_at hl 1 rfl) ?_
        refine lv_iload_n hx hb dX1_workOut_16 rfl (lv_at hl 2 rfl) ?_
        refine lv_iload_n hx hb dX1_workOut_17 rfl (lv_at hl 3 rfl) ?_
        obtain ⟨w3, w4, w5, g2, hG⟩ := wq_b3_s hG
        have hFc := va_free (wc := wcOT qa cI cJ cZ z_o_fewest z_o_rows z_o_first z_o_stands t_tears t_gains t_likings t_settings t_goodbyes t_women) hD hS hA [0, 1, 2, 3, 4, 5, 6, 7, 8] rfl
        refine wq_dv (D := (dC, dI)) (wr := []) (w1 := wcOT qa cI cJ cZ w3 w4 w5 z_o_stands t_tears t_gains t_likings t_settings t_goodbyes t_women) (w2 := wcOT qa cI cJ cZ w3 w4 w5 z_o_stands t_tears t_gains t_likings t_settings t_goodbyes t_women) (va_runV (As := [.ref (qa 16), .int x2, .int x3]) (rest := []) ⟨hx, hb, hml, hown, hts⟩ (C_X1_workOutFrom l dC dI cI cJ cZ qa H.size z_o_fewest z_o_rows z_o_first z_o_stands t_tears t_gains t_likings t_settings t_goodbyes t_women x2 x3 w3 w4 w5 g2) (cwV 3 hts gX1_workOut_X1_workOutFrom rfl rfl rfl hdV_X1_workOutFrom ⟨Nat.le_of_ble_eq_true rfl, Nat.le_of_ble_eq_true rfl⟩) (wq_pwV hK hP hD hE hS hFc (ci := 1) (q0 := 0) rfl rfl) rfl rfl hl.1 rfl (lv_room (Nat.le_of_ble_eq_true rfl)) dX1_workOut_18 ⟨Nat.zero_le _, Nat.zero_le _⟩) hP hD hS hFc [0, 1, 2, 3, 4, 5, 6, 7, 8] [] [0, 1, 2, 3, 4, 5, 6, 7, 8] rfl rfl (by decide) (by decide) (by decide) rfl (fun H locs hP hD hS => ?_)
        clear hFc
        refine lv_iinc (v := (x3 + (-1))) (lv' := [(3, .int (x3 + (-1))), (0, .ref (qa 11)), (1, .ref (qa 16)), (2, .int x2)]) hx hb dX1_workOut_21 hl (k := 3) rfl rfl (by decide) rfl (fun ls hl => ?_)
        refine lv_goto (tgt := 10) hx hb dX1_workOut_24 (by decide) ?_
        exact ih10 (x3 + (-1)) w3 w4 w5 _ _ _ hG hP hD hS (lv_sub hl [1, 2, 3, 0] rfl)
  have hL3 : ∀ (z_o_stands : Int32) (n : Nat) (x2 : Int32) (z_o_fewest : Nat → Int32) (z_o_rows : Nat → Int32) (z_o_first : Nat → Int32) (H : Heap) (locs : List Loc) (ls : Array Slot), gX1_workOut_L3 z_o_stands t_tears t_gains t_settings t_goodbyes n x2 z_o_fewest z_o_rows z_o_first = some (r_o_fewest, r_o_rows, r_o_first, r_o_stands) → va_P (dC, dI) vwCl (wcOT qa cI cJ cZ z_o_fewest z_o_rows z_o_first z_o_stands t_tears t_gains t_likings t_settings t_goodbyes t_women) H → va_D A (wcOT qa cI cJ cZ z_o_fewest z_o_rows z_o_first z_o_stands t_tears t_gains t_likings t_settings t_goodbyes t_women) → va_S A s.heap H locs → lv_has ls 4 [(0, .ref (qa 11)), (1, .ref (qa 16)), (2, .int x2)] → W p l e (headSpec wsX1_workOut ({ frames := 4, cells := 0, slots := 0, locals := 94 } : Room)).room s m ([.ref (qa 11), .ref (qa 16)] : List Value).toArray below meth c H locs 0 0 (MQ below (wq_Wv (dC, dI) (wcOT qa cI cJ cZ r_o_fewest r_o_rows r_o_first r_o_stands t_tears t_gains t_likings t_settings t_goodbyes t_women) A) ([.ref (qa 11), .ref (qa 16)] : List Value).toArray s 0 0 A) (F0 m 3 ls []) := by
    intro z_o_stands n
    induction n with
    | zero =>
      intro x2 z_o_fewest z_o_rows z_o_first H locs ls hG
      exact absurd (show (none : Option ((Nat → Int32) × (Nat → Int32) × (Nat → Int32) × Int32)) = some (r_o_fewest, r_o_rows, r_o_first, r_o_stands) from hG) (by intro h9; cases h9)
    | succ n ih3 =>
      intro x2 z_o_fewest z_o_rows z_o_first H locs ls hG hP hD hS hl
      rw [gX1_workOut_L3] at hG
      refine lv_iload_n hx hb dX1_workOut_3 rfl (lv_at hl 2 rfl) ?_
      refine lv_if_lt (tgt := 33) hx hb dX1_workOut_4 (by decide) (fun c6 => ?_) (fun c6 => ?_)
      · replace hG := wq_t c6 hG
        refine lv_aload_n hx hb dX1_workOut_33 rfl (lv_at hl 0 rfl) ?_
        refine lv_iconst (v := 1) hx hb dX1_workOut_34 (by decide) ?_
        refine va_put (D := (dC, dI)) (ci := 1) (v := .int 1) (ty := tyX1 3) (C := RX1) (T := TX1) (N := 4) hx hb hts hinX1 tyX1 tyX1_ok nmX1 hown hK hP hD hS 0 rfl rfl 3 (by decide) k1 (fun _ h9 => h9) rfl (tyX1_ok 3 (by decide)) rfl rfl (Nat.le_of_ble_eq_true rfl) dX1_workOut_35 (fun H locs hP hD hS => ?_)
        replace hP : va_P (dC, dI) vwCl (wcOT qa cI cJ cZ z_o_fewest z_o_rows z_o_first 1 t_tears t_gains t_likings t_settings t_goodbyes t_women) H := hP
        replace hD : va_D A (wcOT qa cI cJ cZ z_o_fewest z_o_rows z_o_first 1 t_tears t_gains t_likings t_settings t_goodbyes t_women) := hD
        obtain ⟨e0, e1, e2, e3⟩ := wq_j4 hG
        subst e0
        subst e1
        subst e2
        subst e3
        exact W.vret hx hb hr (fun t ht hW => ⟨⟨(), rfl, trivial, by rw [ht]; exact hP, hD⟩, hS.F ht⟩) hS.2.2 dX1_workOut_38
      · replace hG := wq_f c6 hG
        refine lv_bipush (v := 9) hx hb dX1_workOut_7 (by decide) ?_
        refine lv_istore_n (lv' := [(3, .int 9), (0, .ref (qa 11)), (1, .ref (qa 16)), (2, .int x2)]) hx hb dX1_workOut_9 rfl hl (by decide) rfl (fun ls hl => ?_)
        exact hL10 z_o_stands x2 (gX1_workOut_L3 z_o_stands t_tears t_gains t_settings t_goodbyes n) ih3 1000 9 z_o_fewest z_o_rows z_o_first _ _ _ hG hP hD hS (lv_sub hl [1, 2, 3, 0] rfl)
  unfold gX1_workOut at hG
  refine lv_bipush (v := 24) hx hb dX1_workOut_0 (by decide) ?_
  refine lv_istore_n (lv' := [(2, .int 24), (0, .ref (qa 11)), (1, .ref (qa 16))]) hx hb dX1_workOut_2 rfl hl (by decide) rfl (fun ls hl => ?_)
  exact hL3 o_stands 1000 24 o_fewest o_rows o_first _ _ _ hG hP hD hS (lv_sub hl [1, 2, 0] rfl)

theorem hdV_X6_lookAhead : yX6_lookAhead.cls = RX6 ∧ yX6_lookAhead.cls ≠ "java/lang/invoke/MethodHandle" ∧ yX6_lookAhead.cls ≠ "java/lang/invoke/VarHandle" ∧ (parseMethodDescriptor yX6_lookAhead.desc).map (fun d => d.parameters.length) = some 0 := by decide +kernel
set_option maxHeartbeats 4000000 in
set_option maxRecDepth 100000 in
theorem C_X6_lookAhead (l : Launch) (dC : Nat → ClassId) (dI : Nat → Nat → Nat) (cI cJ cZ : ClassId) (qa : Nat → Nat) (sz : Nat) (r_images : Nat → Int64) (r_asked : Int64) (o_fewest : Nat → Int32) (o_rows : Nat → Int32) (o_first : Nat → Int32) (o_stands : Int32) (t_tears : Nat → Int32) (t_gains : Nat → Int32) (t_likings : Nat → Int32) (t_settings : Nat → Int32) (t_goodbyes : Int32) (t_women : Int32) (r_o_fewest : Nat → Int32) (r_o_rows : Nat → Int32) (r_o_first : Nat → Int32) (r_o_stands : Int32) (hG : gX6_lookAhead o_fewest o_rows o_first o_stands t_tears t_gains t_settings t_goodbyes = some (r_o_fewest, r_o_rows, r_o_first, r_o_stands)) : Met l yX6_lookAhead wsX6_lookAhead ({ frames := 5, cells := 0, slots := 0, locals := 117 } : Room) (va_Pc [.ref (qa 0)] (wq_pw (dC, dI) [(cI, .int), (cJ, .long), (cZ, .boolean)] (wcROT qa cI cJ cZ r_images r_asked o_fewest o_rows o_first o_stands t_tears t_gains t_likings t_settings t_goodbyes t_women) sz)) (wq_Wv (dC, dI) (wcROT qa cI cJ cZ r_images r_asked r_o_fewest r_o_rows r_o_first r_o_stands t_tears t_gains t_likings t_settings t_goodbyes t_women) (va_A (wcROT qa cI cJ cZ r_images r_asked o_fewest o_rows o_first o_stands t_tears t_gains t_likings t_settings t_goodbyes t_women) sz)) 0 0 (va_A (wcROT qa cI cJ cZ r_images r_asked o_fewest o_rows o_first o_stands t_tears t_gains t_likings t_settings t_goodbyes t_women) sz) := by
  refine Met.ofW (cc := cX6_lookAhead) (maxL := 1) (ret := none) (by decide) rfl ?_
  intro p e s m args below meth c s₁ B hml hv
  obtain ⟨rfl, hsz, hP, hK, hD0, hE⟩ := hv
  have hx := B.exec
  have hb := B.bytes
  have hr := B.returns
  have hts := atoms_spec (ws := wsX6_lookAhead) B.pre
  have hown : s.vm.findClass RX6 = some m.cls := findClass_of_methodNamed B.named
  have hlocks := B.notSynchronized
  subst hsz
  have hD := hD0.self (sz := s.heap.size)
  generalize hAe : va_A (wcROT qa cI cJ cZ r_images r_asked o_fewest o_rows o_first o_stands t_tears t_gains t_likings t_settings t_goodbyes t_women) s.heap.size = A at hD hE ⊢
  have hA : ∀ q : Nat, s.heap.size ≤ q → A q := fun q h => by rw [← hAe]; exact Or.inr h
  have hS : va_S A s.heap s.heap [] := va_S.rf
  have hinX6 : ∀ w ∈ u_ws RX6 TX6 9, w ∈ wsX6_lookAhead := by decide +kernel
  have hinX1 : ∀ w ∈ u_ws RX1 TX1 4, w ∈ wsX6_lookAhead := by decide +kernel
  have k1 := hts (.fieldLink RX6 40 "DoorMornings" "outlook" "LDoorMornings$Outlook;") (by decide +kernel)
  have k2 := hts (.fieldLink RX6 83 "DoorMornings$Outlook" "stands" "Z") (by decide +kernel)
  have k3 := hts (.fieldLink RX6 53 "DoorMornings" "told" "LDoorMornings$Told;") (by decide +kernel)
  have hl := lv_entry ([.ref (qa 0)]) (n := 1) (Nat.le_of_ble_eq_true rfl)
  rw [lg_entry_eq]
  generalize (lg_sl ([.ref (qa 0)]) ++ List.replicate (1 - (lg_sl ([.ref (qa 0)])).length) Slot.unset).toArray = ls at hl ⊢
  have hl : lv_has ls 1 [(0, .ref (qa 0))] := hl
  unfold gX6_lookAhead at hG
  refine lv_aload_n hx hb dX6_lookAhead_0 rfl (lv_at hl 0 rfl) ?_
  refine va_get (D := (dC, dI)) (ci := 6) (v := .ref (qa 11)) (C := RX6) (T := TX6) (N := 9) hx hb hts hinX6 hown hK hP 0 rfl rfl 4 (by decide) k1 (fun _ h9 => h9) rfl dX6_lookAhead_1 ?_
  refine va_get (D := (dC, dI)) (ci := 1) (v := .int o_stands) (C := RX1) (T := TX1) (N := 4) hx hb hts hinX1 hown hK hP 2 rfl rfl 3 (by decide) k2 (fun _ h9 => h9) rfl dX6_lookAhead_4 ?_
  refine lv_if_ne (tgt := 21) hx hb dX6_lookAhead_7 (by decide) (fun c1 => ?_) (fun c1 => ?_)
  · replace hG := wq_f c1 hG
    obtain ⟨e0, e1, e2, e3⟩ := wq_j4 hG
    subst e0
    subst e1
    subst e2
    subst e3
    exact W.vret hx hb hr (fun t ht hW => ⟨⟨(), rfl, trivial, by rw [ht]; exact hP, hD⟩, hS.F ht⟩) hS.2.2 dX6_lookAhead_21
  · replace hG := wq_t c1 hG
    refine lv_aload_n hx hb dX6_lookAhead_10 rfl (lv_at hl 0 rfl) ?_
    refine va_get (D := (dC, dI)) (ci := 6) (v := .ref (qa 11)) (C := RX6) (T := TX6) (N := 9) hx hb hts hinX6 hown hK hP 0 rfl rfl 4 (by decide) k1 (fun _ h9 => h9) rfl dX6_lookAhead_11 ?_
    refine lv_aload_n hx hb dX6_lookAhead_14 rfl (lv_at hl 0 rfl) ?_
    refine va_get (D := (dC, dI)) (ci := 6) (v := .ref (qa 16)) (C := RX6) (T := TX6) (N := 9) hx hb hts hinX6 hown hK hP 0 rfl rfl 6 (by decide) k3 (fun _ h9 => h9) rfl dX6_lookAhead_15 ?_
    obtain ⟨w3, w4, w5, w6, g2, hG⟩ := wq_b4_s hG
    have hFc := va_free (wc := wcOT qa cI cJ cZ o_fewest o_rows o_first o_stands t_tears t_gains t_likings t_settings t_goodbyes t_women) hD hS hA [2, 3, 4, 5, 6, 7, 8, 9, 10] rfl
    refine wq_dv (D := (dC, dI)) (wr := wcR qa cI cJ cZ r_images r_asked) (w1 := wcOT qa cI cJ cZ w3 w4 w5 w6 t_tears t_gains t_likings t_settings t_goodbyes t_women) (w2 := wcROT qa cI cJ cZ r_images r_asked w3 w4 w5 w6 t_tears t_gains t_likings t_settings t_goodbyes t_women) (va_runV (As := [.ref (qa 16)]) (rest := []) ⟨hx, hb, hml, hown, hts⟩ (C_X1_workOut l dC dI cI cJ cZ qa s.heap.size o_fewest o_rows o_first o_stands t_tears t_gains t_likings t_settings t_goodbyes t_women  w3 w4 w5 w6 g2) (cwV 1 hts gX6_lookAhead_X1_workOut rfl rfl rfl hdV_X1_workOut ⟨Nat.le_of_ble_eq_true rfl, Nat.le_of_ble_eq_true rfl⟩) (wq_pwV hK (hP.sub (ws' := wcOT qa cI cJ cZ o_fewest o_rows o_first o_stands t_tears t_gains t_likings t_settings t_goodbyes t_women) [2, 3, 4, 5, 6, 7, 8, 9, 10] rfl) (hD.sub (ws' := wcOT qa cI cJ cZ o_fewest o_rows o_first o_stands t_tears t_gains t_likings t_settings t_goodbyes t_women) [2, 3, 4, 5, 6, 7, 8, 9, 10] (by decide) rfl) hE hS hFc (ci := 1) (q0 := 0) rfl rfl) rfl rfl hl.1 rfl (lv_room (Nat.le_of_ble_eq_true rfl)) dX6_lookAhead_18 ⟨Nat.zero_le _, Nat.zero_le _⟩) hP hD hS hFc [2, 3, 4, 5, 6, 7, 8, 9, 10] [0, 1] [0, 1, 2, 3, 4, 5, 6, 7, 8, 9, 10] rfl rfl (by decide) (by decide) (by decide) rfl (fun H locs hP hD hS => ?_)
    clear hFc
    obtain ⟨e0, e1, e2, e3⟩ := wq_j4 hG
    subst e0
    subst e1
    subst e2
    subst e3
    exact W.vret hx hb hr (fun t ht hW => ⟨⟨(), rfl, trivial, by rw [ht]; exact hP, hD⟩, hS.F ht⟩) hS.2.2 dX6_lookAhead_21

theorem hdV_X1_fewestFrom : yX1_fewestFrom.cls = RX1 ∧ yX1_fewestFrom.cls ≠ "java/lang/invoke/MethodHandle" ∧ yX1_fewestFrom.cls ≠ "java/lang/invoke/VarHandle" ∧ (parseMethodDescriptor yX1_fewestFrom.desc).map (fun d => d.parameters.length) = some 2 := by decide +kernel
set_option maxHeartbeats 4000000 in
set_option maxRecDepth 100000 in
theorem C_X1_fewestFrom (l : Launch) (dC : Nat → ClassId) (dI : Nat → Nat → Nat) (cI cJ cZ : ClassId) (qa : Nat → Nat) (sz : Nat) (o_fewest : Nat → Int32) (o_rows : Nat → Int32) (o_first : Nat → Int32) (o_stands : Int32) (a1 : Int32) (a2 : Int32) (r0 : Int32) (hG : gX1_fewestFrom o_fewest a1 a2 = some r0) : Met l yX1_fewestFrom wsX1_fewestFrom ({ frames := 2, cells := 0, slots := 0, locals := 41 } : Room) (va_Pc [.ref (qa 11), .int a1, .int a2] (wq_pp (dC, dI) [(cI, .int), (cJ, .long), (cZ, .boolean)] (wcO qa cI cJ cZ o_fewest o_rows o_first o_stands) sz)) (wq_Qi r0 wq_tr (va_A [] sz)) 0 0 (va_A [] sz) := by
  refine Met.ofW (cc := cX1_fewestFrom) (maxL := 3) (ret := (some .int)) (by decide) rfl ?_
  intro p e s m args below meth c s₁ B hml hv
  obtain ⟨rfl, hsz, hP, hK, hE⟩ := hv
  have hx := B.exec
  have hb := B.bytes
  have hr := B.returns
  have hts := atoms_spec (ws := wsX1_fewestFrom) B.pre
  have hown : s.vm.findClass RX1 = some m.cls := findClass_of_methodNamed B.named
  have hlocks := B.notSynchronized
  subst hsz
  generalize hAe : va_A [] s.heap.size = A at hE ⊢
  have hA : ∀ q : Nat, s.heap.size ≤ q → A q := fun q h => by rw [← hAe]; exact Or.inr h
  have hS : va_S A s.heap s.heap [] := va_S.rf
  have hl := lv_entry ([.ref (qa 11), .int a1, .int a2]) (n := 3) (Nat.le_of_ble_eq_true rfl)
  rw [lg_entry_eq]
  generalize (lg_sl ([.ref (qa 11), .int a1, .int a2]) ++ List.replicate (3 - (lg_sl ([.ref (qa 11), .int a1, .int a2])).length) Slot.unset).toArray = ls at hl ⊢
  have hl : lv_has ls 3 [(0, .ref (qa 11)), (1, .int a1), (2, .int a2)] := hl
  unfold gX1_fewestFrom at hG
  refine lv_aload_n hx hb dX1_fewestFrom_0 rfl (lv_at hl 0 rfl) ?_
  refine lv_iload_n hx hb dX1_fewestFrom_1 rfl (lv_at hl 1 rfl) ?_
  refine lv_iload_n hx hb dX1_fewestFrom_2 rfl (lv_at hl 2 rfl) ?_
  obtain ⟨v2, g1, hG⟩ := wq_b1_s hG
  refine wq_ci (v := v2) (B := wq_tr) (va_runS (As := [.int a1, .int a2]) (rest := [.ref (qa 11)]) ⟨hx, hb, hml, hown, hts⟩ (C_X1_placeOf l dC dI cI cJ cZ qa s.heap.size  a1 a2 v2 g1) (va_cwS 2 hts gX1_fewestFrom_X1_placeOf rfl rfl rfl hdS_X1_placeOf ⟨Nat.le_of_ble_eq_true rfl, Nat.le_of_ble_eq_true rfl⟩) (wq_ppS hK (hP.sub (ws' := []) [] rfl) hE hS hA) rfl rfl hl.1 rfl (lv_room (Nat.le_of_ble_eq_true rfl)) dX1_fewestFrom_3 ⟨Nat.zero_le _, Nat.zero_le _⟩) hS hA (fun H locs b3 hk hS => ?_)
  replace hP := wq_kp hP hk
  clear hk
  obtain ⟨v5, g4, hG⟩ := wq_b1_s hG
  refine wq_ci (v := v5) (B := wq_tr) (va_runV (As := [.int v2]) (rest := []) ⟨hx, hb, hml, hown, hts⟩ (C_X1_fewestAt l dC dI cI cJ cZ qa H.size o_fewest o_rows o_first o_stands v2 v5 g4) (cwV 1 hts gX1_fewestFrom_X1_fewestAt rfl rfl rfl hdV_X1_fewestAt ⟨Nat.le_of_ble_eq_true rfl, Nat.le_of_ble_eq_true rfl⟩) (wq_ppV hK hP hE hS hA (ci := 1) (q0 := 0) rfl rfl) rfl rfl hl.1 rfl (lv_room (Nat.le_of_ble_eq_true rfl)) dX1_fewestFrom_6 ⟨Nat.zero_le _, Nat.zero_le _⟩) hS hA (fun H locs b6 hk hS => ?_)
  replace hP := wq_kp hP hk
  clear hk
  exact W.iret (v := v5) hx hb hr (fun t ht hW => ⟨⟨v5, (), rfl, ⟨Option.some.inj hG, trivial⟩, trivial⟩, hS.F ht⟩) hS.2.2 dX1_fewestFrom_9

theorem hdV_X1_morningAt : yX1_morningAt.cls = RX1 ∧ yX1_morningAt.cls ≠ "java/lang/invoke/MethodHandle" ∧ yX1_morningAt.cls ≠ "java/lang/invoke/VarHandle" ∧ (parseMethodDescriptor yX1_morningAt.desc).map (fun d => d.parameters.length) = some 4 := by decide +kernel
set_option maxHeartbeats 4000000 in
set_option maxRecDepth 100000 in
theorem C_X1_morningAt (l : Launch) (dC : Nat → ClassId) (dI : Nat → Nat → Nat) (cI cJ cZ : ClassId) (qa : Nat → Nat) (sz : Nat) (o_fewest : Nat → Int32) (o_rows : Nat → Int32) (o_first : Nat → Int32) (o_stands : Int32) (t_tears : Nat → Int32) (t_gains : Nat → Int32) (t_likings : Nat → Int32) (t_settings : Nat → Int32) (t_goodbyes : Int32) (t_women : Int32) (a2 : Int32) (a3 : Int32) (a4 : Int32) (r0 : Int32) (hG : gX1_morningAt o_fewest o_first t_gains t_settings t_goodbyes a2 a3 a4 = some r0) : Met l yX1_morningAt wsX1_morningAt ({ frames := 3, cells := 0, slots := 0, locals := 64 } : Room) (va_Pc [.ref (qa 11), .ref (qa 16), .int a2, .int a3, .int a4] (wq_pp (dC, dI) [(cI, .int), (cJ, .long), (cZ, .boolean)] (wcOT qa cI cJ cZ o_fewest o_rows o_first o_stands t_tears t_gains t_likings t_settings t_goodbyes t_women) sz)) (wq_Qi r0 wq_tr (va_A [] sz)) 0 0 (va_A [] sz) := by
  refine Met.ofW (cc := cX1_morningAt) (maxL := 9) (ret := (some .int)) (by decide) rfl ?_
  intro p e s m args below meth c s₁ B hml hv
  obtain ⟨rfl, hsz, hP, hK, hE⟩ := hv
  have hx := B.exec
  have hb := B.bytes
  have hr := B.returns
  have hts := atoms_spec (ws := wsX1_morningAt) B.pre
  have hown : s.vm.findClass RX1 = some m.cls := findClass_of_methodNamed B.named
  have hlocks := B.notSynchronized
  subst hsz
  generalize hAe : va_A [] s.heap.size = A at hE ⊢
  have hA : ∀ q : Nat, s.heap.size ≤ q → A q := fun q h => by rw [← hAe]; exact Or.inr h
  have hS : va_S A s.heap s.heap [] := va_S.rf
  have hinX1 : ∀ w ∈ u_ws RX1 TX1 4, w ∈ wsX1_morningAt := by decide +kernel
  have k1 := hts (.fieldLink RX1 18 "DoorMornings$Outlook" "firstGoodbye" "[I") (by decide +kernel)
  have k2 := hts (.fieldLink RX1 11 "DoorMornings$Outlook" "fewest" "[I") (by decide +kernel)
  have hl := lv_entry ([.ref (qa 11), .ref (qa 16), .int a2, .int a3, .int a4]) (n := 9) (Nat.le_of_ble_eq_true rfl)
  rw [lg_entry_eq]
  generalize (lg_sl ([.ref (qa 11), .ref (qa 16), .int a2, .int a3, .int a4]) ++ List.replicate (9 - (lg_sl ([.ref (qa 11), .ref (qa 16), .int a2, .int a3, .int a4])).length) Slot.unset).toArray = ls at hl ⊢
  have hl : lv_has ls 9 [(0, .ref (qa 11)), (1, .ref (qa 16)), (2, .int a2), (3, .int a3), (4, .int a4)] := hl
  have hL16 : ∀  (n : Nat) (x5 : Int32) (x6 : Int32) (x7 : Int32) (x8 : Int32) (H : Heap) (locs : List Loc) (ls : Array Slot), gX1_morningAt_L16 o_fewest o_first t_gains t_settings t_goodbyes a4 n x5 x6 x7 x8 = some r0 → va_P (dC, dI) vwCl (wcOT qa cI cJ cZ o_fewest o_rows o_first o_stands t_tears t_gains t_likings t_settings t_goodbyes t_women) H → va_S A s.heap H locs → lv_has ls 9 [(0, .ref (qa 11)), (1, .ref (qa 16)), (4, .int a4), (5, .int x5), (6, .int x6), (7, .int x7), (8, .int x8)] → W p l e (headSpec wsX1_morningAt ({ frames := 3, cells := 0, slots := 0, locals := 64 } : Room)).room s m ([.ref (qa 11), .ref (qa 16), .int a2, .int a3, .int a4] : List Value).toArray below meth c H locs 0 0 (MQ below (wq_Qi r0 wq_tr A) ([.ref (qa 11), .ref (qa 16), .int a2, .int a3, .int a4] : List Value).toArray s 0 0 A) (F0 m 16 ls []) := by
    intro  n
    induction n with
    | zero =>
      intro x5 x6 x7 x8 H locs ls hG
      exact absurd (show (none : Option (Int32)) = some r0 from hG) (by intro h9; cases h9)
    | succ n ih16 =>
      intro x5 x6 x7 x8 H locs ls hG hP hS hl
      rw [gX1_morningAt_L16] at hG
      refine lv_iload hx hb dX1_morningAt_16 (lv_at hl 6 rfl) ?_
      refine lv_iload hx hb dX1_morningAt_18 (lv_at hl 2 rfl) ?_
      refine lv_icmp_ge (tgt := 69) hx hb dX1_morningAt_20 (by decide) (fun c1 => ?_) (fun c1 => ?_)
      · replace hG := wq_t c1 hG
        refine lv_iload hx hb dX1_morningAt_69 (lv_at hl 3 rfl) ?_
        obtain ⟨v3, g2, hG⟩ := wq_b1_s hG
        refine wq_ci (v := v3) (B := wq_Z1) (va_runS (As := [.int x5]) (rest := []) ⟨hx, hb, hml, hown, hts⟩ (C_X1_isPlace l dC dI cI cJ cZ qa H.size  x5 v3 g2) (va_cwS 1 hts gX1_morningAt_X1_isPlace rfl rfl rfl hdS_X1_isPlace ⟨Nat.le_of_ble_eq_true rfl, Nat.le_of_ble_eq_true rfl⟩) (wq_ppS hK (hP.sub (ws' := []) [] rfl) hE hS hA) rfl rfl hl.1 rfl (lv_room (Nat.le_of_ble_eq_true rfl)) dX1_morningAt_71 ⟨Nat.zero_le _, Nat.zero_le _⟩) hS hA (fun H locs b4 hk hS => ?_)
        replace hP := wq_kp hP hk
        clear hk
        refine lv_if_ne (tgt := 80) hx hb dX1_morningAt_74 (by decide) (fun c5 => ?_) (fun c5 => ?_)
        · replace hG := wq_f c5 hG
          refine lv_bipush (v := 100) hx hb dX1_morningAt_80 (by decide) ?_
          refine lv_aload_n hx hb dX1_morningAt_82 rfl (lv_at hl 0 rfl) ?_
          refine va_get (D := (dC, dI)) (ci := 1) (v := .ref (qa 14)) (C := RX1) (T := TX1) (N := 4) hx hb hts hinX1 hown hK hP 0 rfl rfl 2 (by decide) k1 (fun _ h9 => h9) rfl dX1_morningAt_83 ?_
          refine lv_iload hx hb dX1_morningAt_86 (lv_at hl 3 rfl) ?_
          obtain ⟨h6, hG⟩ := wq_chk_s hG
          refine wq_iald (D := (dC, dI)) hx hb hK hP 3 0 rfl rfl h6 (Int32.toNatClampNeg x5) rfl dX1_morningAt_88 ?_
          refine lv_imul hx hb dX1_morningAt_89 ?_
          refine lv_aload_n hx hb dX1_morningAt_90 rfl (lv_at hl 0 rfl) ?_
          refine va_get (D := (dC, dI)) (ci := 1) (v := .ref (qa 12)) (C := RX1) (T := TX1) (N := 4) hx hb hts hinX1 hown hK hP 0 rfl rfl 0 (by decide) k2 (fun _ h9 => h9) rfl dX1_morningAt_91 ?_
          refine lv_iload hx hb dX1_morningAt_94 (lv_at hl 3 rfl) ?_
          refine wq_iald (D := (dC, dI)) hx hb hK hP 1 0 rfl rfl h6 (Int32.toNatClampNeg x5) rfl dX1_morningAt_96 ?_
          refine lv_iconst (v := 1) hx hb dX1_morningAt_97 (by decide) ?_
          refine lv_icmp_ne (tgt := 109) hx hb dX1_morningAt_98 (by decide) (fun c7 => ?_) (fun c7 => ?_)
          · replace hG := wq_f c7 hG
            refine lv_iconst (v := 1) hx hb dX1_morningAt_109 (by decide) ?_
            refine lv_iadd hx hb dX1_morningAt_110 ?_
            exact W.iret (v := ((100 * (o_first (Int32.toNatClampNeg x5))) + 1)) hx hb hr (fun t ht hW => ⟨⟨((100 * (o_first (Int32.toNatClampNeg x5))) + 1), (), rfl, ⟨Option.some.inj hG, trivial⟩, trivial⟩, hS.F ht⟩) hS.2.2 dX1_morningAt_111
          · replace hG := wq_t c7 hG
            refine lv_aload_n hx hb dX1_morningAt_101 rfl (lv_at hl 1 rfl) ?_
            refine lv_iconst (v := 3) hx hb dX1_morningAt_102 (by decide) ?_
            obtain ⟨v9, g8, hG⟩ := wq_b1_s hG
            refine wq_ci (v := v9) (B := wq_tr) (va_runV (As := [.int 3]) (rest := [.int (100 * (o_first (Int32.toNatClampNeg x5)))]) ⟨hx, hb, hml, hown, hts⟩ (C_X5_setting l dC dI cI cJ cZ qa H.size t_tears t_gains t_likings t_settings t_goodbyes t_women 3 v9 g8) (cwV 1 hts gX1_morningAt_X5_setting rfl rfl rfl hdV_X5_setting ⟨Nat.le_of_ble_eq_true rfl, Nat.le_of_ble_eq_true rfl⟩) (wq_ppV hK (hP.sub (ws' := wcT qa cI cJ cZ t_tears t_gains t_likings t_settings t_goodbyes t_women) [4, 5, 6, 7, 8] rfl) hE hS hA (ci := 5) (q0 := 0) rfl rfl) rfl rfl hl.1 rfl (lv_room (Nat.le_of_ble_eq_true rfl)) dX1_morningAt_103 ⟨Nat.zero_le _, Nat.zero_le _⟩) hS hA (fun H locs b10 hk hS => ?_)
            replace hP := wq_kp hP hk
            clear hk
            refine lv_goto (tgt := 110) hx hb dX1_morningAt_106 (by decide) ?_
            refine lv_iadd hx hb dX1_morningAt_110 ?_
            exact W.iret (v := ((100 * (o_first (Int32.toNatClampNeg x5))) + v9)) hx hb hr (fun t ht hW => ⟨⟨((100 * (o_first (Int32.toNatClampNeg x5))) + v9), (), rfl, ⟨Option.some.inj hG, trivial⟩, trivial⟩, hS.F ht⟩) hS.2.2 dX1_morningAt_111
        · replace hG := wq_t c5 hG
          refine lv_bipush (v := (-5)) hx hb dX1_morningAt_77 (by decide) ?_
          exact W.iret (v := (-5)) hx hb hr (fun t ht hW => ⟨⟨(-5), (), rfl, ⟨Option.some.inj hG, trivial⟩, trivial⟩, hS.F ht⟩) hS.2.2 dX1_morningAt_79
      · replace hG := wq_f c1 hG
        refine lv_iload hx hb dX1_morningAt_23 (lv_at hl 3 rfl) ?_
        obtain ⟨v12, g11, hG⟩ := wq_b1_s hG
        refine wq_ci (v := v12) (B := wq_Z1) (va_runS (As := [.int x5]) (rest := []) ⟨hx, hb, hml, hown, hts⟩ (C_X1_isPlace l dC dI cI cJ cZ qa H.size  x5 v12 g11) (va_cwS 1 hts gX1_morningAt_X1_isPlace rfl rfl rfl hdS_X1_isPlace ⟨Nat.le_of_ble_eq_true rfl, Nat.le_of_ble_eq_true rfl⟩) (wq_ppS hK (hP.sub (ws' := []) [] rfl) hE hS hA) rfl rfl hl.1 rfl (lv_room (Nat.le_of_ble_eq_true rfl)) dX1_morningAt_25 ⟨Nat.zero_le _, Nat.zero_le _⟩) hS hA (fun H locs b13 hk hS => ?_)
        replace hP := wq_kp hP hk
        clear hk
        refine lv_if_eq (tgt := 69) hx hb dX1_morningAt_28 (by decide) (fun c14 => ?_) (fun c14 => ?_)
        · replace hG := wq_t c14 hG
          refine lv_iload hx hb dX1_morningAt_69 (lv_at hl 3 rfl) ?_
          obtain ⟨v16, g15, hG⟩ := wq_b1_s hG
          refine wq_ci (v := v16) (B := wq_Z1) (va_runS (As := [.int x5]) (rest := []) ⟨hx, hb, hml, hown, hts⟩ (C_X1_isPlace l dC dI cI cJ cZ qa H.size  x5 v16 g15) (va_cwS 1 hts gX1_morningAt_X1_isPlace rfl rfl rfl hdS_X1_isPlace ⟨Nat.le_of_ble_eq_true rfl, Nat.le_of_ble_eq_true rfl⟩) (wq_ppS hK (hP.sub (ws' := []) [] rfl) hE hS hA) rfl rfl hl.1 rfl (lv_room (Nat.le_of_ble_eq_true rfl)) dX1_morningAt_71 ⟨Nat.zero_le _, Nat.zero_le _⟩) hS hA (fun H locs b17 hk hS => ?_)
          replace hP := wq_kp hP hk
          clear hk
          refine lv_if_ne (tgt := 80) hx hb dX1_morningAt_74 (by decide) (fun c18 => ?_) (fun c18 => ?_)
          · replace hG := wq_f c18 hG
            refine lv_bipush (v := 100) hx hb dX1_morningAt_80 (by decide) ?_
            refine lv_aload_n hx hb dX1_morningAt_82 rfl (lv_at hl 0 rfl) ?_
            refine va_get (D := (dC, dI)) (ci := 1) (v := .ref (qa 14)) (C := RX1) (T := TX1) (N := 4) hx hb hts hinX1 hown hK hP 0 rfl rfl 2 (by decide) k1 (fun _ h9 => h9) rfl dX1_morningAt_83 ?_
            refine lv_iload hx hb dX1_morningAt_86 (lv_at hl 3 rfl) ?_
            obtain ⟨h19, hG⟩ := wq_chk_s hG
            refine wq_iald (D := (dC, dI)) hx hb hK hP 3 0 rfl rfl h19 (Int32.toNatClampNeg x5) rfl dX1_morningAt_88 ?_
            refine lv_imul hx hb dX1_morningAt_89 ?_
            refine lv_aload_n hx hb dX1_morningAt_90 rfl (lv_at hl 0 rfl) ?_
            refine va_get (D := (dC, dI)) (ci := 1) (v := .ref (qa 12)) (C := RX1) (T := TX1) (N := 4) hx hb hts hinX1 hown hK hP 0 rfl rfl 0 (by decide) k2 (fun _ h9 => h9) rfl dX1_morningAt_91 ?_
            refine lv_iload hx hb dX1_morningAt_94 (lv_at hl 3 rfl) ?_
            refine wq_iald (D := (dC, dI)) hx hb hK hP 1 0 rfl rfl h19 (Int32.toNatClampNeg x5) rfl dX1_morningAt_96 ?_
            refine lv_iconst (v := 1) hx hb dX1_morningAt_97 (by decide) ?_
            refine lv_icmp_ne (tgt := 109) hx hb dX1_morningAt_98 (by decide) (fun c20 => ?_) (fun c20 => ?_)
            · replace hG := wq_f c20 hG
              refine lv_iconst (v := 1) hx hb dX1_morningAt_109 (by decide) ?_
              refine lv_iadd hx hb dX1_morningAt_110 ?_
              exact W.iret (v := ((100 * (o_first (Int32.toNatClampNeg x5))) + 1)) hx hb hr (fun t ht hW => ⟨⟨((100 * (o_first (Int32.toNatClampNeg x5))) + 1), (), rfl, ⟨Option.some.inj hG, trivial⟩, trivial⟩, hS.F ht⟩) hS.2.2 dX1_morningAt_111
            · replace hG := wq_t c20 hG
              refine lv_aload_n hx hb dX1_morningAt_101 rfl (lv_at hl 1 rfl) ?_
              refine lv_iconst (v := 3) hx hb dX1_morningAt_102 (by decide) ?_
              obtain ⟨v22, g21, hG⟩ := wq_b1_s hG
              refine wq_ci (v := v22) (B := wq_tr) (va_runV (As := [.int 3]) (rest := [.int (100 * (o_first (Int32.toNatClampNeg x5)))]) ⟨hx, hb, hml, hown, hts⟩ (C_X5_setting l dC dI cI cJ cZ qa H.size t_tears t_gains t_likings t_settings t_goodbyes t_women 3 v22 g21) (cwV 1 hts gX1_morningAt_X5_setting rfl rfl rfl hdV_X5_setting ⟨Nat.le_of_ble_eq_true rfl, Nat.le_of_ble_eq_true rfl⟩) (wq_ppV hK (hP.sub (ws' := wcT qa cI cJ cZ t_tears t_gains t_likings t_settings t_goodbyes t_women) [4, 5, 6, 7, 8] rfl) hE hS hA (ci := 5) (q0 := 0) rfl rfl) rfl rfl hl.1 rfl (lv_room (Nat.le_of_ble_eq_true rfl)) dX1_morningAt_103 ⟨Nat.zero_le _, Nat.zero_le _⟩) hS hA (fun H locs b23 hk hS => ?_)
              replace hP := wq_kp hP hk
              clear hk
              refine lv_goto (tgt := 110) hx hb dX1_morningAt_106 (by decide) ?_
              refine lv_iadd hx hb dX1_morningAt_110 ?_
              exact W.iret (v := ((100 * (o_first (Int32.toNatClampNeg x5))) + v22)) hx hb hr (fun t ht hW => ⟨⟨((100 * (o_first (Int32.toNatClampNeg x5))) + v22), (), rfl, ⟨Option.some.inj hG, trivial⟩, trivial⟩, hS.F ht⟩) hS.2.2 dX1_morningAt_111
          · replace hG := wq_t c18 hG
            refine lv_bipush (v := (-5)) hx hb dX1_morningAt_77 (by decide) ?_
            exact W.iret (v := (-5)) hx hb hr (fun t ht hW => ⟨⟨(-5), (), rfl, ⟨Option.some.inj hG, trivial⟩, trivial⟩, hS.F ht⟩) hS.2.2 dX1_morningAt_79
        · replace hG := wq_f c14 hG
          refine lv_aload_n hx hb dX1_morningAt_31 rfl (lv_at hl 1 rfl) ?_
          refine lv_aload_n hx hb dX1_morningAt_32 rfl (lv_at hl 0 rfl) ?_
          refine va_get (D := (dC, dI)) (ci := 1) (v := .ref (qa 14)) (C := RX1) (T := TX1) (N := 4) hx hb hts hinX1 hown hK hP 0 rfl rfl 2 (by decide) k1 (fun _ h9 => h9) rfl dX1_morningAt_33 ?_
          refine lv_iload hx hb dX1_morningAt_36 (lv_at hl 3 rfl) ?_
          obtain ⟨h24, hG⟩ := wq_chk_s hG
          refine wq_iald (D := (dC, dI)) hx hb hK hP 3 0 rfl rfl h24 (Int32.toNatClampNeg x5) rfl dX1_morningAt_38 ?_
          refine lv_iload hx hb dX1_morningAt_39 (lv_at hl 4 rfl) ?_
          obtain ⟨v26, g25, hG⟩ := wq_b1_s hG
          refine wq_ci (v := v26) (B := wq_tr) (va_runV (As := [.int (o_first (Int32.toNatClampNeg x5)), .int x6]) (rest := []) ⟨hx, hb, hml, hown, hts⟩ (C_X5_calmerTrust l dC dI cI cJ cZ qa H.size t_tears t_gains t_likings t_settings t_goodbyes t_women (o_first (Int32.toNatClampNeg x5)) x6 v26 g25) (cwV 2 hts gX1_morningAt_X5_calmerTrust rfl rfl rfl hdV_X5_calmerTrust ⟨Nat.le_of_ble_eq_true rfl, Nat.le_of_ble_eq_true rfl⟩) (wq_ppV hK (hP.sub (ws' := wcT qa cI cJ cZ t_tears t_gains t_likings t_settings t_goodbyes t_women) [4, 5, 6, 7, 8] rfl) hE hS hA (ci := 5) (q0 := 0) rfl rfl) rfl rfl hl.1 rfl (lv_room (Nat.le_of_ble_eq_true rfl)) dX1_morningAt_41 ⟨Nat.zero_le _, Nat.zero_le _⟩) hS hA (fun H locs b27 hk hS => ?_)
          replace hP := wq_kp hP hk
          clear hk
          refine lv_istore (lv' := [(6, .int v26), (0, .ref (qa 11)), (1, .ref (qa 16)), (4, .int a4), (5, .int x5), (7, .int x7), (8, .int x8)]) hx hb dX1_morningAt_44 hl (by decide) rfl (fun ls hl => ?_)
          refine lv_aload_n hx hb dX1_morningAt_46 rfl (lv_at hl 2 rfl) ?_
          refine lv_iload hx hb dX1_morningAt_47 (lv_at hl 5 rfl) ?_
          obtain ⟨v29, g28, hG⟩ := wq_b1_s hG
          refine wq_ci (v := v29) (B := wq_tr) (va_runV (As := [.int x7]) (rest := []) ⟨hx, hb, hml, hown, hts⟩ (C_X5_calmerLiking l dC dI cI cJ cZ qa H.size t_tears t_gains t_likings t_settings t_goodbyes t_women x7 v29 g28) (cwV 1 hts gX1_morningAt_X5_calmerLiking rfl rfl rfl hdV_X5_calmerLiking ⟨Nat.le_of_ble_eq_true rfl, Nat.le_of_ble_eq_true rfl⟩) (wq_ppV hK (hP.sub (ws' := wcT qa cI cJ cZ t_tears t_gains t_likings t_settings t_goodbyes t_women) [4, 5, 6, 7, 8] rfl) hE hS hA (ci := 5) (q0 := 0) rfl rfl) rfl rfl hl.1 rfl (lv_room (Nat.le_of_ble_eq_true rfl)) dX1_morningAt_49 ⟨Nat.zero_le _, Nat.zero_le _⟩) hS hA (fun H locs b30 hk hS => ?_)
          replace hP := wq_kp hP hk
          clear hk
          refine lv_istore (lv' := [(7, .int v29), (6, .int v26), (0, .ref (qa 11)), (1, .ref (qa 16)), (4, .int a4), (5, .int x5), (8, .int x8)]) hx hb dX1_morningAt_52 hl (by decide) rfl (fun ls hl => ?_)
          refine lv_iload hx hb dX1_morningAt_54 (lv_at hl 1 rfl) ?_
          refine lv_iload hx hb dX1_morningAt_56 (lv_at hl 0 rfl) ?_
          obtain ⟨v32, g31, hG⟩ := wq_b1_s hG
          refine wq_ci (v := v32) (B := wq_tr) (va_runS (As := [.int v26, .int v29]) (rest := []) ⟨hx, hb, hml, hown, hts⟩ (C_X1_placeOf l dC dI cI cJ cZ qa H.size  v26 v29 v32 g31) (va_cwS 2 hts gX1_morningAt_X1_placeOf rfl rfl rfl hdS_X1_placeOf ⟨Nat.le_of_ble_eq_true rfl, Nat.le_of_ble_eq_true rfl⟩) (wq_ppS hK (hP.sub (ws' := []) [] rfl) hE hS hA) rfl rfl hl.1 rfl (lv_room (Nat.le_of_ble_eq_true rfl)) dX1_morningAt_58 ⟨Nat.zero_le _, Nat.zero_le _⟩) hS hA (fun H locs b33 hk hS => ?_)
          replace hP := wq_kp hP hk
          clear hk
          refine lv_istore (lv' := [(5, .int v32), (7, .int v29), (6, .int v26), (0, .ref (qa 11)), (1, .ref (qa 16)), (4, .int a4), (8, .int x8)]) hx hb dX1_morningAt_61 hl (by decide) rfl (fun ls hl => ?_)
          refine lv_iinc (v := (x8 + 1)) (lv' := [(8, .int (x8 + 1)), (5, .int v32), (7, .int v29), (6, .int v26), (0, .ref (qa 11)), (1, .ref (qa 16)), (4, .int a4)]) hx hb dX1_morningAt_63 hl (k := 6) rfl rfl (by decide) rfl (fun ls hl => ?_)
          refine lv_goto (tgt := 16) hx hb dX1_morningAt_66 (by decide) ?_
          exact ih16 v32 v26 v29 (x8 + 1) _ _ _ hG hP hS (lv_sub hl [4, 5, 6, 1, 3, 2, 0] rfl)
  unfold gX1_morningAt at hG
  refine lv_iload_n hx hb dX1_morningAt_0 rfl (lv_at hl 2 rfl) ?_
  refine lv_iload_n hx hb dX1_morningAt_1 rfl (lv_at hl 3 rfl) ?_
  obtain ⟨v35, g34, hG⟩ := wq_b1_s hG
  refine wq_ci (v := v35) (B := wq_tr) (va_runS (As := [.int a2, .int a3]) (rest := []) ⟨hx, hb, hml, hown, hts⟩ (C_X1_placeOf l dC dI cI cJ cZ qa s.heap.size  a2 a3 v35 g34) (va_cwS 2 hts gX1_morningAt_X1_placeOf rfl rfl rfl hdS_X1_placeOf ⟨Nat.le_of_ble_eq_true rfl, Nat.le_of_ble_eq_true rfl⟩) (wq_ppS hK (hP.sub (ws' := []) [] rfl) hE hS hA) rfl rfl hl.1 rfl (lv_room (Nat.le_of_ble_eq_true rfl)) dX1_morningAt_2 ⟨Nat.zero_le _, Nat.zero_le _⟩) hS hA (fun H locs b36 hk hS => ?_)
  replace hP := wq_kp hP hk
  clear hk
  refine lv_istore (lv' := [(5, .int v35), (0, .ref (qa 11)), (1, .ref (qa 16)), (2, .int a2), (3, .int a3), (4, .int a4)]) hx hb dX1_morningAt_5 hl (by decide) rfl (fun ls hl => ?_)
  refine lv_iload_n hx hb dX1_morningAt_7 rfl (lv_at hl 3 rfl) ?_
  refine lv_istore (lv' := [(6, .int a2), (5, .int v35), (0, .ref (qa 11)), (1, .ref (qa 16)), (2, .int a2), (3, .int a3), (4, .int a4)]) hx hb dX1_morningAt_8 hl (by decide) rfl (fun ls hl => ?_)
  refine lv_iload_n hx hb dX1_morningAt_10 rfl (lv_at hl 5 rfl) ?_
  refine lv_istore (lv' := [(7, .int a3), (6, .int a2), (5, .int v35), (0, .ref (qa 11)), (1, .ref (qa 16)), (2, .int a2), (3, .int a3), (4, .int a4)]) hx hb dX1_morningAt_11 hl (by decide) rfl (fun ls hl => ?_)
  refine lv_iconst (v := 0) hx hb dX1_morningAt_13 (by decide) ?_
  refine lv_istore (lv' := [(8, .int 0), (7, .int a3), (6, .int a2), (5, .int v35), (0, .ref (qa 11)), (1, .ref (qa 16)), (2, .int a2), (3, .int a3), (4, .int a4)]) hx hb dX1_morningAt_14 hl (by decide) rfl (fun ls hl => ?_)
  exact hL16  1000 v35 a2 a3 0 _ _ _ hG hP hS (lv_sub hl [4, 5, 8, 3, 2, 1, 0] rfl)

