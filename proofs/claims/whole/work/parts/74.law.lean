section LW
variable {p : Program} {e : Env} {s : State} {m : MethodId} {below : List Frame} {meth : Method} {c : Code} {Q : State → Prop}
set_option maxHeartbeats 4000000 in
set_option maxRecDepth 100000 in
theorem law_falls (l : Launch) {b L : Nat} {xs : Nat → Int32} (hx : p.tables.exec = Jvm.exec) (hb : c.code = code) (hml : c.maxLocals = 4) (hown : s.vm.findClass RL = some m.cls) (htL : ∀ w ∈ wsL_law, w.before #[Value.ref b] s = true) (hX : va_X b L xs s s.heap) (hbl : b < s.heap.size) {dC : Nat → ClassId} {dI : Nat → Nat → Nat} {cI cJ cZ : ClassId} (hK : va_K (dC, dI) vwCl [(cI, .int), (cJ, .long), (cZ, .boolean)] s) (hE : wq_E (fun q : Nat => s.heap.size ≤ q) s) {x0 m0 : Nat} {H : Heap} {locs : List Loc} {ls : Array Slot} (hI : LI (dC, dI) cI cJ cZ (fun q : Nat => s.heap.size ≤ q) x0 m0 H) (hS : va_S (fun q : Nat => s.heap.size ≤ q) s.heap H locs) {i : Nat} (hi : i + 8 ≤ L) (hL : L ≤ 512) (hl : lv_has ls 4 [(0, .ref b), (1, .ref x0), (2, .ref m0), (3, .int (nI i))]) (kk : ∀ (H1 : Heap) (locs1 : List Loc), LI (dC, dI) cI cJ cZ (fun q : Nat => s.heap.size ≤ q) x0 m0 H1 → va_S (fun q : Nat => s.heap.size ≤ q) s.heap H1 locs1 → W p l e room_1 s m #[Value.ref b] below meth c H1 locs1 38 1808 Q (F0 m 861 ls [])) : W p l e room_1 s m #[Value.ref b] below meth c H locs 38 1808 Q (F0 m 348 ls []) := by
  have hA : ∀ q : Nat, s.heap.size ≤ q → (fun q : Nat => s.heap.size ≤ q) q := fun _ h => h
  have hbA : ¬ (fun q : Nat => s.heap.size ≤ q) b := Nat.not_le.mpr hbl
  obtain ⟨qa, qb, r_images, r_asked, x_letters, x_size, x_place, x_fault, x_stold, n_likings, n_day, n_trust, n_ill, n_done, p_befores, p_known, h_tll, h_beyond, h_minutes, h_size, o_fewest, o_rows, o_first, o_stands, t_tears, t_gains, t_likings, t_settings, t_goodbyes, t_women, d_tears, d_gains, d_likings, d_settings, d_goodbyes, d_women, m_text, m_typed, m_told, m_draft, m_s, m_past, m_known, m_images, m_kept, m_notes, m_noted, m_at, m_sort, m_start, m_value, m_steps, m_rows, m_held, ⟨e1, e2⟩, hP, hD, rX, rT, rN, rP, rS, rI, rO⟩ := hI
  subst e1
  subst e2
  obtain ⟨r, il2, b2, k2, s2, past2, kn2, g1, g2, nRN, nRP⟩ := P_falls rT rN rP (xs (Int32.toNatClampNeg (nI i + 1))) (xs (Int32.toNatClampNeg (nI i + 2)))
  refine lv_aload_n hx hb dL_law_348 rfl (lv_at hl 1 rfl) ?_
  refine lv_aload_n hx hb dL_law_349 rfl (lv_at hl 0 rfl) ?_
  refine lv_iload_n hx hb dL_law_350 rfl (lv_at hl 3 rfl) ?_
  refine lv_iconst (v := 1) hx hb dL_law_351 (by decide) ?_
  refine lv_iadd hx hb dL_law_352 ?_
  refine va_sld hx hb hX hbl hbA hS (wl_in (j := 1) hi hL ⟨rfl, by decide⟩) dL_law_353 ?_
  refine lv_aload_n hx hb dL_law_354 rfl (lv_at hl 0 rfl) ?_
  refine lv_iload_n hx hb dL_law_355 rfl (lv_at hl 3 rfl) ?_
  refine lv_iconst (v := 2) hx hb dL_law_356 (by decide) ?_
  refine lv_iadd hx hb dL_law_357 ?_
  refine va_sld hx hb hX hbl hbA hS (wl_in (j := 2) hi hL ⟨rfl, by decide⟩) dL_law_358 ?_
  have hFc := va_free (wc := wcRNPT qa cI cJ cZ r_images r_asked n_likings n_day n_trust n_ill n_done p_befores p_known t_tears t_gains t_likings t_settings t_goodbyes t_women) hD hS hA [0, 1, 4, 5, 6, 7, 16, 17, 18, 19, 20] rfl
  refine wq_di (D := (dC, dI)) (v := r) (B := wq_tr) (wr := wcX qa cI cJ cZ x_letters x_size x_place x_fault x_stold ++ (wcS qa cI cJ cZ h_tll h_beyond h_minutes h_size ++ (wcO qa cI cJ cZ o_fewest o_rows o_first o_stands ++ (wcD qa cI cJ cZ d_tears d_gains d_likings d_settings d_goodbyes d_women ++ (wcM qb cI cJ cZ r_asked m_text m_typed m_told m_draft m_s m_past m_known m_images m_kept m_notes m_noted m_at m_sort m_start m_value m_steps m_rows m_held))))) (w1 := wcRNPT qa cI cJ cZ r_images r_asked n_likings n_day n_trust il2 n_done b2 k2 t_tears t_gains t_likings t_settings t_goodbyes t_women) (w2 := wcRXNPSOTD qa cI cJ cZ r_images r_asked x_letters x_size x_place x_fault x_stold n_likings n_day n_trust il2 n_done b2 k2 h_tll h_beyond h_minutes h_size o_fewest o_rows o_first o_stands t_tears t_gains t_likings t_settings t_goodbyes t_women d_tears d_gains d_likings d_settings d_goodbyes d_women ++ wcM qb cI cJ cZ r_asked m_text m_typed m_told m_draft m_s m_past m_known m_images m_kept m_notes m_noted m_at m_sort m_start m_value m_steps m_rows m_held) (va_runV (As := [.int (xs (Int32.toNatClampNeg (nI i + 1))), .int (xs (Int32.toNatClampNeg (nI i + 2)))]) (rest := []) ⟨hx, hb, hml, hown, htL⟩ (C_X6_falls l dC dI cI cJ cZ qa H.size r_images r_asked n_likings n_day n_trust n_ill n_done p_befores p_known t_tears t_gains t_likings t_settings t_goodbyes t_women (xs (Int32.toNatClampNeg (nI i + 1))) (xs (Int32.toNatClampNeg (nI i + 2))) r il2 b2 k2 g1) (cwV 2 htL gL_law_X6_falls rfl rfl rfl hdV_X6_falls ⟨Nat.le_of_ble_eq_true rfl, Nat.le_of_ble_eq_true rfl⟩) (wq_pwV hK (hP.sub (ws' := wcRNPT qa cI cJ cZ r_images r_asked n_likings n_day n_trust n_ill n_done p_befores p_known t_tears t_gains t_likings t_settings t_goodbyes t_women) [0, 1, 4, 5, 6, 7, 16, 17, 18, 19, 20] rfl) (hD.sub (ws' := wcRNPT qa cI cJ cZ r_images r_asked n_likings n_day n_trust n_ill n_done p_befores p_known t_tears t_gains t_likings t_settings t_goodbyes t_women) [0, 1, 4, 5, 6, 7, 16, 17, 18, 19, 20] (by decide) rfl) hE hS hFc (ci := 6) (q0 := 0) rfl rfl) rfl rfl hl.1 rfl (lv_room (Nat.le_of_ble_eq_true rfl)) dL_law_359 ⟨Nat.le_of_ble_eq_true rfl, Nat.le_of_ble_eq_true rfl⟩) hP hD hS hFc [0, 1, 4, 5, 6, 7, 16, 17, 18, 19, 20] [2, 3, 8, 9, 10, 11, 12, 13, 14, 15, 21, 22, 23, 24, 25, 26, 27, 28, 29, 30, 31, 32, 33, 34, 35, 36, 37] [27, 28, 0, 1, 29, 30, 31, 32, 2, 3, 4, 5, 6, 7, 8, 9, 33, 34, 35, 36, 37, 10, 11, 12, 13, 14, 15, 16, 17, 18, 19, 20, 21, 22, 23, 24, 25, 26] rfl rfl (by decide) (by decide) (by decide) rfl (fun H1 locs1 _ hP hD hS => ?_)
  clear hFc
  generalize H1 = H, locs1 = locs at hP hS ⊢
  refine lv_aload_n hx hb dL_law_362 rfl (lv_at hl 2 rfl) ?_
  refine lv_aload_n hx hb dL_law_363 rfl (lv_at hl 0 rfl) ?_
  refine lv_iload_n hx hb dL_law_364 rfl (lv_at hl 3 rfl) ?_
  refine lv_iconst (v := 1) hx hb dL_law_365 (by decide) ?_
  refine lv_iadd hx hb dL_law_366 ?_
  refine va_sld hx hb hX hbl hbA hS (wl_in (j := 1) hi hL ⟨rfl, by decide⟩) dL_law_367 ?_
  refine lv_aload_n hx hb dL_law_368 rfl (lv_at hl 0 rfl) ?_
  refine lv_iload_n hx hb dL_law_369 rfl (lv_at hl 3 rfl) ?_
  refine lv_iconst (v := 2) hx hb dL_law_370 (by decide) ?_
  refine lv_iadd hx hb dL_law_371 ?_
  refine va_sld hx hb hX hbl hbA hS (wl_in (j := 2) hi hL ⟨rfl, by decide⟩) dL_law_372 ?_
  have hFc := va_free (wc := wcM qb cI cJ cZ r_asked m_text m_typed m_told m_draft m_s m_past m_known m_images m_kept m_notes m_noted m_at m_sort m_start m_value m_steps m_rows m_held) hD hS hA [26, 27, 28, 29, 30, 31, 32, 33, 34, 35, 36, 37] rfl
  refine wq_di (D := (dC, dI)) (v := r) (B := wq_tr) (wr := wcR qa cI cJ cZ r_images r_asked ++ (wcX qa cI cJ cZ x_letters x_size x_place x_fault x_stold ++ (wcN qa cI cJ cZ n_likings n_day n_trust il2 n_done ++ (wcP qa cI cJ cZ b2 k2 ++ (wcS qa cI cJ cZ h_tll h_beyond h_minutes h_size ++ (wcO qa cI cJ cZ o_fewest o_rows o_first o_stands ++ (wcT qa cI cJ cZ t_tears t_gains t_likings t_settings t_goodbyes t_women ++ (wcD qa cI cJ cZ d_tears d_gains d_likings d_settings d_goodbyes d_women)))))))) (w1 := wcM qb cI cJ cZ r_asked m_text m_typed m_told m_draft s2 past2 kn2 m_images m_kept m_notes m_noted m_at m_sort m_start m_value m_steps m_rows m_held) (w2 := wcRXNPSOTD qa cI cJ cZ r_images r_asked x_letters x_size x_place x_fault x_stold n_likings n_day n_trust il2 n_done b2 k2 h_tll h_beyond h_minutes h_size o_fewest o_rows o_first o_stands t_tears t_gains t_likings t_settings t_goodbyes t_women d_tears d_gains d_likings d_settings d_goodbyes d_women ++ wcM qb cI cJ cZ r_asked m_text m_typed m_told m_draft s2 past2 kn2 m_images m_kept m_notes m_noted m_at m_sort m_start m_value m_steps m_rows m_held) (va_runV (As := [.int (xs (Int32.toNatClampNeg (nI i + 1))), .int (xs (Int32.toNatClampNeg (nI i + 2)))]) (rest := [.int r]) ⟨hx, hb, hml, hown, htL⟩ (C_X7_falls l dC dI cI cJ cZ qb H.size r_asked m_text m_typed m_told m_draft m_s m_past m_known m_images m_kept m_notes m_noted m_at m_sort m_start m_value m_steps m_rows m_held (xs (Int32.toNatClampNeg (nI i + 1))) (xs (Int32.toNatClampNeg (nI i + 2))) r s2 past2 kn2 g2) (cwV 2 htL gL_law_X7_falls rfl rfl rfl hdV_X7_falls ⟨Nat.le_of_ble_eq_true rfl, Nat.le_of_ble_eq_true rfl⟩) (wq_pwV hK (hP.sub (ws' := wcM qb cI cJ cZ r_asked m_text m_typed m_told m_draft m_s m_past m_known m_images m_kept m_notes m_noted m_at m_sort m_start m_value m_steps m_rows m_held) [26, 27, 28, 29, 30, 31, 32, 33, 34, 35, 36, 37] rfl) (hD.sub (ws' := wcM qb cI cJ cZ r_asked m_text m_typed m_told m_draft m_s m_past m_known m_images m_kept m_notes m_noted m_at m_sort m_start m_value m_steps m_rows m_held) [26, 27, 28, 29, 30, 31, 32, 33, 34, 35, 36, 37] (by decide) rfl) hE hS hFc (ci := 7) (q0 := 0) rfl rfl) rfl rfl hl.1 rfl (lv_room (Nat.le_of_ble_eq_true rfl)) dL_law_373 ⟨Nat.le_of_ble_eq_true rfl, Nat.le_of_ble_eq_true rfl⟩) hP hD hS hFc [26, 27, 28, 29, 30, 31, 32, 33, 34, 35, 36, 37] [0, 1, 2, 3, 4, 5, 6, 7, 8, 9, 10, 11, 12, 13, 14, 15, 16, 17, 18, 19, 20, 21, 22, 23, 24, 25] [0, 1, 2, 3, 4, 5, 6, 7, 8, 9, 10, 11, 12, 13, 14, 15, 16, 17, 18, 19, 20, 21, 22, 23, 24, 25, 26, 27, 28, 29, 30, 31, 32, 33, 34, 35, 36, 37] rfl rfl (by decide) (by decide) (by decide) rfl (fun H1 locs1 _ hP hD hS => ?_)
  clear hFc
  generalize H1 = H, locs1 = locs at hP hS ⊢
  refine lv_icmp_eq (tgt := 861) hx hb dL_law_376 (by decide) (fun _ => ?_) (fun z => absurd rfl z)
  exact kk H locs ⟨qa, qb, _, _, _, _, _, _, _, _, _, _, _, _, _, _, _, _, _, _, _, _, _, _, _, _, _, _, _, _, _, _, _, _, _, _, _, _, _, _, _, _, _, _, _, _, _, _, _, _, _, _, _, _, ⟨rfl, rfl⟩, hP, hD, rX, rT, nRN, nRP, rS, rI, rO⟩ hS
set_option maxHeartbeats 4000000 in
set_option maxRecDepth 100000 in
theorem law_undo (l : Launch) {b L : Nat} {xs : Nat → Int32} (hx : p.tables.exec = Jvm.exec) (hb : c.code = code) (hml : c.maxLocals = 4) (hown : s.vm.findClass RL = some m.cls) (htL : ∀ w ∈ wsL_law, w.before #[Value.ref b] s = true) (hX : va_X b L xs s s.heap) (hbl : b < s.heap.size) {dC : Nat → ClassId} {dI : Nat → Nat → Nat} {cI cJ cZ : ClassId} (hK : va_K (dC, dI) vwCl [(cI, .int), (cJ, .long), (cZ, .boolean)] s) (hE : wq_E (fun q : Nat => s.heap.size ≤ q) s) {x0 m0 : Nat} {H : Heap} {locs : List Loc} {ls : Array Slot} (hI : LI (dC, dI) cI cJ cZ (fun q : Nat => s.heap.size ≤ q) x0 m0 H) (hS : va_S (fun q : Nat => s.heap.size ≤ q) s.heap H locs) {i : Nat} (hi : i + 8 ≤ L) (hL : L ≤ 512) (hl : lv_has ls 4 [(0, .ref b), (1, .ref x0), (2, .ref m0), (3, .int (nI i))]) (kk : ∀ (H1 : Heap) (locs1 : List Loc), LI (dC, dI) cI cJ cZ (fun q : Nat => s.heap.size ≤ q) x0 m0 H1 → va_S (fun q : Nat => s.heap.size ≤ q) s.heap H1 locs1 → W p l e room_1 s m #[Value.ref b] below meth c H1 locs1 38 1808 Q (F0 m 861 ls [])) : W p l e room_1 s m #[Value.ref b] below meth c H locs 38 1808 Q (F0 m 381 ls []) := by
  have hA : ∀ q : Nat, s.heap.size ≤ q → (fun q : Nat => s.heap.size ≤ q) q := fun _ h => h
  have hbA : ¬ (fun q : Nat => s.heap.size ≤ q) b := Nat.not_le.mpr hbl
  obtain ⟨qa, qb, r_images, r_asked, x_letters, x_size, x_place, x_fault, x_stold, n_likings, n_day, n_trust, n_ill, n_done, p_befores, p_known, h_tll, h_beyond, h_minutes, h_size, o_fewest, o_rows, o_first, o_stands, t_tears, t_gains, t_likings, t_settings, t_goodbyes, t_women, d_tears, d_gains, d_likings, d_settings, d_goodbyes, d_women, m_text, m_typed, m_told, m_draft, m_s, m_past, m_known, m_images, m_kept, m_notes, m_noted, m_at, m_sort, m_start, m_value, m_steps, m_rows, m_held, ⟨e1, e2⟩, hP, hD, rX, rT, rN, rP, rS, rI, rO⟩ := hI
  subst e1
  subst e2
  obtain ⟨r, lk2, d2, t2, il2, dn2, k2, s2, kn2, g1, g2, nRN, nRP⟩ := P_undo rN rP 
  refine lv_aload_n hx hb dL_law_381 rfl (lv_at hl 1 rfl) ?_
  have hFc := va_free (wc := wcRNP qa cI cJ cZ r_images r_asked n_likings n_day n_trust n_ill n_done p_befores p_known) hD hS hA [0, 1, 4, 5, 6, 7] rfl
  refine wq_di (D := (dC, dI)) (v := r) (B := wq_tr) (wr := wcX qa cI cJ cZ x_letters x_size x_place x_fault x_stold ++ (wcS qa cI cJ cZ h_tll h_beyond h_minutes h_size ++ (wcO qa cI cJ cZ o_fewest o_rows o_first o_stands ++ (wcT qa cI cJ cZ t_tears t_gains t_likings t_settings t_goodbyes t_women ++ (wcD qa cI cJ cZ d_tears d_gains d_likings d_settings d_goodbyes d_women ++ (wcM qb cI cJ cZ r_asked m_text m_typed m_told m_draft m_s m_past m_known m_images m_kept m_notes m_noted m_at m_sort m_start m_value m_steps m_rows m_held)))))) (w1 := wcRNP qa cI cJ cZ r_images r_asked lk2 d2 t2 il2 dn2 p_befores k2) (w2 := wcRXNPSOTD qa cI cJ cZ r_images r_asked x_letters x_size x_place x_fault x_stold lk2 d2 t2 il2 dn2 p_befores k2 h_tll h_beyond h_minutes h_size o_fewest o_rows o_first o_stands t_tears t_gains t_likings t_settings t_goodbyes t_women d_tears d_gains d_likings d_settings d_goodbyes d_women ++ wcM qb cI cJ cZ r_asked m_text m_typed m_told m_draft m_s m_past m_known m_images m_kept m_notes m_noted m_at m_sort m_start m_value m_steps m_rows m_held) (va_runV (As := []) (rest := []) ⟨hx, hb, hml, hown, htL⟩ (C_X6_undo l dC dI cI cJ cZ qa H.size r_images r_asked n_likings n_day n_trust n_ill n_done p_befores p_known r lk2 d2 t2 il2 dn2 k2 g1) (cwV 0 htL gL_law_X6_undo rfl rfl rfl hdV_X6_undo ⟨Nat.le_of_ble_eq_true rfl, Nat.le_of_ble_eq_true rfl⟩) (wq_pwV hK (hP.sub (ws' := wcRNP qa cI cJ cZ r_images r_asked n_likings n_day n_trust n_ill n_done p_befores p_known) [0, 1, 4, 5, 6, 7] rfl) (hD.sub (ws' := wcRNP qa cI cJ cZ r_images r_asked n_likings n_day n_trust n_ill n_done p_befores p_known) [0, 1, 4, 5, 6, 7] (by decide) rfl) hE hS hFc (ci := 6) (q0 := 0) rfl rfl) rfl rfl hl.1 rfl (lv_room (Nat.le_of_ble_eq_true rfl)) dL_law_382 ⟨Nat.le_of_ble_eq_true rfl, Nat.le_of_ble_eq_true rfl⟩) hP hD hS hFc [0, 1, 4, 5, 6, 7] [2, 3, 8, 9, 10, 11, 12, 13, 14, 15, 16, 17, 18, 19, 20, 21, 22, 23, 24, 25, 26, 27, 28, 29, 30, 31, 32, 33, 34, 35, 36, 37] [32, 33, 0, 1, 34, 35, 36, 37, 2, 3, 4, 5, 6, 7, 8, 9, 10, 11, 12, 13, 14, 15, 16, 17, 18, 19, 20, 21, 22, 23, 24, 25, 26, 27, 28, 29, 30, 31] rfl rfl (by decide) (by decide) (by decide) rfl (fun H1 locs1 _ hP hD hS => ?_)
  clear hFc
  generalize H1 = H, locs1 = locs at hP hS ⊢
  refine lv_aload_n hx hb dL_law_385 rfl (lv_at hl 2 rfl) ?_
  have hFc := va_free (wc := wcM qb cI cJ cZ r_asked m_text m_typed m_told m_draft m_s m_past m_known m_images m_kept m_notes m_noted m_at m_sort m_start m_value m_steps m_rows m_held) hD hS hA [26, 27, 28, 29, 30, 31, 32, 33, 34, 35, 36, 37] rfl
  refine wq_di (D := (dC, dI)) (v := r) (B := wq_tr) (wr := wcR qa cI cJ cZ r_images r_asked ++ (wcX qa cI cJ cZ x_letters x_size x_place x_fault x_stold ++ (wcN qa cI cJ cZ lk2 d2 t2 il2 dn2 ++ (wcP qa cI cJ cZ p_befores k2 ++ (wcS qa cI cJ cZ h_tll h_beyond h_minutes h_size ++ (wcO qa cI cJ cZ o_fewest o_rows o_first o_stands ++ (wcT qa cI cJ cZ t_tears t_gains t_likings t_settings t_goodbyes t_women ++ (wcD qa cI cJ cZ d_tears d_gains d_likings d_settings d_goodbyes d_women)))))))) (w1 := wcM qb cI cJ cZ r_asked m_text m_typed m_told m_draft s2 m_past kn2 m_images m_kept m_notes m_noted m_at m_sort m_start m_value m_steps m_rows m_held) (w2 := wcRXNPSOTD qa cI cJ cZ r_images r_asked x_letters x_size x_place x_fault x_stold lk2 d2 t2 il2 dn2 p_befores k2 h_tll h_beyond h_minutes h_size o_fewest o_rows o_first o_stands t_tears t_gains t_likings t_settings t_goodbyes t_women d_tears d_gains d_likings d_settings d_goodbyes d_women ++ wcM qb cI cJ cZ r_asked m_text m_typed m_told m_draft s2 m_past kn2 m_images m_kept m_notes m_noted m_at m_sort m_start m_value m_steps m_rows m_held) (va_runV (As := []) (rest := [.int r]) ⟨hx, hb, hml, hown, htL⟩ (C_X7_undo l dC dI cI cJ cZ qb H.size r_asked m_text m_typed m_told m_draft m_s m_past m_known m_images m_kept m_notes m_noted m_at m_sort m_start m_value m_steps m_rows m_held r s2 kn2 g2) (cwV 0 htL gL_law_X7_undo rfl rfl rfl hdV_X7_undo ⟨Nat.le_of_ble_eq_true rfl, Nat.le_of_ble_eq_true rfl⟩) (wq_pwV hK (hP.sub (ws' := wcM qb cI cJ cZ r_asked m_text m_typed m_told m_draft m_s m_past m_known m_images m_kept m_notes m_noted m_at m_sort m_start m_value m_steps m_rows m_held) [26, 27, 28, 29, 30, 31, 32, 33, 34, 35, 36, 37] rfl) (hD.sub (ws' := wcM qb cI cJ cZ r_asked m_text m_typed m_told m_draft m_s m_past m_known m_images m_kept m_notes m_noted m_at m_sort m_start m_value m_steps m_rows m_held) [26, 27, 28, 29, 30, 31, 32, 33, 34, 35, 36, 37] (by decide) rfl) hE hS hFc (ci := 7) (q0 := 0) rfl rfl) rfl rfl hl.1 rfl (lv_room (Nat.le_of_ble_eq_true rfl)) dL_law_386 ⟨Nat.le_of_ble_eq_true rfl, Nat.le_of_ble_eq_true rfl⟩) hP hD hS hFc [26, 27, 28, 29, 30, 31, 32, 33, 34, 35, 36, 37] [0, 1, 2, 3, 4, 5, 6, 7, 8, 9, 10, 11, 12, 13, 14, 15, 16, 17, 18, 19, 20, 21, 22, 23, 24, 25] [0, 1, 2, 3, 4, 5, 6, 7, 8, 9, 10, 11, 12, 13, 14, 15, 16, 17, 18, 19, 20, 21, 22, 23, 24, 25, 26, 27, 28, 29, 30, 31, 32, 33, 34, 35, 36, 37] rfl rfl (by decide) (by decide) (by decide) rfl (fun H1 locs1 _ hP hD hS => ?_)
  clear hFc
  generalize H1 = H, locs1 = locs at hP hS ⊢
  refine lv_icmp_eq (tgt := 861) hx hb dL_law_389 (by decide) (fun _ => ?_) (fun z => absurd rfl z)
  exact kk H locs ⟨qa, qb, _, _, _, _, _, _, _, _, _, _, _, _, _, _, _, _, _, _, _, _, _, _, _, _, _, _, _, _, _, _, _, _, _, _, _, _, _, _, _, _, _, _, _, _, _, _, _, _, _, _, _, _, ⟨rfl, rfl⟩, hP, hD, rX, rT, nRN, nRP, rS, rI, rO⟩ hS
set_option maxHeartbeats 4000000 in
set_option maxRecDepth 100000 in
theorem law_would (l : Launch) {b L : Nat} {xs : Nat → Int32} (hx : p.tables.exec = Jvm.exec) (hb : c.code = code) (hml : c.maxLocals = 4) (hown : s.vm.findClass RL = some m.cls) (htL : ∀ w ∈ wsL_law, w.before #[Value.ref b] s = true) (hX : va_X b L xs s s.heap) (hbl : b < s.heap.size) {dC : Nat → ClassId} {dI : Nat → Nat → Nat} {cI cJ cZ : ClassId} (hK : va_K (dC, dI) vwCl [(cI, .int), (cJ, .long), (cZ, .boolean)] s) (hE : wq_E (fun q : Nat => s.heap.size ≤ q) s) {x0 m0 : Nat} {H : Heap} {locs : List Loc} {ls : Array Slot} (hI : LI (dC, dI) cI cJ cZ (fun q : Nat => s.heap.size ≤ q) x0 m0 H) (hS : va_S (fun q : Nat => s.heap.size ≤ q) s.heap H locs) {i : Nat} (hi : i + 8 ≤ L) (hL : L ≤ 512) (hl : lv_has ls 4 [(0, .ref b), (1, .ref x0), (2, .ref m0), (3, .int (nI i))]) (kk : ∀ (H1 : Heap) (locs1 : List Loc), LI (dC, dI) cI cJ cZ (fun q : Nat => s.heap.size ≤ q) x0 m0 H1 → va_S (fun q : Nat => s.heap.size ≤ q) s.heap H1 locs1 → W p l e room_1 s m #[Value.ref b] below meth c H1 locs1 38 1808 Q (F0 m 861 ls [])) : W p l e room_1 s m #[Value.ref b] below meth c H locs 38 1808 Q (F0 m 394 ls []) := by
  have hA : ∀ q : Nat, s.heap.size ≤ q → (fun q : Nat => s.heap.size ≤ q) q := fun _ h => h
  have hbA : ¬ (fun q : Nat => s.heap.size ≤ q) b := Nat.not_le.mpr hbl
  obtain ⟨qa, qb, r_images, r_asked, x_letters, x_size, x_place, x_fault, x_stold, n_likings, n_day, n_trust, n_ill, n_done, p_befores, p_known, h_tll, h_beyond, h_minutes, h_size, o_fewest, o_rows, o_first, o_stands, t_tears, t_gains, t_likings, t_settings, t_goodbyes, t_women, d_tears, d_gains, d_likings, d_settings, d_goodbyes, d_women, m_text, m_typed, m_told, m_draft, m_s, m_past, m_known, m_images, m_kept, m_notes, m_noted, m_at, m_sort, m_start, m_value, m_steps, m_rows, m_held, ⟨e1, e2⟩, hP, hD, rX, rT, rN, rP, rS, rI, rO⟩ := hI
  subst e1
  subst e2
  obtain ⟨r, g1, g2⟩ := P_would rT rN (xs (Int32.toNatClampNeg (nI i + 1))) (xs (Int32.toNatClampNeg (nI i + 2))) (xs (Int32.toNatClampNeg (nI i + 3)))
  refine lv_aload_n hx hb dL_law_394 rfl (lv_at hl 1 rfl) ?_
  refine lv_aload_n hx hb dL_law_395 rfl (lv_at hl 0 rfl) ?_
  refine lv_iload_n hx hb dL_law_396 rfl (lv_at hl 3 rfl) ?_
  refine lv_iconst (v := 1) hx hb dL_law_397 (by decide) ?_
  refine lv_iadd hx hb dL_law_398 ?_
  refine va_sld hx hb hX hbl hbA hS (wl_in (j := 1) hi hL ⟨rfl, by decide⟩) dL_law_399 ?_
  refine lv_aload_n hx hb dL_law_400 rfl (lv_at hl 0 rfl) ?_
  refine lv_iload_n hx hb dL_law_401 rfl (lv_at hl 3 rfl) ?_
  refine lv_iconst (v := 2) hx hb dL_law_402 (by decide) ?_
  refine lv_iadd hx hb dL_law_403 ?_
  refine va_sld hx hb hX hbl hbA hS (wl_in (j := 2) hi hL ⟨rfl, by decide⟩) dL_law_404 ?_
  refine lv_aload_n hx hb dL_law_405 rfl (lv_at hl 0 rfl) ?_
  refine lv_iload_n hx hb dL_law_406 rfl (lv_at hl 3 rfl) ?_
  refine lv_iconst (v := 3) hx hb dL_law_407 (by decide) ?_
  refine lv_iadd hx hb dL_law_408 ?_
  refine va_sld hx hb hX hbl hbA hS (wl_in (j := 3) hi hL ⟨rfl, by decide⟩) dL_law_409 ?_
  refine wq_ci (v := r) (B := wq_tr) (va_runV (As := [.int (xs (Int32.toNatClampNeg (nI i + 1))), .int (xs (Int32.toNatClampNeg (nI i + 2))), .int (xs (Int32.toNatClampNeg (nI i + 3)))]) (rest := []) ⟨hx, hb, hml, hown, htL⟩ (C_X6_would l dC dI cI cJ cZ qa H.size r_images r_asked n_likings n_day n_trust n_ill n_done t_tears t_gains t_likings t_settings t_goodbyes t_women (xs (Int32.toNatClampNeg (nI i + 1))) (xs (Int32.toNatClampNeg (nI i + 2))) (xs (Int32.toNatClampNeg (nI i + 3))) r g1) (cwV 3 htL gL_law_X6_would rfl rfl rfl hdV_X6_would ⟨Nat.le_of_ble_eq_true rfl, Nat.le_of_ble_eq_true rfl⟩) (wq_ppV hK (hP.sub (ws' := wcRNT qa cI cJ cZ r_images r_asked n_likings n_day n_trust n_ill n_done t_tears t_gains t_likings t_settings t_goodbyes t_women) [0, 1, 4, 5, 16, 17, 18, 19, 20] rfl) hE hS hA (ci := 6) (q0 := 0) rfl rfl) rfl rfl hl.1 rfl (lv_room (Nat.le_of_ble_eq_true rfl)) dL_law_410 ⟨Nat.le_of_ble_eq_true rfl, Nat.le_of_ble_eq_true rfl⟩) hS hA (fun H1 locs1 _ hk hS => ?_)
  replace hP := wq_kp hP hk
  clear hk
  generalize H1 = H, locs1 = locs at hP hS ⊢
  refine lv_aload_n hx hb dL_law_413 rfl (lv_at hl 2 rfl) ?_
  refine lv_aload_n hx hb dL_law_414 rfl (lv_at hl 0 rfl) ?_
  refine lv_iload_n hx hb dL_law_415 rfl (lv_at hl 3 rfl) ?_
  refine lv_iconst (v := 1) hx hb dL_law_416 (by decide) ?_
  refine lv_iadd hx hb dL_law_417 ?_
  refine va_sld hx hb hX hbl hbA hS (wl_in (j := 1) hi hL ⟨rfl, by decide⟩) dL_law_418 ?_
  refine lv_aload_n hx hb dL_law_419 rfl (lv_at hl 0 rfl) ?_
  refine lv_iload_n hx hb dL_law_420 rfl (lv_at hl 3 rfl) ?_
  refine lv_iconst (v := 2) hx hb dL_law_421 (by decide) ?_
  refine lv_iadd hx hb dL_law_422 ?_
  refine va_sld hx hb hX hbl hbA hS (wl_in (j := 2) hi hL ⟨rfl, by decide⟩) dL_law_423 ?_
  refine lv_aload_n hx hb dL_law_424 rfl (lv_at hl 0 rfl) ?_
  refine lv_iload_n hx hb dL_law_425 rfl (lv_at hl 3 rfl) ?_
  refine lv_iconst (v := 3) hx hb dL_law_426 (by decide) ?_
  refine lv_iadd hx hb dL_law_427 ?_
  refine va_sld hx hb hX hbl hbA hS (wl_in (j := 3) hi hL ⟨rfl, by decide⟩) dL_law_428 ?_
  refine wq_ci (v := r) (B := wq_tr) (va_runV (As := [.int (xs (Int32.toNatClampNeg (nI i + 1))), .int (xs (Int32.toNatClampNeg (nI i + 2))), .int (xs (Int32.toNatClampNeg (nI i + 3)))]) (rest := [.int r]) ⟨hx, hb, hml, hown, htL⟩ (C_X7_would l dC dI cI cJ cZ qb H.size r_asked m_text m_typed m_told m_draft m_s m_past m_known m_images m_kept m_notes m_noted m_at m_sort m_start m_value m_steps m_rows m_held (xs (Int32.toNatClampNeg (nI i + 1))) (xs (Int32.toNatClampNeg (nI i + 2))) (xs (Int32.toNatClampNeg (nI i + 3))) r g2) (cwV 3 htL gL_law_X7_would rfl rfl rfl hdV_X7_would ⟨Nat.le_of_ble_eq_true rfl, Nat.le_of_ble_eq_true rfl⟩) (wq_ppV hK (hP.sub (ws' := wcM qb cI cJ cZ r_asked m_text m_typed m_told m_draft m_s m_past m_known m_images m_kept m_notes m_noted m_at m_sort m_start m_value m_steps m_rows m_held) [26, 27, 28, 29, 30, 31, 32, 33, 34, 35, 36, 37] rfl) hE hS hA (ci := 7) (q0 := 0) rfl rfl) rfl rfl hl.1 rfl (lv_room (Nat.le_of_ble_eq_true rfl)) dL_law_429 ⟨Nat.le_of_ble_eq_true rfl, Nat.le_of_ble_eq_true rfl⟩) hS hA (fun H1 locs1 _ hk hS => ?_)
  replace hP := wq_kp hP hk
  clear hk
  generalize H1 = H, locs1 = locs at hP hS ⊢
  refine lv_icmp_eq (tgt := 861) hx hb dL_law_432 (by decide) (fun _ => ?_) (fun z => absurd rfl z)
  exact kk H locs ⟨qa, qb, _, _, _, _, _, _, _, _, _, _, _, _, _, _, _, _, _, _, _, _, _, _, _, _, _, _, _, _, _, _, _, _, _, _, _, _, _, _, _, _, _, _, _, _, _, _, _, _, _, _, _, _, ⟨rfl, rfl⟩, hP, hD, rX, rT, rN, rP, rS, rI, rO⟩ hS
set_option maxHeartbeats 4000000 in
set_option maxRecDepth 100000 in
theorem law_farthest (l : Launch) {b L : Nat} {xs : Nat → Int32} (hx : p.tables.exec = Jvm.exec) (hb : c.code = code) (hml : c.maxLocals = 4) (hown : s.vm.findClass RL = some m.cls) (htL : ∀ w ∈ wsL_law, w.before #[Value.ref b] s = true) (hX : va_X b L xs s s.heap) (hbl : b < s.heap.size) {dC : Nat → ClassId} {dI : Nat → Nat → Nat} {cI cJ cZ : ClassId} (hK : va_K (dC, dI) vwCl [(cI, .int), (cJ, .long), (cZ, .boolean)] s) (hE : wq_E (fun q : Nat => s.heap.size ≤ q) s) {x0 m0 : Nat} {H : Heap} {locs : List Loc} {ls : Array Slot} (hI : LI (dC, dI) cI cJ cZ (fun q : Nat => s.heap.size ≤ q) x0 m0 H) (hS : va_S (fun q : Nat => s.heap.size ≤ q) s.heap H locs) {i : Nat} (hi : i + 8 ≤ L) (hL : L ≤ 512) (hl : lv_has ls 4 [(0, .ref b), (1, .ref x0), (2, .ref m0), (3, .int (nI i))]) (kk : ∀ (H1 : Heap) (locs1 : List Loc), LI (dC, dI) cI cJ cZ (fun q : Nat => s.heap.size ≤ q) x0 m0 H1 → va_S (fun q : Nat => s.heap.size ≤ q) s.heap H1 locs1 → W p l e room_1 s m #[Value.ref b] below meth c H1 locs1 38 1808 Q (F0 m 861 ls [])) : W p l e room_1 s m #[Value.ref b] below meth c H locs 38 1808 Q (F0 m 437 ls []) := by
  have hA : ∀ q : Nat, s.heap.size ≤ q → (fun q : Nat => s.heap.size ≤ q) q := fun _ h => h
  have hbA : ¬ (fun q : Nat => s.heap.size ≤ q) b := Nat.not_le.mpr hbl
  obtain ⟨qa, qb, r_images, r_asked, x_letters, x_size, x_place, x_fault, x_stold, n_likings, n_day, n_trust, n_ill, n_done, p_befores, p_known, h_tll, h_beyond, h_minutes, h_size, o_fewest, o_rows, o_first, o_stands, t_tears, t_gains, t_likings, t_settings, t_goodbyes, t_women, d_tears, d_gains, d_likings, d_settings, d_goodbyes, d_women, m_text, m_typed, m_told, m_draft, m_s, m_past, m_known, m_images, m_kept, m_notes, m_noted, m_at, m_sort, m_start, m_value, m_steps, m_rows, m_held, ⟨e1, e2⟩, hP, hD, rX, rT, rN, rP, rS, rI, rO⟩ := hI
  subst e1
  subst e2
  obtain ⟨r, g1, g2⟩ := P_farthest rT rN (xs (Int32.toNatClampNeg (nI i + 1))) (xs (Int32.toNatClampNeg (nI i + 2)))
  refine lv_aload_n hx hb dL_law_437 rfl (lv_at hl 1 rfl) ?_
  refine lv_aload_n hx hb dL_law_438 rfl (lv_at hl 0 rfl) ?_
  refine lv_iload_n hx hb dL_law_439 rfl (lv_at hl 3 rfl) ?_
  refine lv_iconst (v := 1) hx hb dL_law_440 (by decide) ?_
  refine lv_iadd hx hb dL_law_441 ?_
  refine va_sld hx hb hX hbl hbA hS (wl_in (j := 1) hi hL ⟨rfl, by decide⟩) dL_law_442 ?_
  refine lv_aload_n hx hb dL_law_443 rfl (lv_at hl 0 rfl) ?_
  refine lv_iload_n hx hb dL_law_444 rfl (lv_at hl 3 rfl) ?_
  refine lv_iconst (v := 2) hx hb dL_law_445 (by decide) ?_
  refine lv_iadd hx hb dL_law_446 ?_
  refine va_sld hx hb hX hbl hbA hS (wl_in (j := 2) hi hL ⟨rfl, by decide⟩) dL_law_447 ?_
  refine wq_ci (v := r) (B := wq_tr) (va_runV (As := [.int (xs (Int32.toNatClampNeg (nI i + 1))), .int (xs (Int32.toNatClampNeg (nI i + 2)))]) (rest := []) ⟨hx, hb, hml, hown, htL⟩ (C_X6_farthest l dC dI cI cJ cZ qa H.size r_images r_asked n_likings n_day n_trust n_ill n_done t_tears t_gains t_likings t_settings t_goodbyes t_women (xs (Int32.toNatClampNeg (nI i + 1))) (xs (Int32.toNatClampNeg (nI i + 2))) r g1) (cwV 2 htL gL_law_X6_farthest rfl rfl rfl hdV_X6_farthest ⟨Nat.le_of_ble_eq_true rfl, Nat.le_of_ble_eq_true rfl⟩) (wq_ppV hK (hP.sub (ws' := wcRNT qa cI cJ cZ r_images r_asked n_likings n_day n_trust n_ill n_done t_tears t_gains t_likings t_settings t_goodbyes t_women) [0, 1, 4, 5, 16, 17, 18, 19, 20] rfl) hE hS hA (ci := 6) (q0 := 0) rfl rfl) rfl rfl hl.1 rfl (lv_room (Nat.le_of_ble_eq_true rfl)) dL_law_448 ⟨Nat.le_of_ble_eq_true rfl, Nat.le_of_ble_eq_true rfl⟩) hS hA (fun H1 locs1 _ hk hS => ?_)
  replace hP := wq_kp hP hk
  clear hk
  generalize H1 = H, locs1 = locs at hP hS ⊢
  refine lv_aload_n hx hb dL_law_451 rfl (lv_at hl 2 rfl) ?_
  refine lv_aload_n hx hb dL_law_452 rfl (lv_at hl 0 rfl) ?_
  refine lv_iload_n hx hb dL_law_453 rfl (lv_at hl 3 rfl) ?_
  refine lv_iconst (v := 1) hx hb dL_law_454 (by decide) ?_
  refine lv_iadd hx hb dL_law_455 ?_
  refine va_sld hx hb hX hbl hbA hS (wl_in (j := 1) hi hL ⟨rfl, by decide⟩) dL_law_456 ?_
  refine lv_aload_n hx hb dL_law_457 rfl (lv_at hl 0 rfl) ?_
  refine lv_iload_n hx hb dL_law_458 rfl (lv_at hl 3 rfl) ?_
  refine lv_iconst (v := 2) hx hb dL_law_459 (by decide) ?_
  refine lv_iadd hx hb dL_law_460 ?_
  refine va_sld hx hb hX hbl hbA hS (wl_in (j := 2) hi hL ⟨rfl, by decide⟩) dL_law_461 ?_
  refine wq_ci (v := r) (B := wq_tr) (va_runV (As := [.int (xs (Int32.toNatClampNeg (nI i + 1))), .int (xs (Int32.toNatClampNeg (nI i + 2)))]) (rest := [.int r]) ⟨hx, hb, hml, hown, htL⟩ (C_X7_farthest l dC dI cI cJ cZ qb H.size r_asked m_text m_typed m_told m_draft m_s m_past m_known m_images m_kept m_notes m_noted m_at m_sort m_start m_value m_steps m_rows m_held (xs (Int32.toNatClampNeg (nI i + 1))) (xs (Int32.toNatClampNeg (nI i + 2))) r g2) (cwV 2 htL gL_law_X7_farthest rfl rfl rfl hdV_X7_farthest ⟨Nat.le_of_ble_eq_true rfl, Nat.le_of_ble_eq_true rfl⟩) (wq_ppV hK (hP.sub (ws' := wcM qb cI cJ cZ r_asked m_text m_typed m_told m_draft m_s m_past m_known m_images m_kept m_notes m_noted m_at m_sort m_start m_value m_steps m_rows m_held) [26, 27, 28, 29, 30, 31, 32, 33, 34, 35, 36, 37] rfl) hE hS hA (ci := 7) (q0 := 0) rfl rfl) rfl rfl hl.1 rfl (lv_room (Nat.le_of_ble_eq_true rfl)) dL_law_462 ⟨Nat.le_of_ble_eq_true rfl, Nat.le_of_ble_eq_true rfl⟩) hS hA (fun H1 locs1 _ hk hS => ?_)
  replace hP := wq_kp hP hk
  clear hk
  generalize H1 = H, locs1 = locs at hP hS ⊢
  refine lv_icmp_eq (tgt := 861) hx hb dL_law_465 (by decide) (fun _ => ?_) (fun z => absurd rfl z)
  exact kk H locs ⟨qa, qb, _, _, _, _, _, _, _, _, _, _, _, _, _, _, _, _, _, _, _, _, _, _, _, _, _, _, _, _, _, _, _, _, _, _, _, _, _, _, _, _, _, _, _, _, _, _, _, _, _, _, _, _, ⟨rfl, rfl⟩, hP, hD, rX, rT, rN, rP, rS, rI, rO⟩ hS
end LW
