section LW
variable {p : Program} {e : Env} {s : State} {m : MethodId} {below : List Frame} {meth : Method} {c : Code} {Q : State → Prop}
set_option maxHeartbeats 4000000 in
set_option maxRecDepth 100000 in
theorem law_plan (l : Launch) {b L : Nat} {xs : Nat → Int32} (hx : p.tables.exec = Jvm.exec) (hb : c.code = code) (hml : c.maxLocals = 4) (hown : s.vm.findClass RL = some m.cls) (htL : ∀ w ∈ wsL_law, w.before #[Value.ref b] s = true) (hX : va_X b L xs s s.heap) (hbl : b < s.heap.size) {dC : Nat → ClassId} {dI : Nat → Nat → Nat} {cI cJ cZ : ClassId} (hK : va_K (dC, dI) vwCl [(cI, .int), (cJ, .long), (cZ, .boolean)] s) (hE : wq_E (fun q : Nat => s.heap.size ≤ q) s) {x0 m0 : Nat} {H : Heap} {locs : List Loc} {ls : Array Slot} (hI : LI (dC, dI) cI cJ cZ (fun q : Nat => s.heap.size ≤ q) x0 m0 H) (hS : va_S (fun q : Nat => s.heap.size ≤ q) s.heap H locs) {i : Nat} (hi : i + 8 ≤ L) (hL : L ≤ 512) (hl : lv_has ls 4 [(0, .ref b), (1, .ref x0), (2, .ref m0), (3, .int (nI i))]) (kk : ∀ (H1 : Heap) (locs1 : List Loc), LI (dC, dI) cI cJ cZ (fun q : Nat => s.heap.size ≤ q) x0 m0 H1 → va_S (fun q : Nat => s.heap.size ≤ q) s.heap H1 locs1 → W p l e room_1 s m #[Value.ref b] below meth c H1 locs1 38 1808 Q (F0 m 861 ls [])) : W p l e room_1 s m #[Value.ref b] below meth c H locs 38 1808 Q (F0 m 470 ls []) := by
  have hA : ∀ q : Nat, s.heap.size ≤ q → (fun q : Nat => s.heap.size ≤ q) q := fun _ h => h
  have hbA : ¬ (fun q : Nat => s.heap.size ≤ q) b := Nat.not_le.mpr hbl
  obtain ⟨qa, qb, r_images, r_asked, x_letters, x_size, x_place, x_fault, x_stold, n_likings, n_day, n_trust, n_ill, n_done, p_befores, p_known, h_tll, h_beyond, h_minutes, h_size, o_fewest, o_rows, o_first, o_stands, t_tears, t_gains, t_likings, t_settings, t_goodbyes, t_women, d_tears, d_gains, d_likings, d_settings, d_goodbyes, d_women, m_text, m_typed, m_told, m_draft, m_s, m_past, m_known, m_images, m_kept, m_notes, m_noted, m_at, m_sort, m_start, m_value, m_steps, m_rows, m_held, ⟨e1, e2⟩, hP, hD, rX, rT, rN, rP, rS, rI, rO⟩ := hI
  subst e1
  subst e2
  obtain ⟨r, f2, r2, w2, s2, st2, rw2, g1, g2, nRO⟩ := P_plan rT rN rO m_steps m_rows (xs (Int32.toNatClampNeg (nI i + 1))) (xs (Int32.toNatClampNeg (nI i + 2)))
  refine lv_aload_n hx hb dL_law_470 rfl (lv_at hl 1 rfl) ?_
  refine lv_aload_n hx hb dL_law_471 rfl (lv_at hl 0 rfl) ?_
  refine lv_iload_n hx hb dL_law_472 rfl (lv_at hl 3 rfl) ?_
  refine lv_iconst (v := 1) hx hb dL_law_473 (by decide) ?_
  refine lv_iadd hx hb dL_law_474 ?_
  refine va_sld hx hb hX hbl hbA hS (wl_in (j := 1) hi hL ⟨rfl, by decide⟩) dL_law_475 ?_
  refine lv_aload_n hx hb dL_law_476 rfl (lv_at hl 0 rfl) ?_
  refine lv_iload_n hx hb dL_law_477 rfl (lv_at hl 3 rfl) ?_
  refine lv_iconst (v := 2) hx hb dL_law_478 (by decide) ?_
  refine lv_iadd hx hb dL_law_479 ?_
  refine va_sld hx hb hX hbl hbA hS (wl_in (j := 2) hi hL ⟨rfl, by decide⟩) dL_law_480 ?_
  have hFc := va_free (wc := wcRNOT qa cI cJ cZ r_images r_asked n_likings n_day n_trust n_ill n_done o_fewest o_rows o_first o_stands t_tears t_gains t_likings t_settings t_goodbyes t_women) hD hS hA [0, 1, 4, 5, 12, 13, 14, 15, 16, 17, 18, 19, 20] rfl
  refine wq_di (D := (dC, dI)) (v := r) (B := wq_tr) (wr := wcX qa cI cJ cZ x_letters x_size x_place x_fault x_stold ++ (wcP qa cI cJ cZ p_befores p_known ++ (wcS qa cI cJ cZ h_tll h_beyond h_minutes h_size ++ (wcD qa cI cJ cZ d_tears d_gains d_likings d_settings d_goodbyes d_women ++ (wcM qb cI cJ cZ r_asked m_text m_typed m_told m_draft m_s m_past m_known m_images m_kept m_notes m_noted m_at m_sort m_start m_value m_steps m_rows m_held))))) (w1 := wcRNOT qa cI cJ cZ r_images r_asked n_likings n_day n_trust n_ill n_done f2 r2 w2 s2 t_tears t_gains t_likings t_settings t_goodbyes t_women) (w2 := wcRXNPSOTD qa cI cJ cZ r_images r_asked x_letters x_size x_place x_fault x_stold n_likings n_day n_trust n_ill n_done p_befores p_known h_tll h_beyond h_minutes h_size f2 r2 w2 s2 t_tears t_gains t_likings t_settings t_goodbyes t_women d_tears d_gains d_likings d_settings d_goodbyes d_women ++ wcM qb cI cJ cZ r_asked m_text m_typed m_told m_draft m_s m_past m_known m_images m_kept m_notes m_noted m_at m_sort m_start m_value m_steps m_rows m_held) (va_runV (As := [.int (xs (Int32.toNatClampNeg (nI i + 1))), .int (xs (Int32.toNatClampNeg (nI i + 2)))]) (rest := []) ⟨hx, hb, hml, hown, htL⟩ (C_X6_plan l dC dI cI cJ cZ qa H.size r_images r_asked n_likings n_day n_trust n_ill n_done o_fewest o_rows o_first o_stands t_tears t_gains t_likings t_settings t_goodbyes t_women (xs (Int32.toNatClampNeg (nI i + 1))) (xs (Int32.toNatClampNeg (nI i + 2))) r f2 r2 w2 s2 g1) (cwV 2 htL gL_law_X6_plan rfl rfl rfl hdV_X6_plan ⟨Nat.le_of_ble_eq_true rfl, Nat.le_of_ble_eq_true rfl⟩) (wq_pwV hK (hP.sub (ws' := wcRNOT qa cI cJ cZ r_images r_asked n_likings n_day n_trust n_ill n_done o_fewest o_rows o_first o_stands t_tears t_gains t_likings t_settings t_goodbyes t_women) [0, 1, 4, 5, 12, 13, 14, 15, 16, 17, 18, 19, 20] rfl) (hD.sub (ws' := wcRNOT qa cI cJ cZ r_images r_asked n_likings n_day n_trust n_ill n_done o_fewest o_rows o_first o_stands t_tears t_gains t_likings t_settings t_goodbyes t_women) [0, 1, 4, 5, 12, 13, 14, 15, 16, 17, 18, 19, 20] (by decide) rfl) hE hS hFc (ci := 6) (q0 := 0) rfl rfl) rfl rfl hl.1 rfl (lv_room (Nat.le_of_ble_eq_true rfl)) dL_law_481 ⟨Nat.le_of_ble_eq_true rfl, Nat.le_of_ble_eq_true rfl⟩) hP hD hS hFc [0, 1, 4, 5, 12, 13, 14, 15, 16, 17, 18, 19, 20] [2, 3, 6, 7, 8, 9, 10, 11, 21, 22, 23, 24, 25, 26, 27, 28, 29, 30, 31, 32, 33, 34, 35, 36, 37] [25, 26, 0, 1, 27, 28, 2, 3, 4, 5, 6, 7, 29, 30, 31, 32, 33, 34, 35, 36, 37, 8, 9, 10, 11, 12, 13, 14, 15, 16, 17, 18, 19, 20, 21, 22, 23, 24] rfl rfl (by decide) (by decide) (by decide) rfl (fun H1 locs1 _ hP hD hS => ?_)
  clear hFc
  generalize H1 = H, locs1 = locs at hP hS ⊢
  refine lv_aload_n hx hb dL_law_484 rfl (lv_at hl 2 rfl) ?_
  refine lv_aload_n hx hb dL_law_485 rfl (lv_at hl 0 rfl) ?_
  refine lv_iload_n hx hb dL_law_486 rfl (lv_at hl 3 rfl) ?_
  refine lv_iconst (v := 1) hx hb dL_law_487 (by decide) ?_
  refine lv_iadd hx hb dL_law_488 ?_
  refine va_sld hx hb hX hbl hbA hS (wl_in (j := 1) hi hL ⟨rfl, by decide⟩) dL_law_489 ?_
  refine lv_aload_n hx hb dL_law_490 rfl (lv_at hl 0 rfl) ?_
  refine lv_iload_n hx hb dL_law_491 rfl (lv_at hl 3 rfl) ?_
  refine lv_iconst (v := 2) hx hb dL_law_492 (by decide) ?_
  refine lv_iadd hx hb dL_law_493 ?_
  refine va_sld hx hb hX hbl hbA hS (wl_in (j := 2) hi hL ⟨rfl, by decide⟩) dL_law_494 ?_
  have hFc := va_free (wc := wcM qb cI cJ cZ r_asked m_text m_typed m_told m_draft m_s m_past m_known m_images m_kept m_notes m_noted m_at m_sort m_start m_value m_steps m_rows m_held) hD hS hA [26, 27, 28, 29, 30, 31, 32, 33, 34, 35, 36, 37] rfl
  refine wq_di (D := (dC, dI)) (v := r) (B := wq_tr) (wr := wcR qa cI cJ cZ r_images r_asked ++ (wcX qa cI cJ cZ x_letters x_size x_place x_fault x_stold ++ (wcN qa cI cJ cZ n_likings n_day n_trust n_ill n_done ++ (wcP qa cI cJ cZ p_befores p_known ++ (wcS qa cI cJ cZ h_tll h_beyond h_minutes h_size ++ (wcO qa cI cJ cZ f2 r2 w2 s2 ++ (wcT qa cI cJ cZ t_tears t_gains t_likings t_settings t_goodbyes t_women ++ (wcD qa cI cJ cZ d_tears d_gains d_likings d_settings d_goodbyes d_women)))))))) (w1 := wcM qb cI cJ cZ r_asked m_text m_typed m_told m_draft m_s m_past m_known m_images m_kept m_notes m_noted m_at m_sort m_start m_value st2 rw2 m_held) (w2 := wcRXNPSOTD qa cI cJ cZ r_images r_asked x_letters x_size x_place x_fault x_stold n_likings n_day n_trust n_ill n_done p_befores p_known h_tll h_beyond h_minutes h_size f2 r2 w2 s2 t_tears t_gains t_likings t_settings t_goodbyes t_women d_tears d_gains d_likings d_settings d_goodbyes d_women ++ wcM qb cI cJ cZ r_asked m_text m_typed m_told m_draft m_s m_past m_known m_images m_kept m_notes m_noted m_at m_sort m_start m_value st2 rw2 m_held) (va_runV (As := [.int (xs (Int32.toNatClampNeg (nI i + 1))), .int (xs (Int32.toNatClampNeg (nI i + 2)))]) (rest := [.int r]) ⟨hx, hb, hml, hown, htL⟩ (C_X7_plan l dC dI cI cJ cZ qb H.size r_asked m_text m_typed m_told m_draft m_s m_past m_known m_images m_kept m_notes m_noted m_at m_sort m_start m_value m_steps m_rows m_held (xs (Int32.toNatClampNeg (nI i + 1))) (xs (Int32.toNatClampNeg (nI i + 2))) r st2 rw2 g2) (cwV 2 htL gL_law_X7_plan rfl rfl rfl hdV_X7_plan ⟨Nat.le_of_ble_eq_true rfl, Nat.le_of_ble_eq_true rfl⟩) (wq_pwV hK (hP.sub (ws' := wcM qb cI cJ cZ r_asked m_text m_typed m_told m_draft m_s m_past m_known m_images m_kept m_notes m_noted m_at m_sort m_start m_value m_steps m_rows m_held) [26, 27, 28, 29, 30, 31, 32, 33, 34, 35, 36, 37] rfl) (hD.sub (ws' := wcM qb cI cJ cZ r_asked m_text m_typed m_told m_draft m_s m_past m_known m_images m_kept m_notes m_noted m_at m_sort m_start m_value m_steps m_rows m_held) [26, 27, 28, 29, 30, 31, 32, 33, 34, 35, 36, 37] (by decide) rfl) hE hS hFc (ci := 7) (q0 := 0) rfl rfl) rfl rfl hl.1 rfl (lv_room (Nat.le_of_ble_eq_true rfl)) dL_law_495 ⟨Nat.le_of_ble_eq_true rfl, Nat.le_of_ble_eq_true rfl⟩) hP hD hS hFc [26, 27, 28, 29, 30, 31, 32, 33, 34, 35, 36, 37] [0, 1, 2, 3, 4, 5, 6, 7, 8, 9, 10, 11, 12, 13, 14, 15, 16, 17, 18, 19, 20, 21, 22, 23, 24, 25] [0, 1, 2, 3, 4, 5, 6, 7, 8, 9, 10, 11, 12, 13, 14, 15, 16, 17, 18, 19, 20, 21, 22, 23, 24, 25, 26, 27, 28, 29, 30, 31, 32, 33, 34, 35, 36, 37] rfl rfl (by decide) (by decide) (by decide) rfl (fun H1 locs1 _ hP hD hS => ?_)
  clear hFc
  generalize H1 = H, locs1 = locs at hP hS ⊢
  refine lv_icmp_eq (tgt := 861) hx hb dL_law_498 (by decide) (fun _ => ?_) (fun z => absurd rfl z)
  exact kk H locs ⟨qa, qb, _, _, _, _, _, _, _, _, _, _, _, _, _, _, _, _, _, _, _, _, _, _, _, _, _, _, _, _, _, _, _, _, _, _, _, _, _, _, _, _, _, _, _, _, _, _, _, _, _, _, _, _, ⟨rfl, rfl⟩, hP, hD, rX, rT, rN, rP, rS, rI, nRO⟩ hS
set_option maxHeartbeats 4000000 in
set_option maxRecDepth 100000 in
theorem law_ways (l : Launch) {b L : Nat} {xs : Nat → Int32} (hx : p.tables.exec = Jvm.exec) (hb : c.code = code) (hml : c.maxLocals = 4) (hown : s.vm.findClass RL = some m.cls) (htL : ∀ w ∈ wsL_law, w.before #[Value.ref b] s = true) (hX : va_X b L xs s s.heap) (hbl : b < s.heap.size) {dC : Nat → ClassId} {dI : Nat → Nat → Nat} {cI cJ cZ : ClassId} (hK : va_K (dC, dI) vwCl [(cI, .int), (cJ, .long), (cZ, .boolean)] s) (hE : wq_E (fun q : Nat => s.heap.size ≤ q) s) {x0 m0 : Nat} {H : Heap} {locs : List Loc} {ls : Array Slot} (hI : LI (dC, dI) cI cJ cZ (fun q : Nat => s.heap.size ≤ q) x0 m0 H) (hS : va_S (fun q : Nat => s.heap.size ≤ q) s.heap H locs) {i : Nat} (hi : i + 8 ≤ L) (hL : L ≤ 512) (hl : lv_has ls 4 [(0, .ref b), (1, .ref x0), (2, .ref m0), (3, .int (nI i))]) (kk : ∀ (H1 : Heap) (locs1 : List Loc), LI (dC, dI) cI cJ cZ (fun q : Nat => s.heap.size ≤ q) x0 m0 H1 → va_S (fun q : Nat => s.heap.size ≤ q) s.heap H1 locs1 → W p l e room_1 s m #[Value.ref b] below meth c H1 locs1 38 1808 Q (F0 m 861 ls [])) : W p l e room_1 s m #[Value.ref b] below meth c H locs 38 1808 Q (F0 m 503 ls []) := by
  have hA : ∀ q : Nat, s.heap.size ≤ q → (fun q : Nat => s.heap.size ≤ q) q := fun _ h => h
  have hbA : ¬ (fun q : Nat => s.heap.size ≤ q) b := Nat.not_le.mpr hbl
  obtain ⟨qa, qb, r_images, r_asked, x_letters, x_size, x_place, x_fault, x_stold, n_likings, n_day, n_trust, n_ill, n_done, p_befores, p_known, h_tll, h_beyond, h_minutes, h_size, o_fewest, o_rows, o_first, o_stands, t_tears, t_gains, t_likings, t_settings, t_goodbyes, t_women, d_tears, d_gains, d_likings, d_settings, d_goodbyes, d_women, m_text, m_typed, m_told, m_draft, m_s, m_past, m_known, m_images, m_kept, m_notes, m_noted, m_at, m_sort, m_start, m_value, m_steps, m_rows, m_held, ⟨e1, e2⟩, hP, hD, rX, rT, rN, rP, rS, rI, rO⟩ := hI
  subst e1
  subst e2
  obtain ⟨r, f2, r2, w2, s2, st2, rw2, g1, g2, nRO⟩ := P_ways rT rN rO m_steps m_rows (xs (Int32.toNatClampNeg (nI i + 1)))
  refine lv_aload_n hx hb dL_law_503 rfl (lv_at hl 1 rfl) ?_
  refine lv_aload_n hx hb dL_law_504 rfl (lv_at hl 0 rfl) ?_
  refine lv_iload_n hx hb dL_law_505 rfl (lv_at hl 3 rfl) ?_
  refine lv_iconst (v := 1) hx hb dL_law_506 (by decide) ?_
  refine lv_iadd hx hb dL_law_507 ?_
  refine va_sld hx hb hX hbl hbA hS (wl_in (j := 1) hi hL ⟨rfl, by decide⟩) dL_law_508 ?_
  have hFc := va_free (wc := wcRNOT qa cI cJ cZ r_images r_asked n_likings n_day n_trust n_ill n_done o_fewest o_rows o_first o_stands t_tears t_gains t_likings t_settings t_goodbyes t_women) hD hS hA [0, 1, 4, 5, 12, 13, 14, 15, 16, 17, 18, 19, 20] rfl
  refine wq_di (D := (dC, dI)) (v := r) (B := wq_tr) (wr := wcX qa cI cJ cZ x_letters x_size x_place x_fault x_stold ++ (wcP qa cI cJ cZ p_befores p_known ++ (wcS qa cI cJ cZ h_tll h_beyond h_minutes h_size ++ (wcD qa cI cJ cZ d_tears d_gains d_likings d_settings d_goodbyes d_women ++ (wcM qb cI cJ cZ r_asked m_text m_typed m_told m_draft m_s m_past m_known m_images m_kept m_notes m_noted m_at m_sort m_start m_value m_steps m_rows m_held))))) (w1 := wcRNOT qa cI cJ cZ r_images r_asked n_likings n_day n_trust n_ill n_done f2 r2 w2 s2 t_tears t_gains t_likings t_settings t_goodbyes t_women) (w2 := wcRXNPSOTD qa cI cJ cZ r_images r_asked x_letters x_size x_place x_fault x_stold n_likings n_day n_trust n_ill n_done p_befores p_known h_tll h_beyond h_minutes h_size f2 r2 w2 s2 t_tears t_gains t_likings t_settings t_goodbyes t_women d_tears d_gains d_likings d_settings d_goodbyes d_women ++ wcM qb cI cJ cZ r_asked m_text m_typed m_told m_draft m_s m_past m_known m_images m_kept m_notes m_noted m_at m_sort m_start m_value m_steps m_rows m_held) (va_runV (As := [.int (xs (Int32.toNatClampNeg (nI i + 1)))]) (rest := []) ⟨hx, hb, hml, hown, htL⟩ (C_X6_ways l dC dI cI cJ cZ qa H.size r_images r_asked n_likings n_day n_trust n_ill n_done o_fewest o_rows o_first o_stands t_tears t_gains t_likings t_settings t_goodbyes t_women (xs (Int32.toNatClampNeg (nI i + 1))) r f2 r2 w2 s2 g1) (cwV 1 htL gL_law_X6_ways rfl rfl rfl hdV_X6_ways ⟨Nat.le_of_ble_eq_true rfl, Nat.le_of_ble_eq_true rfl⟩) (wq_pwV hK (hP.sub (ws' := wcRNOT qa cI cJ cZ r_images r_asked n_likings n_day n_trust n_ill n_done o_fewest o_rows o_first o_stands t_tears t_gains t_likings t_settings t_goodbyes t_women) [0, 1, 4, 5, 12, 13, 14, 15, 16, 17, 18, 19, 20] rfl) (hD.sub (ws' := wcRNOT qa cI cJ cZ r_images r_asked n_likings n_day n_trust n_ill n_done o_fewest o_rows o_first o_stands t_tears t_gains t_likings t_settings t_goodbyes t_women) [0, 1, 4, 5, 12, 13, 14, 15, 16, 17, 18, 19, 20] (by decide) rfl) hE hS hFc (ci := 6) (q0 := 0) rfl rfl) rfl rfl hl.1 rfl (lv_room (Nat.le_of_ble_eq_true rfl)) dL_law_509 ⟨Nat.le_of_ble_eq_true rfl, Nat.le_of_ble_eq_true rfl⟩) hP hD hS hFc [0, 1, 4, 5, 12, 13, 14, 15, 16, 17, 18, 19, 20] [2, 3, 6, 7, 8, 9, 10, 11, 21, 22, 23, 24, 25, 26, 27, 28, 29, 30, 31, 32, 33, 34, 35, 36, 37] [25, 26, 0, 1, 27, 28, 2, 3, 4, 5, 6, 7, 29, 30, 31, 32, 33, 34, 35, 36, 37, 8, 9, 10, 11, 12, 13, 14, 15, 16, 17, 18, 19, 20, 21, 22, 23, 24] rfl rfl (by decide) (by decide) (by decide) rfl (fun H1 locs1 _ hP hD hS => ?_)
  clear hFc
  generalize H1 = H, locs1 = locs at hP hS ⊢
  refine lv_aload_n hx hb dL_law_512 rfl (lv_at hl 2 rfl) ?_
  refine lv_aload_n hx hb dL_law_513 rfl (lv_at hl 0 rfl) ?_
  refine lv_iload_n hx hb dL_law_514 rfl (lv_at hl 3 rfl) ?_
  refine lv_iconst (v := 1) hx hb dL_law_515 (by decide) ?_
  refine lv_iadd hx hb dL_law_516 ?_
  refine va_sld hx hb hX hbl hbA hS (wl_in (j := 1) hi hL ⟨rfl, by decide⟩) dL_law_517 ?_
  have hFc := va_free (wc := wcM qb cI cJ cZ r_asked m_text m_typed m_told m_draft m_s m_past m_known m_images m_kept m_notes m_noted m_at m_sort m_start m_value m_steps m_rows m_held) hD hS hA [26, 27, 28, 29, 30, 31, 32, 33, 34, 35, 36, 37] rfl
  refine wq_di (D := (dC, dI)) (v := r) (B := wq_tr) (wr := wcR qa cI cJ cZ r_images r_asked ++ (wcX qa cI cJ cZ x_letters x_size x_place x_fault x_stold ++ (wcN qa cI cJ cZ n_likings n_day n_trust n_ill n_done ++ (wcP qa cI cJ cZ p_befores p_known ++ (wcS qa cI cJ cZ h_tll h_beyond h_minutes h_size ++ (wcO qa cI cJ cZ f2 r2 w2 s2 ++ (wcT qa cI cJ cZ t_tears t_gains t_likings t_settings t_goodbyes t_women ++ (wcD qa cI cJ cZ d_tears d_gains d_likings d_settings d_goodbyes d_women)))))))) (w1 := wcM qb cI cJ cZ r_asked m_text m_typed m_told m_draft m_s m_past m_known m_images m_kept m_notes m_noted m_at m_sort m_start m_value st2 rw2 m_held) (w2 := wcRXNPSOTD qa cI cJ cZ r_images r_asked x_letters x_size x_place x_fault x_stold n_likings n_day n_trust n_ill n_done p_befores p_known h_tll h_beyond h_minutes h_size f2 r2 w2 s2 t_tears t_gains t_likings t_settings t_goodbyes t_women d_tears d_gains d_likings d_settings d_goodbyes d_women ++ wcM qb cI cJ cZ r_asked m_text m_typed m_told m_draft m_s m_past m_known m_images m_kept m_notes m_noted m_at m_sort m_start m_value st2 rw2 m_held) (va_runV (As := [.int (xs (Int32.toNatClampNeg (nI i + 1)))]) (rest := [.int r]) ⟨hx, hb, hml, hown, htL⟩ (C_X7_ways l dC dI cI cJ cZ qb H.size r_asked m_text m_typed m_told m_draft m_s m_past m_known m_images m_kept m_notes m_noted m_at m_sort m_start m_value m_steps m_rows m_held (xs (Int32.toNatClampNeg (nI i + 1))) r st2 rw2 g2) (cwV 1 htL gL_law_X7_ways rfl rfl rfl hdV_X7_ways ⟨Nat.le_of_ble_eq_true rfl, Nat.le_of_ble_eq_true rfl⟩) (wq_pwV hK (hP.sub (ws' := wcM qb cI cJ cZ r_asked m_text m_typed m_told m_draft m_s m_past m_known m_images m_kept m_notes m_noted m_at m_sort m_start m_value m_steps m_rows m_held) [26, 27, 28, 29, 30, 31, 32, 33, 34, 35, 36, 37] rfl) (hD.sub (ws' := wcM qb cI cJ cZ r_asked m_text m_typed m_told m_draft m_s m_past m_known m_images m_kept m_notes m_noted m_at m_sort m_start m_value m_steps m_rows m_held) [26, 27, 28, 29, 30, 31, 32, 33, 34, 35, 36, 37] (by decide) rfl) hE hS hFc (ci := 7) (q0 := 0) rfl rfl) rfl rfl hl.1 rfl (lv_room (Nat.le_of_ble_eq_true rfl)) dL_law_518 ⟨Nat.le_of_ble_eq_true rfl, Nat.le_of_ble_eq_true rfl⟩) hP hD hS hFc [26, 27, 28, 29, 30, 31, 32, 33, 34, 35, 36, 37] [0, 1, 2, 3, 4, 5, 6, 7, 8, 9, 10, 11, 12, 13, 14, 15, 16, 17, 18, 19, 20, 21, 22, 23, 24, 25] [0, 1, 2, 3, 4, 5, 6, 7, 8, 9, 10, 11, 12, 13, 14, 15, 16, 17, 18, 19, 20, 21, 22, 23, 24, 25, 26, 27, 28, 29, 30, 31, 32, 33, 34, 35, 36, 37] rfl rfl (by decide) (by decide) (by decide) rfl (fun H1 locs1 _ hP hD hS => ?_)
  clear hFc
  generalize H1 = H, locs1 = locs at hP hS ⊢
  refine lv_icmp_eq (tgt := 861) hx hb dL_law_521 (by decide) (fun _ => ?_) (fun z => absurd rfl z)
  exact kk H locs ⟨qa, qb, _, _, _, _, _, _, _, _, _, _, _, _, _, _, _, _, _, _, _, _, _, _, _, _, _, _, _, _, _, _, _, _, _, _, _, _, _, _, _, _, _, _, _, _, _, _, _, _, _, _, _, _, ⟨rfl, rfl⟩, hP, hD, rX, rT, rN, rP, rS, rI, nRO⟩ hS
set_option maxHeartbeats 4000000 in
set_option maxRecDepth 100000 in
theorem law_setback (l : Launch) {b L : Nat} {xs : Nat → Int32} (hx : p.tables.exec = Jvm.exec) (hb : c.code = code) (hml : c.maxLocals = 4) (hown : s.vm.findClass RL = some m.cls) (htL : ∀ w ∈ wsL_law, w.before #[Value.ref b] s = true) (hX : va_X b L xs s s.heap) (hbl : b < s.heap.size) {dC : Nat → ClassId} {dI : Nat → Nat → Nat} {cI cJ cZ : ClassId} (hK : va_K (dC, dI) vwCl [(cI, .int), (cJ, .long), (cZ, .boolean)] s) (hE : wq_E (fun q : Nat => s.heap.size ≤ q) s) {x0 m0 : Nat} {H : Heap} {locs : List Loc} {ls : Array Slot} (hI : LI (dC, dI) cI cJ cZ (fun q : Nat => s.heap.size ≤ q) x0 m0 H) (hS : va_S (fun q : Nat => s.heap.size ≤ q) s.heap H locs) {i : Nat} (hi : i + 8 ≤ L) (hL : L ≤ 512) (hl : lv_has ls 4 [(0, .ref b), (1, .ref x0), (2, .ref m0), (3, .int (nI i))]) (kk : ∀ (H1 : Heap) (locs1 : List Loc), LI (dC, dI) cI cJ cZ (fun q : Nat => s.heap.size ≤ q) x0 m0 H1 → va_S (fun q : Nat => s.heap.size ≤ q) s.heap H1 locs1 → W p l e room_1 s m #[Value.ref b] below meth c H1 locs1 38 1808 Q (F0 m 861 ls [])) : W p l e room_1 s m #[Value.ref b] below meth c H locs 38 1808 Q (F0 m 526 ls []) := by
  have hA : ∀ q : Nat, s.heap.size ≤ q → (fun q : Nat => s.heap.size ≤ q) q := fun _ h => h
  have hbA : ¬ (fun q : Nat => s.heap.size ≤ q) b := Nat.not_le.mpr hbl
  obtain ⟨qa, qb, r_images, r_asked, x_letters, x_size, x_place, x_fault, x_stold, n_likings, n_day, n_trust, n_ill, n_done, p_befores, p_known, h_tll, h_beyond, h_minutes, h_size, o_fewest, o_rows, o_first, o_stands, t_tears, t_gains, t_likings, t_settings, t_goodbyes, t_women, d_tears, d_gains, d_likings, d_settings, d_goodbyes, d_women, m_text, m_typed, m_told, m_draft, m_s, m_past, m_known, m_images, m_kept, m_notes, m_noted, m_at, m_sort, m_start, m_value, m_steps, m_rows, m_held, ⟨e1, e2⟩, hP, hD, rX, rT, rN, rP, rS, rI, rO⟩ := hI
  subst e1
  subst e2
  obtain ⟨r, f2, r2, w2, s2, ms2, st2, rw2, h2, g1, g2, nRO, nRN⟩ := P_setback rT rN rO m_steps m_rows m_held (xs (Int32.toNatClampNeg (nI i + 1))) (xs (Int32.toNatClampNeg (nI i + 2))) (xs (Int32.toNatClampNeg (nI i + 3)))
  refine lv_aload_n hx hb dL_law_526 rfl (lv_at hl 1 rfl) ?_
  refine lv_aload_n hx hb dL_law_527 rfl (lv_at hl 0 rfl) ?_
  refine lv_iload_n hx hb dL_law_528 rfl (lv_at hl 3 rfl) ?_
  refine lv_iconst (v := 1) hx hb dL_law_529 (by decide) ?_
  refine lv_iadd hx hb dL_law_530 ?_
  refine va_sld hx hb hX hbl hbA hS (wl_in (j := 1) hi hL ⟨rfl, by decide⟩) dL_law_531 ?_
  refine lv_aload_n hx hb dL_law_532 rfl (lv_at hl 0 rfl) ?_
  refine lv_iload_n hx hb dL_law_533 rfl (lv_at hl 3 rfl) ?_
  refine lv_iconst (v := 2) hx hb dL_law_534 (by decide) ?_
  refine lv_iadd hx hb dL_law_535 ?_
  refine va_sld hx hb hX hbl hbA hS (wl_in (j := 2) hi hL ⟨rfl, by decide⟩) dL_law_536 ?_
  refine lv_aload_n hx hb dL_law_537 rfl (lv_at hl 0 rfl) ?_
  refine lv_iload_n hx hb dL_law_538 rfl (lv_at hl 3 rfl) ?_
  refine lv_iconst (v := 3) hx hb dL_law_539 (by decide) ?_
  refine lv_iadd hx hb dL_law_540 ?_
  refine va_sld hx hb hX hbl hbA hS (wl_in (j := 3) hi hL ⟨rfl, by decide⟩) dL_law_541 ?_
  have hFc := va_free (wc := wcRNOT qa cI cJ cZ r_images r_asked n_likings n_day n_trust n_ill n_done o_fewest o_rows o_first o_stands t_tears t_gains t_likings t_settings t_goodbyes t_women) hD hS hA [0, 1, 4, 5, 12, 13, 14, 15, 16, 17, 18, 19, 20] rfl
  refine wq_di (D := (dC, dI)) (v := r) (B := wq_tr) (wr := wcX qa cI cJ cZ x_letters x_size x_place x_fault x_stold ++ (wcP qa cI cJ cZ p_befores p_known ++ (wcS qa cI cJ cZ h_tll h_beyond h_minutes h_size ++ (wcD qa cI cJ cZ d_tears d_gains d_likings d_settings d_goodbyes d_women ++ (wcM qb cI cJ cZ r_asked m_text m_typed m_told m_draft m_s m_past m_known m_images m_kept m_notes m_noted m_at m_sort m_start m_value m_steps m_rows m_held))))) (w1 := wcRNOT qa cI cJ cZ r_images r_asked n_likings n_day n_trust n_ill n_done f2 r2 w2 s2 t_tears t_gains t_likings t_settings t_goodbyes t_women) (w2 := wcRXNPSOTD qa cI cJ cZ r_images r_asked x_letters x_size x_place x_fault x_stold n_likings n_day n_trust n_ill n_done p_befores p_known h_tll h_beyond h_minutes h_size f2 r2 w2 s2 t_tears t_gains t_likings t_settings t_goodbyes t_women d_tears d_gains d_likings d_settings d_goodbyes d_women ++ wcM qb cI cJ cZ r_asked m_text m_typed m_told m_draft m_s m_past m_known m_images m_kept m_notes m_noted m_at m_sort m_start m_value m_steps m_rows m_held) (va_runV (As := [.int (xs (Int32.toNatClampNeg (nI i + 1))), .int (xs (Int32.toNatClampNeg (nI i + 2))), .int (xs (Int32.toNatClampNeg (nI i + 3)))]) (rest := []) ⟨hx, hb, hml, hown, htL⟩ (C_X6_setback l dC dI cI cJ cZ qa H.size r_images r_asked n_likings n_day n_trust n_ill n_done o_fewest o_rows o_first o_stands t_tears t_gains t_likings t_settings t_goodbyes t_women (xs (Int32.toNatClampNeg (nI i + 1))) (xs (Int32.toNatClampNeg (nI i + 2))) (xs (Int32.toNatClampNeg (nI i + 3))) r f2 r2 w2 s2 g1) (cwV 3 htL gL_law_X6_setback rfl rfl rfl hdV_X6_setback ⟨Nat.le_of_ble_eq_true rfl, Nat.le_of_ble_eq_true rfl⟩) (wq_pwV hK (hP.sub (ws' := wcRNOT qa cI cJ cZ r_images r_asked n_likings n_day n_trust n_ill n_done o_fewest o_rows o_first o_stands t_tears t_gains t_likings t_settings t_goodbyes t_women) [0, 1, 4, 5, 12, 13, 14, 15, 16, 17, 18, 19, 20] rfl) (hD.sub (ws' := wcRNOT qa cI cJ cZ r_images r_asked n_likings n_day n_trust n_ill n_done o_fewest o_rows o_first o_stands t_tears t_gains t_likings t_settings t_goodbyes t_women) [0, 1, 4, 5, 12, 13, 14, 15, 16, 17, 18, 19, 20] (by decide) rfl) hE hS hFc (ci := 6) (q0 := 0) rfl rfl) rfl rfl hl.1 rfl (lv_room (Nat.le_of_ble_eq_true rfl)) dL_law_542 ⟨Nat.le_of_ble_eq_true rfl, Nat.le_of_ble_eq_true rfl⟩) hP hD hS hFc [0, 1, 4, 5, 12, 13, 14, 15, 16, 17, 18, 19, 20] [2, 3, 6, 7, 8, 9, 10, 11, 21, 22, 23, 24, 25, 26, 27, 28, 29, 30, 31, 32, 33, 34, 35, 36, 37] [25, 26, 0, 1, 27, 28, 2, 3, 4, 5, 6, 7, 29, 30, 31, 32, 33, 34, 35, 36, 37, 8, 9, 10, 11, 12, 13, 14, 15, 16, 17, 18, 19, 20, 21, 22, 23, 24] rfl rfl (by decide) (by decide) (by decide) rfl (fun H1 locs1 _ hP hD hS => ?_)
  clear hFc
  generalize H1 = H, locs1 = locs at hP hS ⊢
  refine lv_aload_n hx hb dL_law_545 rfl (lv_at hl 2 rfl) ?_
  refine lv_aload_n hx hb dL_law_546 rfl (lv_at hl 0 rfl) ?_
  refine lv_iload_n hx hb dL_law_547 rfl (lv_at hl 3 rfl) ?_
  refine lv_iconst (v := 1) hx hb dL_law_548 (by decide) ?_
  refine lv_iadd hx hb dL_law_549 ?_
  refine va_sld hx hb hX hbl hbA hS (wl_in (j := 1) hi hL ⟨rfl, by decide⟩) dL_law_550 ?_
  refine lv_aload_n hx hb dL_law_551 rfl (lv_at hl 0 rfl) ?_
  refine lv_iload_n hx hb dL_law_552 rfl (lv_at hl 3 rfl) ?_
  refine lv_iconst (v := 2) hx hb dL_law_553 (by decide) ?_
  refine lv_iadd hx hb dL_law_554 ?_
  refine va_sld hx hb hX hbl hbA hS (wl_in (j := 2) hi hL ⟨rfl, by decide⟩) dL_law_555 ?_
  refine lv_aload_n hx hb dL_law_556 rfl (lv_at hl 0 rfl) ?_
  refine lv_iload_n hx hb dL_law_557 rfl (lv_at hl 3 rfl) ?_
  refine lv_iconst (v := 3) hx hb dL_law_558 (by decide) ?_
  refine lv_iadd hx hb dL_law_559 ?_
  refine va_sld hx hb hX hbl hbA hS (wl_in (j := 3) hi hL ⟨rfl, by decide⟩) dL_law_560 ?_
  have hFc := va_free (wc := wcM qb cI cJ cZ r_asked m_text m_typed m_told m_draft m_s m_past m_known m_images m_kept m_notes m_noted m_at m_sort m_start m_value m_steps m_rows m_held) hD hS hA [26, 27, 28, 29, 30, 31, 32, 33, 34, 35, 36, 37] rfl
  refine wq_di (D := (dC, dI)) (v := r) (B := wq_tr) (wr := wcR qa cI cJ cZ r_images r_asked ++ (wcX qa cI cJ cZ x_letters x_size x_place x_fault x_stold ++ (wcN qa cI cJ cZ n_likings n_day n_trust n_ill n_done ++ (wcP qa cI cJ cZ p_befores p_known ++ (wcS qa cI cJ cZ h_tll h_beyond h_minutes h_size ++ (wcO qa cI cJ cZ f2 r2 w2 s2 ++ (wcT qa cI cJ cZ t_tears t_gains t_likings t_settings t_goodbyes t_women ++ (wcD qa cI cJ cZ d_tears d_gains d_likings d_settings d_goodbyes d_women)))))))) (w1 := wcM qb cI cJ cZ r_asked m_text m_typed m_told m_draft ms2 m_past m_known m_images m_kept m_notes m_noted m_at m_sort m_start m_value st2 rw2 h2) (w2 := wcRXNPSOTD qa cI cJ cZ r_images r_asked x_letters x_size x_place x_fault x_stold n_likings n_day n_trust n_ill n_done p_befores p_known h_tll h_beyond h_minutes h_size f2 r2 w2 s2 t_tears t_gains t_likings t_settings t_goodbyes t_women d_tears d_gains d_likings d_settings d_goodbyes d_women ++ wcM qb cI cJ cZ r_asked m_text m_typed m_told m_draft ms2 m_past m_known m_images m_kept m_notes m_noted m_at m_sort m_start m_value st2 rw2 h2) (va_runV (As := [.int (xs (Int32.toNatClampNeg (nI i + 1))), .int (xs (Int32.toNatClampNeg (nI i + 2))), .int (xs (Int32.toNatClampNeg (nI i + 3)))]) (rest := [.int r]) ⟨hx, hb, hml, hown, htL⟩ (C_X7_setback l dC dI cI cJ cZ qb H.size r_asked m_text m_typed m_told m_draft m_s m_past m_known m_images m_kept m_notes m_noted m_at m_sort m_start m_value m_steps m_rows m_held (xs (Int32.toNatClampNeg (nI i + 1))) (xs (Int32.toNatClampNeg (nI i + 2))) (xs (Int32.toNatClampNeg (nI i + 3))) r ms2 st2 rw2 h2 g2) (cwV 3 htL gL_law_X7_setback rfl rfl rfl hdV_X7_setback ⟨Nat.le_of_ble_eq_true rfl, Nat.le_of_ble_eq_true rfl⟩) (wq_pwV hK (hP.sub (ws' := wcM qb cI cJ cZ r_asked m_text m_typed m_told m_draft m_s m_past m_known m_images m_kept m_notes m_noted m_at m_sort m_start m_value m_steps m_rows m_held) [26, 27, 28, 29, 30, 31, 32, 33, 34, 35, 36, 37] rfl) (hD.sub (ws' := wcM qb cI cJ cZ r_asked m_text m_typed m_told m_draft m_s m_past m_known m_images m_kept m_notes m_noted m_at m_sort m_start m_value m_steps m_rows m_held) [26, 27, 28, 29, 30, 31, 32, 33, 34, 35, 36, 37] (by decide) rfl) hE hS hFc (ci := 7) (q0 := 0) rfl rfl) rfl rfl hl.1 rfl (lv_room (Nat.le_of_ble_eq_true rfl)) dL_law_561 ⟨Nat.le_of_ble_eq_true rfl, Nat.le_of_ble_eq_true rfl⟩) hP hD hS hFc [26, 27, 28, 29, 30, 31, 32, 33, 34, 35, 36, 37] [0, 1, 2, 3, 4, 5, 6, 7, 8, 9, 10, 11, 12, 13, 14, 15, 16, 17, 18, 19, 20, 21, 22, 23, 24, 25] [0, 1, 2, 3, 4, 5, 6, 7, 8, 9, 10, 11, 12, 13, 14, 15, 16, 17, 18, 19, 20, 21, 22, 23, 24, 25, 26, 27, 28, 29, 30, 31, 32, 33, 34, 35, 36, 37] rfl rfl (by decide) (by decide) (by decide) rfl (fun H1 locs1 _ hP hD hS => ?_)
  clear hFc
  generalize H1 = H, locs1 = locs at hP hS ⊢
  refine lv_icmp_eq (tgt := 861) hx hb dL_law_564 (by decide) (fun _ => ?_) (fun z => absurd rfl z)
  exact kk H locs ⟨qa, qb, _, _, _, _, _, _, _, _, _, _, _, _, _, _, _, _, _, _, _, _, _, _, _, _, _, _, _, _, _, _, _, _, _, _, _, _, _, _, _, _, _, _, _, _, _, _, _, _, _, _, _, _, ⟨rfl, rfl⟩, hP, hD, rX, rT, nRN, rP, rS, rI, nRO⟩ hS
set_option maxHeartbeats 4000000 in
set_option maxRecDepth 100000 in
theorem law_odds (l : Launch) {b L : Nat} {xs : Nat → Int32} (hx : p.tables.exec = Jvm.exec) (hb : c.code = code) (hml : c.maxLocals = 4) (hown : s.vm.findClass RL = some m.cls) (htL : ∀ w ∈ wsL_law, w.before #[Value.ref b] s = true) (hX : va_X b L xs s s.heap) (hbl : b < s.heap.size) {dC : Nat → ClassId} {dI : Nat → Nat → Nat} {cI cJ cZ : ClassId} (hK : va_K (dC, dI) vwCl [(cI, .int), (cJ, .long), (cZ, .boolean)] s) (hE : wq_E (fun q : Nat => s.heap.size ≤ q) s) {x0 m0 : Nat} {H : Heap} {locs : List Loc} {ls : Array Slot} (hI : LI (dC, dI) cI cJ cZ (fun q : Nat => s.heap.size ≤ q) x0 m0 H) (hS : va_S (fun q : Nat => s.heap.size ≤ q) s.heap H locs) {i : Nat} (hi : i + 8 ≤ L) (hL : L ≤ 512) (hl : lv_has ls 4 [(0, .ref b), (1, .ref x0), (2, .ref m0), (3, .int (nI i))]) (kk : ∀ (H1 : Heap) (locs1 : List Loc), LI (dC, dI) cI cJ cZ (fun q : Nat => s.heap.size ≤ q) x0 m0 H1 → va_S (fun q : Nat => s.heap.size ≤ q) s.heap H1 locs1 → W p l e room_1 s m #[Value.ref b] below meth c H1 locs1 38 1808 Q (F0 m 861 ls [])) : W p l e room_1 s m #[Value.ref b] below meth c H locs 38 1808 Q (F0 m 569 ls []) := by
  have hA : ∀ q : Nat, s.heap.size ≤ q → (fun q : Nat => s.heap.size ≤ q) q := fun _ h => h
  have hbA : ¬ (fun q : Nat => s.heap.size ≤ q) b := Nat.not_le.mpr hbl
  obtain ⟨qa, qb, r_images, r_asked, x_letters, x_size, x_place, x_fault, x_stold, n_likings, n_day, n_trust, n_ill, n_done, p_befores, p_known, h_tll, h_beyond, h_minutes, h_size, o_fewest, o_rows, o_first, o_stands, t_tears, t_gains, t_likings, t_settings, t_goodbyes, t_women, d_tears, d_gains, d_likings, d_settings, d_goodbyes, d_women, m_text, m_typed, m_told, m_draft, m_s, m_past, m_known, m_images, m_kept, m_notes, m_noted, m_at, m_sort, m_start, m_value, m_steps, m_rows, m_held, ⟨e1, e2⟩, hP, hD, rX, rT, rN, rP, rS, rI, rO⟩ := hI
  subst e1
  subst e2
  obtain ⟨r, s2, h2, g1, g2, nRN⟩ := P_odds rT rN m_held (xs (Int32.toNatClampNeg (nI i + 1))) (xs (Int32.toNatClampNeg (nI i + 2))) (xs (Int32.toNatClampNeg (nI i + 3))) (xs (Int32.toNatClampNeg (nI i + 4))) (xs (Int32.toNatClampNeg (nI i + 5))) (xs (Int32.toNatClampNeg (nI i + 6))) (xs (Int32.toNatClampNeg (nI i + 7)))
  refine lv_aload_n hx hb dL_law_569 rfl (lv_at hl 1 rfl) ?_
  refine lv_aload_n hx hb dL_law_570 rfl (lv_at hl 0 rfl) ?_
  refine lv_iload_n hx hb dL_law_571 rfl (lv_at hl 3 rfl) ?_
  refine lv_iconst (v := 1) hx hb dL_law_572 (by decide) ?_
  refine lv_iadd hx hb dL_law_573 ?_
  refine va_sld hx hb hX hbl hbA hS (wl_in (j := 1) hi hL ⟨rfl, by decide⟩) dL_law_574 ?_
  refine lv_aload_n hx hb dL_law_575 rfl (lv_at hl 0 rfl) ?_
  refine lv_iload_n hx hb dL_law_576 rfl (lv_at hl 3 rfl) ?_
  refine lv_iconst (v := 2) hx hb dL_law_577 (by decide) ?_
  refine lv_iadd hx hb dL_law_578 ?_
  refine va_sld hx hb hX hbl hbA hS (wl_in (j := 2) hi hL ⟨rfl, by decide⟩) dL_law_579 ?_
  refine lv_aload_n hx hb dL_law_580 rfl (lv_at hl 0 rfl) ?_
  refine lv_iload_n hx hb dL_law_581 rfl (lv_at hl 3 rfl) ?_
  refine lv_iconst (v := 3) hx hb dL_law_582 (by decide) ?_
  refine lv_iadd hx hb dL_law_583 ?_
  refine va_sld hx hb hX hbl hbA hS (wl_in (j := 3) hi hL ⟨rfl, by decide⟩) dL_law_584 ?_
  refine lv_aload_n hx hb dL_law_585 rfl (lv_at hl 0 rfl) ?_
  refine lv_iload_n hx hb dL_law_586 rfl (lv_at hl 3 rfl) ?_
  refine lv_iconst (v := 4) hx hb dL_law_587 (by decide) ?_
  refine lv_iadd hx hb dL_law_588 ?_
  refine va_sld hx hb hX hbl hbA hS (wl_in (j := 4) hi hL ⟨rfl, by decide⟩) dL_law_589 ?_
  refine lv_aload_n hx hb dL_law_590 rfl (lv_at hl 0 rfl) ?_
  refine lv_iload_n hx hb dL_law_591 rfl (lv_at hl 3 rfl) ?_
  refine lv_iconst (v := 5) hx hb dL_law_592 (by decide) ?_
  refine lv_iadd hx hb dL_law_593 ?_
  refine va_sld hx hb hX hbl hbA hS (wl_in (j := 5) hi hL ⟨rfl, by decide⟩) dL_law_594 ?_
  refine lv_aload_n hx hb dL_law_595 rfl (lv_at hl 0 rfl) ?_
  refine lv_iload_n hx hb dL_law_596 rfl (lv_at hl 3 rfl) ?_
  refine lv_bipush (v := 6) hx hb dL_law_597 (by decide) ?_
  refine lv_iadd hx hb dL_law_599 ?_
  refine va_sld hx hb hX hbl hbA hS (wl_in (j := 6) hi hL ⟨rfl, by decide⟩) dL_law_600 ?_
  refine lv_aload_n hx hb dL_law_601 rfl (lv_at hl 0 rfl) ?_
  refine lv_iload_n hx hb dL_law_602 rfl (lv_at hl 3 rfl) ?_
  refine lv_bipush (v := 7) hx hb dL_law_603 (by decide) ?_
  refine lv_iadd hx hb dL_law_605 ?_
  refine va_sld hx hb hX hbl hbA hS (wl_in (j := 7) hi hL ⟨rfl, by decide⟩) dL_law_606 ?_
  refine wq_ci (v := r) (B := wq_tr) (va_runV (As := [.int (xs (Int32.toNatClampNeg (nI i + 1))), .int (xs (Int32.toNatClampNeg (nI i + 2))), .int (xs (Int32.toNatClampNeg (nI i + 3))), .int (xs (Int32.toNatClampNeg (nI i + 4))), .int (xs (Int32.toNatClampNeg (nI i + 5))), .int (xs (Int32.toNatClampNeg (nI i + 6))), .int (xs (Int32.toNatClampNeg (nI i + 7)))]) (rest := []) ⟨hx, hb, hml, hown, htL⟩ (C_X6_odds l dC dI cI cJ cZ qa H.size r_images r_asked n_likings n_day n_trust n_ill n_done t_tears t_gains t_likings t_settings t_goodbyes t_women (xs (Int32.toNatClampNeg (nI i + 1))) (xs (Int32.toNatClampNeg (nI i + 2))) (xs (Int32.toNatClampNeg (nI i + 3))) (xs (Int32.toNatClampNeg (nI i + 4))) (xs (Int32.toNatClampNeg (nI i + 5))) (xs (Int32.toNatClampNeg (nI i + 6))) (xs (Int32.toNatClampNeg (nI i + 7))) r g1) (cwV 7 htL gL_law_X6_odds rfl rfl rfl hdV_X6_odds ⟨Nat.le_of_ble_eq_true rfl, Nat.le_of_ble_eq_true rfl⟩) (wq_ppV hK (hP.sub (ws' := wcRNT qa cI cJ cZ r_images r_asked n_likings n_day n_trust n_ill n_done t_tears t_gains t_likings t_settings t_goodbyes t_women) [0, 1, 4, 5, 16, 17, 18, 19, 20] rfl) hE hS hA (ci := 6) (q0 := 0) rfl rfl) rfl rfl hl.1 rfl (lv_room (Nat.le_of_ble_eq_true rfl)) dL_law_607 ⟨Nat.le_of_ble_eq_true rfl, Nat.le_of_ble_eq_true rfl⟩) hS hA (fun H1 locs1 _ hk hS => ?_)
  replace hP := wq_kp hP hk
  clear hk
  generalize H1 = H, locs1 = locs at hP hS ⊢
  refine lv_aload_n hx hb dL_law_610 rfl (lv_at hl 2 rfl) ?_
  refine lv_aload_n hx hb dL_law_611 rfl (lv_at hl 0 rfl) ?_
  refine lv_iload_n hx hb dL_law_612 rfl (lv_at hl 3 rfl) ?_
  refine lv_iconst (v := 1) hx hb dL_law_613 (by decide) ?_
  refine lv_iadd hx hb dL_law_614 ?_
  refine va_sld hx hb hX hbl hbA hS (wl_in (j := 1) hi hL ⟨rfl, by decide⟩) dL_law_615 ?_
  refine lv_aload_n hx hb dL_law_616 rfl (lv_at hl 0 rfl) ?_
  refine lv_iload_n hx hb dL_law_617 rfl (lv_at hl 3 rfl) ?_
  refine lv_iconst (v := 2) hx hb dL_law_618 (by decide) ?_
  refine lv_iadd hx hb dL_law_619 ?_
  refine va_sld hx hb hX hbl hbA hS (wl_in (j := 2) hi hL ⟨rfl, by decide⟩) dL_law_620 ?_
  refine lv_aload_n hx hb dL_law_621 rfl (lv_at hl 0 rfl) ?_
  refine lv_iload_n hx hb dL_law_622 rfl (lv_at hl 3 rfl) ?_
  refine lv_iconst (v := 3) hx hb dL_law_623 (by decide) ?_
  refine lv_iadd hx hb dL_law_624 ?_
  refine va_sld hx hb hX hbl hbA hS (wl_in (j := 3) hi hL ⟨rfl, by decide⟩) dL_law_625 ?_
  refine lv_aload_n hx hb dL_law_626 rfl (lv_at hl 0 rfl) ?_
  refine lv_iload_n hx hb dL_law_627 rfl (lv_at hl 3 rfl) ?_
  refine lv_iconst (v := 4) hx hb dL_law_628 (by decide) ?_
  refine lv_iadd hx hb dL_law_629 ?_
  refine va_sld hx hb hX hbl hbA hS (wl_in (j := 4) hi hL ⟨rfl, by decide⟩) dL_law_630 ?_
  refine lv_aload_n hx hb dL_law_631 rfl (lv_at hl 0 rfl) ?_
  refine lv_iload_n hx hb dL_law_632 rfl (lv_at hl 3 rfl) ?_
  refine lv_iconst (v := 5) hx hb dL_law_633 (by decide) ?_
  refine lv_iadd hx hb dL_law_634 ?_
  refine va_sld hx hb hX hbl hbA hS (wl_in (j := 5) hi hL ⟨rfl, by decide⟩) dL_law_635 ?_
  refine lv_aload_n hx hb dL_law_636 rfl (lv_at hl 0 rfl) ?_
  refine lv_iload_n hx hb dL_law_637 rfl (lv_at hl 3 rfl) ?_
  refine lv_bipush (v := 6) hx hb dL_law_638 (by decide) ?_
  refine lv_iadd hx hb dL_law_640 ?_
  refine va_sld hx hb hX hbl hbA hS (wl_in (j := 6) hi hL ⟨rfl, by decide⟩) dL_law_641 ?_
  refine lv_aload_n hx hb dL_law_642 rfl (lv_at hl 0 rfl) ?_
  refine lv_iload_n hx hb dL_law_643 rfl (lv_at hl 3 rfl) ?_
  refine lv_bipush (v := 7) hx hb dL_law_644 (by decide) ?_
  refine lv_iadd hx hb dL_law_646 ?_
  refine va_sld hx hb hX hbl hbA hS (wl_in (j := 7) hi hL ⟨rfl, by decide⟩) dL_law_647 ?_
  have hFc := va_free (wc := wcM qb cI cJ cZ r_asked m_text m_typed m_told m_draft m_s m_past m_known m_images m_kept m_notes m_noted m_at m_sort m_start m_value m_steps m_rows m_held) hD hS hA [26, 27, 28, 29, 30, 31, 32, 33, 34, 35, 36, 37] rfl
  refine wq_di (D := (dC, dI)) (v := r) (B := wq_tr) (wr := wcR qa cI cJ cZ r_images r_asked ++ (wcX qa cI cJ cZ x_letters x_size x_place x_fault x_stold ++ (wcN qa cI cJ cZ n_likings n_day n_trust n_ill n_done ++ (wcP qa cI cJ cZ p_befores p_known ++ (wcS qa cI cJ cZ h_tll h_beyond h_minutes h_size ++ (wcO qa cI cJ cZ o_fewest o_rows o_first o_stands ++ (wcT qa cI cJ cZ t_tears t_gains t_likings t_settings t_goodbyes t_women ++ (wcD qa cI cJ cZ d_tears d_gains d_likings d_settings d_goodbyes d_women)))))))) (w1 := wcM qb cI cJ cZ r_asked m_text m_typed m_told m_draft s2 m_past m_known m_images m_kept m_notes m_noted m_at m_sort m_start m_value m_steps m_rows h2) (w2 := wcRXNPSOTD qa cI cJ cZ r_images r_asked x_letters x_size x_place x_fault x_stold n_likings n_day n_trust n_ill n_done p_befores p_known h_tll h_beyond h_minutes h_size o_fewest o_rows o_first o_stands t_tears t_gains t_likings t_settings t_goodbyes t_women d_tears d_gains d_likings d_settings d_goodbyes d_women ++ wcM qb cI cJ cZ r_asked m_text m_typed m_told m_draft s2 m_past m_known m_images m_kept m_notes m_noted m_at m_sort m_start m_value m_steps m_rows h2) (va_runV (As := [.int (xs (Int32.toNatClampNeg (nI i + 1))), .int (xs (Int32.toNatClampNeg (nI i + 2))), .int (xs (Int32.toNatClampNeg (nI i + 3))), .int (xs (Int32.toNatClampNeg (nI i + 4))), .int (xs (Int32.toNatClampNeg (nI i + 5))), .int (xs (Int32.toNatClampNeg (nI i + 6))), .int (xs (Int32.toNatClampNeg (nI i + 7)))]) (rest := [.int r]) ⟨hx, hb, hml, hown, htL⟩ (C_X7_odds l dC dI cI cJ cZ qb H.size r_asked m_text m_typed m_told m_draft m_s m_past m_known m_images m_kept m_notes m_noted m_at m_sort m_start m_value m_steps m_rows m_held (xs (Int32.toNatClampNeg (nI i + 1))) (xs (Int32.toNatClampNeg (nI i + 2))) (xs (Int32.toNatClampNeg (nI i + 3))) (xs (Int32.toNatClampNeg (nI i + 4))) (xs (Int32.toNatClampNeg (nI i + 5))) (xs (Int32.toNatClampNeg (nI i + 6))) (xs (Int32.toNatClampNeg (nI i + 7))) r s2 h2 g2) (cwV 7 htL gL_law_X7_odds rfl rfl rfl hdV_X7_odds ⟨Nat.le_of_ble_eq_true rfl, Nat.le_of_ble_eq_true rfl⟩) (wq_pwV hK (hP.sub (ws' := wcM qb cI cJ cZ r_asked m_text m_typed m_told m_draft m_s m_past m_known m_images m_kept m_notes m_noted m_at m_sort m_start m_value m_steps m_rows m_held) [26, 27, 28, 29, 30, 31, 32, 33, 34, 35, 36, 37] rfl) (hD.sub (ws' := wcM qb cI cJ cZ r_asked m_text m_typed m_told m_draft m_s m_past m_known m_images m_kept m_notes m_noted m_at m_sort m_start m_value m_steps m_rows m_held) [26, 27, 28, 29, 30, 31, 32, 33, 34, 35, 36, 37] (by decide) rfl) hE hS hFc (ci := 7) (q0 := 0) rfl rfl) rfl rfl hl.1 rfl (lv_room (Nat.le_of_ble_eq_true rfl)) dL_law_648 ⟨Nat.le_of_ble_eq_true rfl, Nat.le_of_ble_eq_true rfl⟩) hP hD hS hFc [26, 27, 28, 29, 30, 31, 32, 33, 34, 35, 36, 37] [0, 1, 2, 3, 4, 5, 6, 7, 8, 9, 10, 11, 12, 13, 14, 15, 16, 17, 18, 19, 20, 21, 22, 23, 24, 25] [0, 1, 2, 3, 4, 5, 6, 7, 8, 9, 10, 11, 12, 13, 14, 15, 16, 17, 18, 19, 20, 21, 22, 23, 24, 25, 26, 27, 28, 29, 30, 31, 32, 33, 34, 35, 36, 37] rfl rfl (by decide) (by decide) (by decide) rfl (fun H1 locs1 _ hP hD hS => ?_)
  clear hFc
  generalize H1 = H, locs1 = locs at hP hS ⊢
  refine lv_icmp_eq (tgt := 861) hx hb dL_law_651 (by decide) (fun _ => ?_) (fun z => absurd rfl z)
  exact kk H locs ⟨qa, qb, _, _, _, _, _, _, _, _, _, _, _, _, _, _, _, _, _, _, _, _, _, _, _, _, _, _, _, _, _, _, _, _, _, _, _, _, _, _, _, _, _, _, _, _, _, _, _, _, _, _, _, _, ⟨rfl, rfl⟩, hP, hD, rX, rT, nRN, rP, rS, rI, rO⟩ hS
end LW
