set_option maxHeartbeats 4000000 in
set_option maxRecDepth 100000 in
/-- THE LAW, from its entry -/
theorem whole_start {p : Program} {e : Env} {s : State} {m : MethodId} {below : List Frame} {meth : Method} {c : Code} (l : Launch) {b L : Nat} {xs : Nat → Int32} (hL : L ≤ 512) (C0 : lw_At p s m meth c b L xs) : W p l e room_1 s m #[Value.ref b] below meth c s.heap [] 0 0 (lw_Z below #[Value.ref b] s) (entryFrame m ([Value.ref b] : List Value).toArray 4) := by
  obtain ⟨hx, hb, hr, hml, hown, hts, hX, hbl, hlocks, hgv⟩ := id C0
  have htL : ∀ w ∈ wsL_law, w.before #[Value.ref b] s = true := fun w h => hts w (wsL_law_in w h)
  have hA : ∀ q : Nat, s.heap.size ≤ q → (fun q : Nat => s.heap.size ≤ q) q := fun _ h => h
  obtain ⟨hE, hF⟩ := wl_E (A := fun q : Nat => s.heap.size ≤ q) hts hgv (fun q h => Nat.not_le.mpr h)
  obtain ⟨dC, dI, cI, cJ, cZ, hK⟩ := wl_K hts
  have hS : va_S (fun q : Nat => s.heap.size ≤ q) s.heap s.heap [] := va_S.rf
  have hP : va_P (dC, dI) vwCl [] s.heap := fun k q h => by simp at h
  have hD : va_D (fun q : Nat => s.heap.size ≤ q) [] := ⟨fun i j p q h => by simp at h, fun k q h => by simp at h⟩
  have hl := lv_entry ([.ref b]) (n := 4) (Nat.le_of_ble_eq_true rfl)
  rw [lg_entry_eq]
  generalize (lg_sl ([.ref b]) ++ List.replicate (4 - (lg_sl ([.ref b])).length) Slot.unset).toArray = ls at hl ⊢
  have hl : lv_has ls 4 [(0, .ref b)] := hl
  refine va_new (ci := 6) (fs := [.null, .null, .null, .null, .null, .null, .null, .null, .long 0]) (C := RX6) (T := TX6) (N := 9) hx hb hts inX6 tyX6 tyX6_ok hown (hts (.classLink RL 7 RX6) (by decide +kernel)) (hts (.instantiable RX6 9) (by decide +kernel)) (hts (.initialized RX6) (by decide +kernel)) hK hP hD hS hA rfl (fun j hj => by rcases (show j = 0 ∨ j = 1 ∨ j = 2 ∨ j = 3 ∨ j = 4 ∨ j = 5 ∨ j = 6 ∨ j = 7 ∨ j = 8 by omega) with rfl | rfl | rfl | rfl | rfl | rfl | rfl | rfl | rfl <;> rfl) (Nat.le_of_ble_eq_true rfl) (Nat.le_of_ble_eq_true rfl) dL_law_0 (fun x0 H hP hD hS => ?_)
  replace hP : va_P (dC, dI) vwCl [(x0, .inr (6, [.null, .null, .null, .null, .null, .null, .null, .null, .long 0]))] H := hP
  replace hD : va_D (fun q : Nat => s.heap.size ≤ q) [(x0, .inr (6, [.null, .null, .null, .null, .null, .null, .null, .null, .long 0]))] := hD
  refine W.widen (k := 1) (n := 9) (by omega) (by omega) ?_
  refine lv_dup hx hb dL_law_3 rfl ?_
  have hFc := va_free (wc := [(x0, .inr (6, [.null, .null, .null, .null, .null, .null, .null, .null, .long 0]))]) hD hS hA [0] rfl
  refine wq_ni (D := (dC, dI)) (wc := [(x0, .inr (6, [.null, .null, .null, .null, .null, .null, .null, .null, .long 0]))]) (wr := []) (w1 := (fun u => wcRXNPSOTD u cI cJ cZ (vp_updL (vp_updL (fun _ => 0) 0 (-1)) 1 (-1)) 0 (fun _ => 0) 0 0 0 0 (fun _ => 0) 0 0 0 0 (fun _ => 0) 0 (fun _ => 0) (fun _ => 0) (fun _ => 0) 0 (fun _ => 0) (fun _ => 0) (fun _ => 0) 0 (fun _ => 0) (fun _ => 0) (fun _ => 0) wq_first 0 0 (fun _ => 0) (fun _ => 0) (fun _ => 0) wq_first 0 0)) (k := 0) (b := x0) (mc := 25) (ms := 972) (va_runI (As := []) (rest := [.ref x0]) ⟨hx, hb, hml, hown, htL⟩ (C_X6_init l dC dI cI cJ cZ x0 H.size) (cwI 0 htL gL_law_X6_init rfl rfl rfl (hts (.initialized RX6) (by decide +kernel)) (hts (.methodLink RL 9 yX6_init) (by decide +kernel)) (hts (.instanceMethod yX6_init) (by decide +kernel)) rfl (by decide +kernel) ⟨Nat.le_of_ble_eq_true rfl, Nat.le_of_ble_eq_true rfl⟩) (wq_pxS hK (hP.sub (ws' := [(x0, .inr (6, [.null, .null, .null, .null, .null, .null, .null, .null, .long 0]))]) [0] rfl) (hD.sub (ws' := [(x0, .inr (6, [.null, .null, .null, .null, .null, .null, .null, .null, .long 0]))]) [0] (by decide) rfl) hE hF hS hFc) rfl rfl hl.1 rfl (lv_room (Nat.le_of_ble_eq_true rfl)) dL_law_4 ⟨Nat.le_of_ble_eq_true rfl, Nat.le_of_ble_eq_true rfl⟩) hP hD hS hFc [0] [] rfl rfl (by decide) (by decide) (fun qa H2 locs2 hu hP2 hD2 hS2 => ?_)
  clear hP hD hS hFc
  have hP := hP2
  have hD := hD2
  have hS := hS2
  clear hP2 hD2 hS2
  refine W.widen (k := 26) (n := 981) (by omega) (by omega) ?_
  refine lv_astore_n (lv' := [(1, .ref x0), (0, .ref b)]) hx hb dL_law_7 rfl hl (by decide) rfl (fun ls hl => ?_)
  refine va_new (ci := 7) (fs := [.long 0, .null, .int 0, .null, .null, .null, .null, .int 0, .null, .null, .null, .int 0, .int 0, .int 0, .int 0, .int 0, .null, .null, .null]) (C := RX7) (T := TX7) (N := 19) hx hb hts inX7 tyX7 tyX7_ok hown (hts (.classLink RL 10 RX7) (by decide +kernel)) (hts (.instantiable RX7 19) (by decide +kernel)) (hts (.initialized RX7) (by decide +kernel)) hK hP hD hS hA rfl (fun j hj => by rcases (show j = 0 ∨ j = 1 ∨ j = 2 ∨ j = 3 ∨ j = 4 ∨ j = 5 ∨ j = 6 ∨ j = 7 ∨ j = 8 ∨ j = 9 ∨ j = 10 ∨ j = 11 ∨ j = 12 ∨ j = 13 ∨ j = 14 ∨ j = 15 ∨ j = 16 ∨ j = 17 ∨ j = 18 by omega) with rfl | rfl | rfl | rfl | rfl | rfl | rfl | rfl | rfl | rfl | rfl | rfl | rfl | rfl | rfl | rfl | rfl | rfl | rfl <;> rfl) (Nat.le_of_ble_eq_true rfl) (Nat.le_of_ble_eq_true rfl) dL_law_8 (fun m0 H3 hP2 hD2 hS2 => ?_)
  clear hP hD hS
  have hP := hP2
  have hD := hD2
  have hS := hS2
  clear hP2 hD2 hS2
  refine W.widen (k := 27) (n := 1000) (by omega) (by omega) ?_
  refine lv_dup hx hb dL_law_11 rfl ?_
  obtain ⟨vr, d, a1, a2, a3, a4, t2, s2, gr, gb, hRT, hRN⟩ := wl_new
  have hFc := va_free (wc := [(m0, .inr (7, [.long 0, .null, .int 0, .null, .null, .null, .null, .int 0, .null, .null, .null, .int 0, .int 0, .int 0, .int 0, .int 0, .null, .null, .null]))]) hD hS hA [26] rfl
  refine wq_ni (D := (dC, dI)) (wc := [(m0, .inr (7, [.long 0, .null, .int 0, .null, .null, .null, .null, .int 0, .null, .null, .null, .int 0, .int 0, .int 0, .int 0, .int 0, .null, .null, .null]))]) (wr := wcRXNPSOTD qa cI cJ cZ (vp_updL (vp_updL (fun _ => 0) 0 (-1)) 1 (-1)) 0 (fun _ => 0) 0 0 0 0 (fun _ => 0) 0 0 0 0 (fun _ => 0) 0 (fun _ => 0) (fun _ => 0) (fun _ => 0) 0 (fun _ => 0) (fun _ => 0) (fun _ => 0) 0 (fun _ => 0) (fun _ => 0) (fun _ => 0) wq_first 0 0 (fun _ => 0) (fun _ => 0) (fun _ => 0) wq_first 0 0) (w1 := (fun u => wcM u cI cJ cZ 0 (fun _ => 0) 0 t2 d s2 (fun _ => 0) 0 (fun _ => 0) (upd (upd (fun _ => 0) 0 0) 1 0) (fun _ => 0) 0 a1 a2 a3 a4 (fun _ => 0) (fun _ => 0) (fun _ => 0))) (k := 0) (b := m0) (mc := 11) (ms := 808) (va_runI (As := []) (rest := [.ref m0]) ⟨hx, hb, hml, hown, htL⟩ (C_X7_init l dC dI cI cJ cZ m0 H3.size vr d a1 a2 a3 a4 gr t2 s2 0 (upd (upd (fun _ => 0) 0 0) 1 0) 0 gb) (cwI 0 htL gL_law_X7_init rfl rfl rfl (hts (.initialized RX7) (by decide +kernel)) (hts (.methodLink RL 12 yX7_init) (by decide +kernel)) (hts (.instanceMethod yX7_init) (by decide +kernel)) rfl (by decide +kernel) ⟨Nat.le_of_ble_eq_true rfl, Nat.le_of_ble_eq_true rfl⟩) (wq_pwS hK (hP.sub (ws' := [(m0, .inr (7, [.long 0, .null, .int 0, .null, .null, .null, .null, .int 0, .null, .null, .null, .int 0, .int 0, .int 0, .int 0, .int 0, .null, .null, .null]))]) [26] rfl) (hD.sub (ws' := [(m0, .inr (7, [.long 0, .null, .int 0, .null, .null, .null, .null, .int 0, .null, .null, .null, .int 0, .int 0, .int 0, .int 0, .int 0, .null, .null, .null]))]) [26] (by decide) rfl) hE hS hFc) rfl rfl hl.1 rfl (lv_room (Nat.le_of_ble_eq_true rfl)) dL_law_12 ⟨Nat.le_of_ble_eq_true rfl, Nat.le_of_ble_eq_true rfl⟩) hP hD hS hFc [26] [0, 1, 2, 3, 4, 5, 6, 7, 8, 9, 10, 11, 12, 13, 14, 15, 16, 17, 18, 19, 20, 21, 22, 23, 24, 25] rfl rfl (by decide) (by decide) (fun qb H4 locs4 hu2 hP2 hD2 hS2 => ?_)
  clear hP hD hS hFc
  refine W.widen (k := 38) (n := 1808) (by omega) (by omega) ?_
  refine lv_astore_n (lv' := [(2, .ref m0), (1, .ref x0), (0, .ref b)]) hx hb dL_law_15 rfl hl (by decide) rfl (fun ls hl => ?_)
  refine lv_iconst (v := 0) hx hb dL_law_16 (by decide) ?_
  refine lv_istore_n (lv' := [(3, .int 0), (2, .ref m0), (1, .ref x0), (0, .ref b)]) hx hb dL_law_17 rfl hl (by decide) rfl (fun ls hl => ?_)
  have hI : LI (dC, dI) cI cJ cZ (fun q : Nat => s.heap.size ≤ q) x0 m0 H4 := by
    refine ⟨qa, qb, _, _, _, _, _, _, _, _, _, _, _, _, _, _, _, _, _, _, _, _, _, _, _, _, _, _, _, _, _, _, _, _, _, _, _, _, _, _, _, _, _, _, _, _, _, _, _, _, _, _, _, _, ⟨hu, hu2⟩, hP2, hD2, ⟨rfl, by decide, fun k hk => ?_⟩, hRT, hRN, ⟨rfl, by decide, fun k hk => ?_⟩, ⟨rfl, by decide, fun k hk => ?_⟩, fun k hk => ?_, Or.inl rfl⟩
    · exact absurd hk (by show ¬ ((k : Int) < 0); omega)
    · exact absurd hk (by show ¬ ((k : Int) < 0); omega)
    · exact absurd hk (by show ¬ ((k : Int) < 0); omega)
    · rcases (show k = 0 ∨ k = 1 by omega) with h | h <;> (subst h; exact Or.inl ⟨rfl, rfl⟩)
  exact law_loop l hL C0 htL hK hE (L + 1) 0 H4 locs4 ls (Nat.zero_le L) (by omega) hI hS2 (lv_sub hl [3, 2, 1, 0] rfl)
