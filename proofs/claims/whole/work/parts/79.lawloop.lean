section LP
variable {p : Program} {e : Env} {s : State} {m : MethodId} {below : List Frame} {meth : Method} {c : Code}
theorem wl_lt {i L : Nat} (hi : i ≤ 600) (hL : L ≤ 512) (h : ¬ (Int32.ofNat L - 8) < nI i) : i + 8 ≤ L := by
  have e1 : (Int32.ofNat L).toInt = L := pn_ti (k := L) (by omega)
  have e2 : (Int32.ofNat L - 8).toInt = (L : Int) - 8 := by
    rw [fb_subI (by rw [e1]; simp only [Int32.reduceToInt]; omega) (by rw [e1]; simp only [Int32.reduceToInt]; omega), e1]
    rfl
  rw [pn_lt, e2, pn_ti (by omega)] at h
  omega
set_option maxHeartbeats 4000000 in
set_option maxRecDepth 100000 in
/-- one round of the law's loop -/
theorem law_step (l : Launch) {b L : Nat} {xs : Nat → Int32} (hL : L ≤ 512) (C0 : lw_At p s m meth c b L xs) (htL : ∀ w ∈ wsL_law, w.before #[Value.ref b] s = true) {dC : Nat → ClassId} {dI : Nat → Nat → Nat} {cI cJ cZ : ClassId} (hK : va_K (dC, dI) vwCl [(cI, .int), (cJ, .long), (cZ, .boolean)] s) (hE : wq_E (fun q : Nat => s.heap.size ≤ q) s) {x0 m0 : Nat} {i : Nat} (hi : i ≤ 600) {H : Heap} {locs : List Loc} {ls : Array Slot} (hI : LI (dC, dI) cI cJ cZ (fun q : Nat => s.heap.size ≤ q) x0 m0 H) (hS : va_S (fun q : Nat => s.heap.size ≤ q) s.heap H locs) (hl : lv_has ls 4 [(0, .ref b), (1, .ref x0), (2, .ref m0), (3, .int (nI i))])
    (kk : i + 8 ≤ L → ∀ (H1 : Heap) (locs1 : List Loc) (ls1 : Array Slot), LI (dC, dI) cI cJ cZ (fun q : Nat => s.heap.size ≤ q) x0 m0 H1 → va_S (fun q : Nat => s.heap.size ≤ q) s.heap H1 locs1 → lv_has ls1 4 [(0, .ref b), (1, .ref x0), (2, .ref m0), (3, .int (nI (i + 8)))] → W p l e room_1 s m #[Value.ref b] below meth c H1 locs1 38 1808 (lw_Z below #[Value.ref b] s) (F0 m 18 ls1 [])) : W p l e room_1 s m #[Value.ref b] below meth c H locs 38 1808 (lw_Z below #[Value.ref b] s) (F0 m 18 ls []) := by
  obtain ⟨hx, hb, hr, hml, hown, hts, hX, hbl, hlocks, hgv⟩ := C0
  have hbA : ¬ (fun q : Nat => s.heap.size ≤ q) b := Nat.not_le.mpr hbl
  refine lv_iload_n hx hb dL_law_18 rfl (lv_at hl 3 rfl) ?_
  refine lv_aload_n hx hb dL_law_19 rfl (lv_at hl 0 rfl) ?_
  refine va_slen hx hb hX hbl hbA hS dL_law_20 ?_
  refine lv_bipush (v := 8) hx hb dL_law_21 (by decide) ?_
  refine lv_isub hx hb dL_law_23 ?_
  refine lv_icmp_gt (tgt := 867) hx hb dL_law_24 (by decide) (fun _ => ?_) (fun c1 => ?_)
  · refine lv_iconst (v := 1) hx hb dL_law_867 (by decide) ?_
    refine va_forget (fun q hq => hS.2.2 q hq) ?_
    refine W.widen (k := 600000) (n := 7302250) (by omega) (by omega) ?_
    exact lw_ret hx hb hr hlocks dL_law_868
  · have hi8 : i + 8 ≤ L := wl_lt hi hL c1
    have kk2 : ∀ (H1 : Heap) (locs1 : List Loc), LI (dC, dI) cI cJ cZ (fun q : Nat => s.heap.size ≤ q) x0 m0 H1 → va_S (fun q : Nat => s.heap.size ≤ q) s.heap H1 locs1 → W p l e room_1 s m #[Value.ref b] below meth c H1 locs1 38 1808 (lw_Z below #[Value.ref b] s) (F0 m 861 ls []) := by
      intro H1 locs1 hI1 hS1
      refine lv_iinc (v := nI (i + 8)) (lv' := [(3, .int (nI (i + 8))), (0, .ref b), (1, .ref x0), (2, .ref m0)]) hx hb dL_law_861 hl (k := 3) rfl (by rw [← nI_add]; rfl) (by decide) rfl (fun ls1 hl1 => ?_)
      refine lv_goto (tgt := 18) hx hb dL_law_864 (by decide) ?_
      exact kk hi8 H1 locs1 ls1 hI1 hS1 (lv_sub hl1 [1, 2, 3, 0] rfl)
    refine lv_aload_n hx hb dL_law_27 rfl (lv_at hl 0 rfl) ?_
    refine lv_iload_n hx hb dL_law_28 rfl (lv_at hl 3 rfl) ?_
    refine va_sld hx hb hX hbl hbA hS (vp_in_nI (by omega) (by omega)) dL_law_29 ?_
    refine lv_bipush (v := 31) hx hb dL_law_30 (by decide) ?_
    refine lv_iand hx hb dL_law_32 ?_
    refine lv_topi (fun v _ => ?_)
    by_cases h0 : v.toInt < 0
    · exact lv_tableOut (tgt := 861) hx hb dL_law_33 (Or.inl h0) (by decide) (kk2 H locs hI hS)
    by_cases h1 : 23 < v.toInt
    · exact lv_tableOut (tgt := 861) hx hb dL_law_33 (Or.inr h1) (by decide) (kk2 H locs hI hS)
    rcases (show v.toInt = 0 ∨ v.toInt = 1 ∨ v.toInt = 2 ∨ v.toInt = 3 ∨ v.toInt = 4 ∨ v.toInt = 5 ∨ v.toInt = 6 ∨ v.toInt = 7 ∨ v.toInt = 8 ∨ v.toInt = 9 ∨ v.toInt = 10 ∨ v.toInt = 11 ∨ v.toInt = 12 ∨ v.toInt = 13 ∨ v.toInt = 14 ∨ v.toInt = 15 ∨ v.toInt = 16 ∨ v.toInt = 17 ∨ v.toInt = 18 ∨ v.toInt = 19 ∨ v.toInt = 20 ∨ v.toInt = 21 ∨ v.toInt = 22 ∨ v.toInt = 23 by omega) with q | q | q | q | q | q | q | q | q | q | q | q | q | q | q | q | q | q | q | q | q | q | q | q
    · exact lv_tableIn (off := 111) (tgt := 144) hx hb dL_law_33 h0 h1 (by rw [q]; rfl) (by decide) (law_type l hx hb hml hown htL hX hbl hK hE hI hS hi8 hL hl kk2)
    · exact lv_tableIn (off := 134) (tgt := 167) hx hb dL_law_33 h0 h1 (by rw [q]; rfl) (by decide) (law_clear l hx hb hml hown htL hX hbl hK hE hI hS hi8 hL hl kk2)
    · exact lv_tableIn (off := 147) (tgt := 180) hx hb dL_law_33 h0 h1 (by rw [q]; rfl) (by decide) (law_nursery l hx hb hml hown htL hX hbl hK hE hI hS hi8 hL hl kk2)
    · exact lv_tableIn (off := 160) (tgt := 193) hx hb dL_law_33 h0 h1 (by rw [q]; rfl) (by decide) (law_goodbye l hx hb hml hown htL hX hbl hK hE hI hS hi8 hL hl kk2)
    · exact lv_tableIn (off := 193) (tgt := 226) hx hb dL_law_33 h0 h1 (by rw [q]; rfl) (by decide) (law_woman l hx hb hml hown htL hX hbl hK hE hI hS hi8 hL hl kk2)
    · exact lv_tableIn (off := 226) (tgt := 259) hx hb dL_law_33 h0 h1 (by rw [q]; rfl) (by decide) (law_now l hx hb hml hown htL hX hbl hK hE hI hS hi8 hL hl kk2)
    · exact lv_tableIn (off := 249) (tgt := 282) hx hb dL_law_33 h0 h1 (by rw [q]; rfl) (by decide) (law_morning l hx hb hml hown htL hX hbl hK hE hI hS hi8 hL hl kk2)
    · exact lv_tableIn (off := 292) (tgt := 325) hx hb dL_law_33 h0 h1 (by rw [q]; rfl) (by decide) (law_home l hx hb hml hown htL hX hbl hK hE hI hS hi8 hL hl kk2)
    · exact lv_tableIn (off := 315) (tgt := 348) hx hb dL_law_33 h0 h1 (by rw [q]; rfl) (by decide) (law_falls l hx hb hml hown htL hX hbl hK hE hI hS hi8 hL hl kk2)
    · exact lv_tableIn (off := 348) (tgt := 381) hx hb dL_law_33 h0 h1 (by rw [q]; rfl) (by decide) (law_undo l hx hb hml hown htL hX hbl hK hE hI hS hi8 hL hl kk2)
    · exact lv_tableIn (off := 361) (tgt := 394) hx hb dL_law_33 h0 h1 (by rw [q]; rfl) (by decide) (law_would l hx hb hml hown htL hX hbl hK hE hI hS hi8 hL hl kk2)
    · exact lv_tableIn (off := 404) (tgt := 437) hx hb dL_law_33 h0 h1 (by rw [q]; rfl) (by decide) (law_farthest l hx hb hml hown htL hX hbl hK hE hI hS hi8 hL hl kk2)
    · exact lv_tableIn (off := 437) (tgt := 470) hx hb dL_law_33 h0 h1 (by rw [q]; rfl) (by decide) (law_plan l hx hb hml hown htL hX hbl hK hE hI hS hi8 hL hl kk2)
    · exact lv_tableIn (off := 470) (tgt := 503) hx hb dL_law_33 h0 h1 (by rw [q]; rfl) (by decide) (law_ways l hx hb hml hown htL hX hbl hK hE hI hS hi8 hL hl kk2)
    · exact lv_tableIn (off := 493) (tgt := 526) hx hb dL_law_33 h0 h1 (by rw [q]; rfl) (by decide) (law_setback l hx hb hml hown htL hX hbl hK hE hI hS hi8 hL hl kk2)
    · exact lv_tableIn (off := 536) (tgt := 569) hx hb dL_law_33 h0 h1 (by rw [q]; rfl) (by decide) (law_odds l hx hb hml hown htL hX hbl hK hE hI hS hi8 hL hl kk2)
    · exact lv_tableIn (off := 623) (tgt := 656) hx hb dL_law_33 h0 h1 (by rw [q]; rfl) (by decide) (law_shows l hx hb hml hown htL hX hbl hK hE hI hS hi8 hL hl kk2)
    · exact lv_tableIn (off := 686) (tgt := 719) hx hb dL_law_33 h0 h1 (by rw [q]; rfl) (by decide) (law_forget l hx hb hml hown htL hX hbl hK hE hI hS hi8 hL hl kk2)
    · exact lv_tableIn (off := 699) (tgt := 732) hx hb dL_law_33 h0 h1 (by rw [q]; rfl) (by decide) (law_fits l hx hb hml hown htL hX hbl hK hE hI hS hi8 hL hl kk2)
    · exact lv_tableIn (off := 712) (tgt := 745) hx hb dL_law_33 h0 h1 (by rw [q]; rfl) (by decide) (law_rate l hx hb hml hown htL hX hbl hK hE hI hS hi8 hL hl kk2)
    · exact lv_tableIn (off := 745) (tgt := 778) hx hb dL_law_33 h0 h1 (by rw [q]; rfl) (by decide) (law_keep l hx hb hml hown htL hX hbl hK hE hI hS hi8 hL hl kk2)
    · exact lv_tableIn (off := 768) (tgt := 801) hx hb dL_law_33 h0 h1 (by rw [q]; rfl) (by decide) (law_back l hx hb hml hown htL hX hbl hK hE hI hS hi8 hL hl kk2)
    · exact lv_tableIn (off := 791) (tgt := 824) hx hb dL_law_33 h0 h1 (by rw [q]; rfl) (by decide) (law_count l hx hb hml hown htL hX hbl hK hE hI hS hi8 hL hl kk2)
    · exact lv_tableIn (off := 814) (tgt := 847) hx hb dL_law_33 h0 h1 (by rw [q]; rfl) (by decide) (law_trace l hx hb hml hown htL hX hbl hK hE hI hS hi8 hL hl kk2)
set_option maxHeartbeats 4000000 in
theorem law_loop (l : Launch) {b L : Nat} {xs : Nat → Int32} (hL : L ≤ 512) (C0 : lw_At p s m meth c b L xs) (htL : ∀ w ∈ wsL_law, w.before #[Value.ref b] s = true) {dC : Nat → ClassId} {dI : Nat → Nat → Nat} {cI cJ cZ : ClassId} (hK : va_K (dC, dI) vwCl [(cI, .int), (cJ, .long), (cZ, .boolean)] s) (hE : wq_E (fun q : Nat => s.heap.size ≤ q) s) {x0 m0 : Nat} : ∀ (n i : Nat) (H : Heap) (locs : List Loc) (ls : Array Slot), i ≤ L → L < i + n → LI (dC, dI) cI cJ cZ (fun q : Nat => s.heap.size ≤ q) x0 m0 H → va_S (fun q : Nat => s.heap.size ≤ q) s.heap H locs → lv_has ls 4 [(0, .ref b), (1, .ref x0), (2, .ref m0), (3, .int (nI i))] → W p l e room_1 s m #[Value.ref b] below meth c H locs 38 1808 (lw_Z below #[Value.ref b] s) (F0 m 18 ls []) := by
  intro n
  induction n with
  | zero => intro i H locs ls h1 h2; exact absurd h2 (by omega)
  | succ n ih =>
    intro i H locs ls h1 h2 hI hS hl
    exact law_step l hL C0 htL hK hE (by omega) hI hS hl (fun h8 H1 locs1 ls1 hI1 hS1 hl1 => ih (i + 8) H1 locs1 ls1 (by omega) (by omega) hI1 hS1 hl1)
end LP
