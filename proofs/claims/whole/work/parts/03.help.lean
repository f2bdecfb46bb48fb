/-! helpers: guards of the pure pictures, the environment, calls of pure and of writing methods -/
def wq_chk {α : Type} (i : Int32) (n : Nat) (x : Option α) : Option α := if i < 0 ∨ n ≤ i.toNatClampNeg then none else x
theorem wq_chk_s {α : Type} {i : Int32} {n : Nat} {x : Option α} {r : α} (h : wq_chk i n x = some r) : vp_in i n ∧ x = some r := by
  unfold wq_chk at h
  by_cases c : i < 0 ∨ n ≤ i.toNatClampNeg
  · rw [if_pos c] at h; cases h
  · rw [if_neg c] at h; exact ⟨c, h⟩
theorem wq_chk_in {α : Type} {i : Int32} {n : Nat} {x : Option α} (h : vp_in i n) : wq_chk i n x = x := by
  unfold wq_chk; exact if_neg h
theorem wq_lit {i : Int32} {n : Nat} (h : decide (i < 0 ∨ n ≤ i.toNatClampNeg) = false) : vp_in i n := of_decide_eq_false h
def wq_nz {α : Type} (d : Int32) (x : Option α) : Option α := if d = 0 then none else x
theorem wq_nz_s {α : Type} {d : Int32} {x : Option α} {r : α} (h : wq_nz d x = some r) : ¬ d = 0 ∧ x = some r := by
  unfold wq_nz at h
  by_cases c : d = 0
  · rw [if_pos c] at h; cases h
  · rw [if_neg c] at h; exact ⟨c, h⟩
theorem wq_nz_ne {α : Type} {d : Int32} {x : Option α} (h : ¬ d = 0) : wq_nz d x = x := by
  unfold wq_nz; exact if_neg h
theorem wq_t {α : Type} {c : Prop} [Decidable c] {a b r : α} (h : c) (hG : (if c then a else b) = r) : a = r := by rwa [if_pos h] at hG
theorem wq_f {α : Type} {c : Prop} [Decidable c] {a b r : α} (h : ¬ c) (hG : (if c then a else b) = r) : b = r := by rwa [if_neg h] at hG
def wq_Z1 (f : Int32) : Prop := f = 0 ∨ f = 1
theorem wq_Z1_n {f : Int32} (h : wq_Z1 f) : narrow .boolean (.int f) = .int f := by rcases h with h | h <;> rw [h] <;> rfl
def wq_z01 {α : Type} (t : Int32) (x : Option α) : Option α := if t = 0 ∨ t = 1 then x else none
theorem wq_z01_s {α : Type} {t : Int32} {x : Option α} {r : α} (h : wq_z01 t x = some r) : wq_Z1 t ∧ x = some r := by
  unfold wq_z01 at h
  by_cases c : t = 0 ∨ t = 1
  · rw [if_pos c] at h; exact ⟨c, h⟩
  · rw [if_neg c] at h; cases h
theorem wq_z01_in {α : Type} {t : Int32} {x : Option α} (h : t = 0 ∨ t = 1) : wq_z01 t x = x := by
  unfold wq_z01; exact if_pos h
def wq_tr (_ : Int32) : Prop := True
def wq_first (j : Nat) : Int32 := if j = 0 then 2 else if j = 1 then 5 else if j = 2 then 25 else 48
def wq_least (j : Nat) : Int32 := if j = 0 then 1 else if j = 1 then 0 else if j = 2 then 21 else 1
def wq_most (j : Nat) : Int32 := if j = 0 then 9 else if j = 1 then 20 else if j = 2 then 60 else 96
def wq_St (n : String) (f : Nat → Int32) (A : Nat → Prop) (U : State) (H : Heap) : Prop := ∃ t : Nat, va_Z "DoorMornings" n "[I" (.ref t) A U H ∧ va_T .int t 4 (fun j => .int (f j)) A U H
theorem wq_St.pass {n : String} {f : Nat → Int32} {A0 A1 : Nat → Prop} {s U : State} {H : Heap} {locs : List Loc} (h : wq_St n f A0 s s.heap) (hS : va_S A0 s.heap H locs) (hAB : ∀ q, A1 q → A0 q) (hU : U.heap = H) (hW : s.vm.Alike U.vm) : wq_St n f A1 U U.heap := by
  obtain ⟨t, h1, h2⟩ := h
  rw [hU]
  exact ⟨t, ((h1.kept hS.2.1).narrow hAB).moved hW, ((h2.kept hS.2.1).narrow hAB).moved hW⟩
/-- what the tables say beside the words: nest mates, the array's clone, the static rows -/
def wq_N (U : State) : Prop := va_Nw (.methodLinkNest RX6 9 yX4_init "DoorMornings") U ∧ va_Nw (.methodLinkNest RX6 18 yX0_init "DoorMornings") U ∧ va_Nw (.methodLinkNest RX6 25 yX2_init "DoorMornings") U ∧ va_Nw (.methodLinkNest RX6 32 yX3_init "DoorMornings") U ∧ va_Nw (.methodLinkNest RX6 39 yX1_init "DoorMornings") U ∧ va_Nw (.methodLinkNest RX6 52 yX5_init "DoorMornings") U ∧ va_Nw (.methodLinkNest RX3 25 yX6_withinMinutes "DoorMornings") U ∧ va_Nw (.methodLinkNest RX5 53 yX6_beyondTrust "DoorMornings") U ∧ va_Nw (.methodLinkNest RX5 57 yX6_withinMinutes "DoorMornings") U ∧ va_Nw (.methodLinkNest RX5 83 yX6_quotient "DoorMornings") U
def wq_N2 (U : State) : Prop := va_Nw (.fieldLinkNest RX5 21 "DoorMornings" "FIRST_SETTING" "[I" "DoorMornings") U ∧ va_Nw (.fieldLinkNest RX4 80 "DoorMornings" "LEAST_SETTING" "[I" "DoorMornings") U ∧ va_Nw (.fieldLinkNest RX4 83 "DoorMornings" "MOST_SETTING" "[I" "DoorMornings") U ∧ va_Nw (.castable "[I" "java/lang/Cloneable") U
def wq_E (A : Nat → Prop) (U : State) : Prop := wq_N U ∧ wq_N2 U ∧ wq_St "FIRST_SETTING" wq_first A U U.heap ∧ wq_St "LEAST_SETTING" wq_least A U U.heap ∧ wq_St "MOST_SETTING" wq_most A U U.heap
theorem wq_N.warm {s U : State} (h : wq_N s) (hW : s.WarmedH U.vm) : wq_N U := by
  obtain ⟨h1, h2, h3, h4, h5, h6, h7, h8, h9, h10⟩ := h
  exact ⟨h1.warmM hW, h2.warmM hW, h3.warmM hW, h4.warmM hW, h5.warmM hW, h6.warmM hW, h7.warmM hW, h8.warmM hW, h9.warmM hW, h10.warmM hW⟩
theorem wq_N2.warm {s U : State} (h : wq_N2 s) (hW : s.WarmedH U.vm) : wq_N2 U := by
  obtain ⟨h1, h2, h3, h4⟩ := h
  exact ⟨h1.warmF hW, h2.warmF hW, h3.warmF hW, h4.warmC hW⟩
theorem wq_N.call {U : State} {g : JFrame} {mk : MethodId} {a : Array Value} (h : wq_N U) : wq_N (U.calling g mk a) := by
  obtain ⟨h1, h2, h3, h4, h5, h6, h7, h8, h9, h10⟩ := h
  exact ⟨h1.same rfl rfl, h2.same rfl rfl, h3.same rfl rfl, h4.same rfl rfl, h5.same rfl rfl, h6.same rfl rfl, h7.same rfl rfl, h8.same rfl rfl, h9.same rfl rfl, h10.same rfl rfl⟩
theorem wq_N2.call {U : State} {g : JFrame} {mk : MethodId} {a : Array Value} (h : wq_N2 U) : wq_N2 (U.calling g mk a) := by
  obtain ⟨h1, h2, h3, h4⟩ := h
  exact ⟨h1.same rfl rfl, h2.same rfl rfl, h3.same rfl rfl, h4.same rfl rfl⟩
theorem wq_St.call {n : String} {f : Nat → Int32} {A : Nat → Prop} {U : State} {g : JFrame} {mk : MethodId} {a : Array Value} (h : wq_St n f A U U.heap) : wq_St n f A (U.calling g mk a) (U.calling g mk a).heap := by
  obtain ⟨t, h1, h2⟩ := h
  exact ⟨t, va_Z.moved (u := U) (U := U.calling g mk a) (Vm.Alike.refl U.vm) h1, va_T.moved (u := U) (U := U.calling g mk a) (Vm.Alike.refl U.vm) h2⟩
theorem wq_E.call {A : Nat → Prop} {U : State} {g : JFrame} {mk : MethodId} {a : Array Value} (h : wq_E A U) : wq_E A (U.calling g mk a) := ⟨h.1.call, h.2.1.call, h.2.2.1.call, h.2.2.2.1.call, h.2.2.2.2.call⟩
theorem wq_E.pass {A0 A1 : Nat → Prop} {s U : State} {H : Heap} {locs : List Loc} (h : wq_E A0 s) (hS : va_S A0 s.heap H locs) (hAB : ∀ q, A1 q → A0 q) (hU : U.heap = H) (hW : s.WarmedH U.vm) : wq_E A1 U :=
  ⟨h.1.warm hW, h.2.1.warm hW, h.2.2.1.pass hS hAB hU hW.alike, h.2.2.2.1.pass hS hAB hU hW.alike, h.2.2.2.2.pass hS hAB hU hW.alike⟩
/-- the start of a method that writes nothing: the cells ws are there -/
def wq_pp (D : va_G) (tys : List (ClassId × FieldType)) (ws : va_W) (sz : Nat) (U : State) : Prop := U.heap.size = sz ∧ va_P D vwCl ws U.heap ∧ va_K D vwCl tys U ∧ wq_E (va_A [] sz) U
/-- the start of a method that writes: the cells are there, and apart -/
def wq_pw (D : va_G) (tys : List (ClassId × FieldType)) (ws : va_W) (sz : Nat) (U : State) : Prop := U.heap.size = sz ∧ va_P D vwCl ws U.heap ∧ va_K D vwCl tys U ∧ va_D (fun _ => True) ws ∧ wq_E (va_A ws sz) U
theorem wq_pp_blind {av : List Value} {D : va_G} {tys : List (ClassId × FieldType)} {ws : va_W} {sz : Nat} : FrameBlind (va_Pc av (wq_pp D tys ws sz)) := fun a U g mk q => by
  obtain ⟨q0, q1, qP, qK, qE⟩ := q
  exact ⟨q0, q1, qP, va_K.moved (u := U) (U := U.calling g mk a) (Vm.Alike.refl U.vm) qK, qE.call⟩
theorem wq_pw_blind {av : List Value} {D : va_G} {tys : List (ClassId × FieldType)} {ws : va_W} {sz : Nat} : FrameBlind (va_Pc av (wq_pw D tys ws sz)) := fun a U g mk q => by
  obtain ⟨q0, q1, qP, qK, qD, qE⟩ := q
  exact ⟨q0, q1, qP, va_K.moved (u := U) (U := U.calling g mk a) (Vm.Alike.refl U.vm) qK, qD, qE.call⟩
theorem wq_fr0 {A0 : Nat → Prop} {H0 H : Heap} {locs : List Loc} (hS : va_S A0 H0 H locs) (hA : ∀ q, H0.size ≤ q → A0 q) : ∀ q, va_A [] H.size q → A0 q := by
  intro q h
  rcases h with ⟨k, e, h⟩ | h
  · simp at h
  · exact hA q (Nat.le_trans hS.1 h)
theorem wq_npp {q sz : Nat} (h : q < sz) : ¬ va_A [] sz q := by
  intro z
  rcases z with ⟨k, e, h⟩ | h
  · simp at h
  · omega
theorem wq_ppV {s : State} {H : Heap} {D : va_G} {tys : List (ClassId × FieldType)} {wc : va_W} {A0 : Nat → Prop} {locs : List Loc} {b q0 ci : Nat} {q : vw_C} {fs : List Value} {As : List Value} (hK : va_K D vwCl tys s) (hP : va_P D vwCl wc H) (hE : wq_E A0 s) (hS : va_S A0 s.heap H locs) (hA : ∀ q, s.heap.size ≤ q → A0 q) (hc : vwCl[ci]? = some q) (he : wc[q0]? = some (b, .inr (ci, fs))) : PreV s H q.1 b (va_Pc (.ref b :: As) (wq_pp D tys wc H.size)) As :=
  ⟨wq_pp_blind, va_recv hK hP hc he, fun U hU hW => ⟨rfl, by rw [hU], by rw [hU]; exact hP, va_K.moved hW.alike hK, hE.pass hS (wq_fr0 hS hA) hU hW⟩⟩
theorem wq_ppS {s : State} {H : Heap} {D : va_G} {tys : List (ClassId × FieldType)} {wc : va_W} {A0 : Nat → Prop} {locs : List Loc} {As : List Value} (hK : va_K D vwCl tys s) (hP : va_P D vwCl wc H) (hE : wq_E A0 s) (hS : va_S A0 s.heap H locs) (hA : ∀ q, s.heap.size ≤ q → A0 q) : PreS s H (va_Pc As (wq_pp D tys wc H.size)) As :=
  ⟨wq_pp_blind, fun U hU hW => ⟨rfl, by rw [hU], by rw [hU]; exact hP, va_K.moved hW.alike hK, hE.pass hS (wq_fr0 hS hA) hU hW⟩⟩
theorem wq_pwV {s : State} {H : Heap} {D : va_G} {tys : List (ClassId × FieldType)} {wc : va_W} {A0 : Nat → Prop} {locs : List Loc} {b q0 ci : Nat} {q : vw_C} {fs : List Value} {As : List Value} (hK : va_K D vwCl tys s) (hP : va_P D vwCl wc H) (hD : va_D A0 wc) (hE : wq_E A0 s) (hS : va_S A0 s.heap H locs) (hF : ∀ q, va_A wc H.size q → A0 q) (hc : vwCl[ci]? = some q) (he : wc[q0]? = some (b, .inr (ci, fs))) : PreV s H q.1 b (va_Pc (.ref b :: As) (wq_pw D tys wc H.size)) As :=
  ⟨wq_pw_blind, va_recv hK hP hc he, fun U hU hW => ⟨rfl, by rw [hU], by rw [hU]; exact hP, va_K.moved hW.alike hK, hD.weaken (fun _ _ _ _ => trivial), hE.pass hS hF hU hW⟩⟩
theorem wq_kp {D : va_G} {ws : va_W} {H H1 : Heap} (hP : va_P D vwCl ws H) (hk : ∀ q, q < H.size → H1[q]? = H[q]?) : va_P D vwCl ws H1 := hP.kept (fun k q h => hk q.1 ((hP k q h).lt))
/-- the answer of a method that writes nothing -/
abbrev wq_Qi (v : Int32) (B : Int32 → Prop) (A : Nat → Prop) : Array Value → State → Outcome → State → Prop := va_Qi (fun (r : Int32) (_ : Unit) => r = v ∧ B r) (fun _ _ => True) A
abbrev wq_Ql (v : Int64) (A : Nat → Prop) : Array Value → State → Outcome → State → Prop := va_Ql (fun (r : Int64) (_ : Unit) => r = v) (fun _ _ => True) A
/-- the answer of a method that writes: its cells became w1 -/
abbrev wq_Wi (D : va_G) (v : Int32) (B : Int32 → Prop) (w1 : va_W) (A : Nat → Prop) : Array Value → State → Outcome → State → Prop := va_Qi (fun (r : Int32) (_ : Unit) => r = v ∧ B r) (fun _ t => va_P D vwCl w1 t.heap ∧ va_D A w1) A
abbrev wq_Wl (D : va_G) (v : Int64) (w1 : va_W) (A : Nat → Prop) : Array Value → State → Outcome → State → Prop := va_Ql (fun (r : Int64) (_ : Unit) => r = v) (fun _ t => va_P D vwCl w1 t.heap ∧ va_D A w1) A
abbrev wq_Wv (D : va_G) (w1 : va_W) (A : Nat → Prop) : Array Value → State → Outcome → State → Prop := va_Qv (fun (_ : Unit) => True) (fun _ t => va_P D vwCl w1 t.heap ∧ va_D A w1) A
section WQC
variable {p : Program} {l : Launch} {e : Env} {R : Room} {s : State} {m : MethodId} {args : Array Value} {below : List Frame} {meth : Method} {c : Code} {H : Heap} {locs : List Loc} {cells slots : Nat} {Q : State → Prop}
variable {pc : Nat} {ls : Array Slot} {rest st0 : List Value} {a : Array Value} {A0 : Nat → Prop} {H0 : Heap} {D : va_G} {tys : List (ClassId × FieldType)} {ws wc wr w1 w2 : va_W}
theorem wq_ci {v : Int32} {B : Int32 → Prop} (hr : va_Run p l e R s m args below meth c H locs cells slots 0 0 (F0 m pc ls st0) rest (wq_Qi v B (va_A [] H.size) a) (va_A [] H.size)) (hS : va_S A0 H0 H locs) (hA : ∀ q, H0.size ≤ q → A0 q)
    (kk : ∀ (H1 : Heap) (locs1 : List Loc), B v → (∀ q : Nat, q < H.size → H1[q]? = H[q]?) → va_S A0 H0 H1 locs1 → W p l e R s m args below meth c H1 locs1 cells slots Q (F0 m (pc + 3) ls (.int v :: rest))) : W p l e R s m args below meth c H locs cells slots Q (F0 m pc ls st0) := by
  refine va_calli hr hS (fun q _ h => wq_fr0 hS hA q h) (wq_fr0 hS hA) (fun r u t H1 locs1 ht hvm hp hb hz hk hS1 => ?_)
  obtain ⟨rfl, hB⟩ := hp
  exact kk H1 locs1 hB (fun q h => hk q h (wq_npp h)) hS1
theorem wq_cl {v : Int64} (hr : va_Run p l e R s m args below meth c H locs cells slots 0 0 (F0 m pc ls st0) rest (wq_Ql v (va_A [] H.size) a) (va_A [] H.size)) (hS : va_S A0 H0 H locs) (hA : ∀ q, H0.size ≤ q → A0 q)
    (kk : ∀ (H1 : Heap) (locs1 : List Loc), (∀ q : Nat, q < H.size → H1[q]? = H[q]?) → va_S A0 H0 H1 locs1 → W p l e R s m args below meth c H1 locs1 cells slots Q (F0 m (pc + 3) ls (.long v :: rest))) : W p l e R s m args below meth c H locs cells slots Q (F0 m pc ls st0) := by
  refine va_calll hr hS (fun q _ h => wq_fr0 hS hA q h) (wq_fr0 hS hA) (fun r u t H1 locs1 ht hvm hp hb hz hk hS1 => ?_)
  subst hp
  exact kk H1 locs1 (fun q h => hk q h (wq_npp h)) hS1
theorem wq_join {H1 : Heap} (hP : va_P D vwCl ws H) (hD : va_D A0 ws) (isC isR pm : List Nat) (hC : isC.map (fun i => ws[i]?) = wc.map some) (hR : isR.map (fun i => ws[i]?) = wr.map some) (hn : va_nd isR = true) (hdis : ∀ i ∈ isR, i ∉ isC) (hpn : va_nd pm = true) (hpm : pm.map (fun i => (wr ++ w1)[i]?) = w2.map some)
    (hk : ∀ q : Nat, q < H.size → ¬ va_A wc H.size q → H1[q]? = H[q]?) (hF : ∀ q, va_A wc H.size q → A0 q) (hP1 : va_P D vwCl w1 H1) (hD1 : va_D (va_A wc H.size) w1) : va_P D vwCl w2 H1 ∧ va_D A0 w2 := by
  obtain ⟨a1, a2⟩ := va_join hP hD isC isR hC hR hn hdis hk hF hP1 hD1
  refine ⟨a1.sub pm ?_, a2.sub pm hpn hpm⟩
  have h := congrArg (List.filterMap id) hpm
  rw [List.filterMap_map, List.filterMap_map] at h
  have e1 : (id ∘ fun (i : Nat) => (wr ++ w1)[i]?) = fun (i : Nat) => (wr ++ w1)[i]? := rfl
  have e2 : (id ∘ (some : Nat × va_E → Option (Nat × va_E))) = some := rfl
  rw [e1, e2, List.filterMap_some] at h
  exact h
theorem wq_di {v : Int32} {B : Int32 → Prop} (hr : va_Run p l e R s m args below meth c H locs cells slots 0 0 (F0 m pc ls st0) rest (wq_Wi D v B w1 (va_A wc H.size) a) (va_A wc H.size)) (hP : va_P D vwCl ws H) (hD : va_D A0 ws) (hS : va_S A0 H0 H locs) (hF : ∀ q, va_A wc H.size q → A0 q) (isC isR pm : List Nat) (hC : isC.map (fun i => ws[i]?) = wc.map some) (hR : isR.map (fun i => ws[i]?) = wr.map some) (hn : va_nd isR = true) (hdis : ∀ i ∈ isR, i ∉ isC) (hpn : va_nd pm = true) (hpm : pm.map (fun i => (wr ++ w1)[i]?) = w2.map some)
    (kk : ∀ (H1 : Heap) (locs1 : List Loc), B v → va_P D vwCl w2 H1 → va_D A0 w2 → va_S A0 H0 H1 locs1 → W p l e R s m args below meth c H1 locs1 cells slots Q (F0 m (pc + 3) ls (.int v :: rest))) : W p l e R s m args below meth c H locs cells slots Q (F0 m pc ls st0) := by
  refine va_calli hr hS (fun q _ h => hF q h) hF (fun r u t H1 locs1 ht hvm hp hb hz hk hS1 => ?_)
  obtain ⟨rfl, hB⟩ := hp
  obtain ⟨b1, b2⟩ := hb
  rw [ht] at b1
  obtain ⟨a1, a2⟩ := wq_join hP hD isC isR pm hC hR hn hdis hpn hpm hk hF b1 b2
  exact kk H1 locs1 hB a1 a2 hS1
theorem wq_dl {v : Int64} (hr : va_Run p l e R s m args below meth c H locs cells slots 0 0 (F0 m pc ls st0) rest (wq_Wl D v w1 (va_A wc H.size) a) (va_A wc H.size)) (hP : va_P D vwCl ws H) (hD : va_D A0 ws) (hS : va_S A0 H0 H locs) (hF : ∀ q, va_A wc H.size q → A0 q) (isC isR pm : List Nat) (hC : isC.map (fun i => ws[i]?) = wc.map some) (hR : isR.map (fun i => ws[i]?) = wr.map some) (hn : va_nd isR = true) (hdis : ∀ i ∈ isR, i ∉ isC) (hpn : va_nd pm = true) (hpm : pm.map (fun i => (wr ++ w1)[i]?) = w2.map some)
    (kk : ∀ (H1 : Heap) (locs1 : List Loc), va_P D vwCl w2 H1 → va_D A0 w2 → va_S A0 H0 H1 locs1 → W p l e R s m args below meth c H1 locs1 cells slots Q (F0 m (pc + 3) ls (.long v :: rest))) : W p l e R s m args below meth c H locs cells slots Q (F0 m pc ls st0) := by
  refine va_calll hr hS (fun q _ h => hF q h) hF (fun r u t H1 locs1 ht hvm hp hb hz hk hS1 => ?_)
  subst hp
  obtain ⟨b1, b2⟩ := hb
  rw [ht] at b1
  obtain ⟨a1, a2⟩ := wq_join hP hD isC isR pm hC hR hn hdis hpn hpm hk hF b1 b2
  exact kk H1 locs1 a1 a2 hS1
theorem wq_dv (hr : va_Run p l e R s m args below meth c H locs cells slots 0 0 (F0 m pc ls st0) rest (wq_Wv D w1 (va_A wc H.size) a) (va_A wc H.size)) (hP : va_P D vwCl ws H) (hD : va_D A0 ws) (hS : va_S A0 H0 H locs) (hF : ∀ q, va_A wc H.size q → A0 q) (isC isR pm : List Nat) (hC : isC.map (fun i => ws[i]?) = wc.map some) (hR : isR.map (fun i => ws[i]?) = wr.map some) (hn : va_nd isR = true) (hdis : ∀ i ∈ isR, i ∉ isC) (hpn : va_nd pm = true) (hpm : pm.map (fun i => (wr ++ w1)[i]?) = w2.map some)
    (kk : ∀ (H1 : Heap) (locs1 : List Loc), va_P D vwCl w2 H1 → va_D A0 w2 → va_S A0 H0 H1 locs1 → W p l e R s m args below meth c H1 locs1 cells slots Q (F0 m (pc + 3) ls rest)) : W p l e R s m args below meth c H locs cells slots Q (F0 m pc ls st0) := by
  refine va_callv hr hS (fun q _ h => hF q h) hF (fun u t H1 locs1 ht hvm hp hb hz hk hS1 => ?_)
  obtain ⟨b1, b2⟩ := hb
  rw [ht] at b1
  obtain ⟨a1, a2⟩ := wq_join hP hD isC isR pm hC hR hn hdis hpn hpm hk hF b1 b2
  exact kk H1 locs1 a1 a2 hS1
end WQC
section WQA
variable {p : Program} {l : Launch} {e : Env} {R : Room} {s : State} {m : MethodId} {args : Array Value} {below : List Frame} {meth : Method} {c : Code} {H : Heap} {locs : List Loc} {cells slots : Nat} {Q : State → Prop}
variable {pc : Nat} {ls : Array Slot} {rest : List Value} {cc : ByteArray} {A : Nat → Prop} {H0 : Heap} {D : va_G} {tys : List (ClassId × FieldType)} {ws : va_W} {a : Nat}
theorem wq_iald (hexec : p.tables.exec = Jvm.exec) (hb : c.code = cc) (hK : va_K D vwCl tys s) (hP : va_P D vwCl ws H) (q0 t0 : Nat) {cA : ClassId} {n : Nat} {f : Nat → Int32} (ha : ws[q0]? = some (a, .inl (cA, n, .inl f))) (ht : tys[t0]? = some (cA, .int)) {i : Int32} (hin : vp_in i n) (k : Nat) (hk : i.toNatClampNeg = k) (hdg : decode cc pc = .ok (.iaload, 1))
    (kk : W p l e R s m args below meth c H locs cells slots Q (F0 m (pc + 1) ls (.int (f k) :: rest))) : W p l e R s m args below meth c H locs cells slots Q (F0 m pc ls (.int i :: .ref a :: rest)) := by
  subst hk; exact va_iald hexec hb hK hP q0 t0 ha ht hin hdg kk
theorem wq_zald (hexec : p.tables.exec = Jvm.exec) (hb : c.code = cc) (hK : va_K D vwCl tys s) (hP : va_P D vwCl ws H) (q0 t0 : Nat) {cA : ClassId} {n : Nat} {f : Nat → Int32} (ha : ws[q0]? = some (a, .inl (cA, n, .inl f))) (ht : tys[t0]? = some (cA, .boolean)) {i : Int32} (hin : vp_in i n) (k : Nat) (hk : i.toNatClampNeg = k) (hdg : decode cc pc = .ok (.baload, 1))
    (kk : W p l e R s m args below meth c H locs cells slots Q (F0 m (pc + 1) ls (.int (f k) :: rest))) : W p l e R s m args below meth c H locs cells slots Q (F0 m pc ls (.int i :: .ref a :: rest)) := by
  subst hk; exact va_zald hexec hb hK hP q0 t0 ha ht hin hdg kk
theorem wq_lald (hexec : p.tables.exec = Jvm.exec) (hb : c.code = cc) (hK : va_K D vwCl tys s) (hP : va_P D vwCl ws H) (q0 t0 : Nat) {cA : ClassId} {n : Nat} {f : Nat → Int64} (ha : ws[q0]? = some (a, .inl (cA, n, .inr (.inl f)))) (ht : tys[t0]? = some (cA, .long)) {i : Int32} (hin : vp_in i n) (k : Nat) (hk : i.toNatClampNeg = k) (hdg : decode cc pc = .ok (.laload, 1))
    (kk : W p l e R s m args below meth c H locs cells slots Q (F0 m (pc + 1) ls (.long (f k) :: rest))) : W p l e R s m args below meth c H locs cells slots Q (F0 m pc ls (.int i :: .ref a :: rest)) := by
  subst hk; exact va_lald hexec hb hK hP q0 t0 ha ht hin hdg kk
theorem wq_iast (hexec : p.tables.exec = Jvm.exec) (hb : c.code = cc) (hK : va_K D vwCl tys s) (hP : va_P D vwCl ws H) (hD : va_D A ws) (hS : va_S A H0 H locs) (q0 t0 : Nat) {cA : ClassId} {n : Nat} {f : Nat → Int32} (ha : ws[q0]? = some (a, .inl (cA, n, .inl f))) (ht : tys[t0]? = some (cA, .int)) {i : Int32} {x : Int32} (hin : vp_in i n) (k : Nat) (hk : i.toNatClampNeg = k) (w2 : va_W) (hw : ws.set q0 (a, .inl (cA, n, .inl (upd f k x))) = w2) (hdg : decode cc pc = .ok (.iastore, 1))
    (kk : ∀ (H1 : Heap) (locs1 : List Loc), va_P D vwCl w2 H1 → va_D A w2 → va_S A H0 H1 locs1 → W p l e R s m args below meth c H1 locs1 cells slots Q (F0 m (pc + 1) ls rest)) : W p l e R s m args below meth c H locs cells slots Q (F0 m pc ls (.int x :: .int i :: .ref a :: rest)) := by
  subst hk; subst hw; exact va_iast hexec hb hK hP hD hS q0 t0 ha ht hin hdg kk
theorem wq_zast (hexec : p.tables.exec = Jvm.exec) (hb : c.code = cc) (hK : va_K D vwCl tys s) (hP : va_P D vwCl ws H) (hD : va_D A ws) (hS : va_S A H0 H locs) (q0 t0 : Nat) {cA : ClassId} {n : Nat} {f : Nat → Int32} (ha : ws[q0]? = some (a, .inl (cA, n, .inl f))) (ht : tys[t0]? = some (cA, .boolean)) {i : Int32} {x y : Int32} (hin : vp_in i n) (k : Nat) (hk : i.toNatClampNeg = k) (hy : vp_nar .boolean x = y) (w2 : va_W) (hw : ws.set q0 (a, .inl (cA, n, .inl (upd f k y))) = w2) (hdg : decode cc pc = .ok (.bastore, 1))
    (kk : ∀ (H1 : Heap) (locs1 : List Loc), va_P D vwCl w2 H1 → va_D A w2 → va_S A H0 H1 locs1 → W p l e R s m args below meth c H1 locs1 cells slots Q (F0 m (pc + 1) ls rest)) : W p l e R s m args below meth c H locs cells slots Q (F0 m pc ls (.int x :: .int i :: .ref a :: rest)) := by
  subst hk; subst hy; subst hw; exact va_zast hexec hb hK hP hD hS q0 t0 ha ht hin hdg kk
theorem wq_last (hexec : p.tables.exec = Jvm.exec) (hb : c.code = cc) (hK : va_K D vwCl tys s) (hP : va_P D vwCl ws H) (hD : va_D A ws) (hS : va_S A H0 H locs) (q0 t0 : Nat) {cA : ClassId} {n : Nat} {f : Nat → Int64} (ha : ws[q0]? = some (a, .inl (cA, n, .inr (.inl f)))) (ht : tys[t0]? = some (cA, .long)) {i : Int32} {x : Int64} (hin : vp_in i n) (k : Nat) (hk : i.toNatClampNeg = k) (w2 : va_W) (hw : ws.set q0 (a, .inl (cA, n, .inr (.inl (vp_updL f k x)))) = w2) (hdg : decode cc pc = .ok (.lastore, 1))
    (kk : ∀ (H1 : Heap) (locs1 : List Loc), va_P D vwCl w2 H1 → va_D A w2 → va_S A H0 H1 locs1 → W p l e R s m args below meth c H1 locs1 cells slots Q (F0 m (pc + 1) ls rest)) : W p l e R s m args below meth c H locs cells slots Q (F0 m pc ls (.long x :: .int i :: .ref a :: rest)) := by
  subst hk; subst hw; exact va_last hexec hb hK hP hD hS q0 t0 ha ht hin hdg kk
end WQA
