def gX7_in (a0 : Int32) (a1 : Int32) (a2 : Int32) : Option (Int32) :=
    if a0 < a1 then
    some 0
    else
    (if a2 < a0 then
    some 0
    else
    some 1)

def gX7_bound (a0 : Int32) (a1 : Int32) (a2 : Int32) : Option (Int32) :=
    if a1 ≤ a0 then
    (if a0 ≤ a2 then
    some a0
    else
    some a2)
    else
    some a1

def gX7_isGoodbye (m_told : Nat → Int32) (a1 : Int32) : Option (Int32) :=
    wq_b1 (gX7_in a1 0 ((m_told 0) - 1)) (fun v2 =>
    some v2)

def gX7_isWoman (m_told : Nat → Int32) (a1 : Int32) : Option (Int32) :=
    wq_b1 (gX7_in a1 0 ((m_told 1) - 1)) (fun v2 =>
    some v2)

def gX7_type (m_text : Nat → Int32) (m_typed : Int32) (a1 : Int32) : Option (Int32 × (Nat → Int32) × Int32) :=
    wq_b1 (gX7_in a1 0 255) (fun v2 =>
    if v2 = 0 then
    some ((-1), m_text, m_typed)
    else
    (if m_typed = 120 then
    some ((-3), m_text, m_typed)
    else
    wq_chk m_typed 120 (some ((m_typed + 1), (upd m_text (Int32.toNatClampNeg m_typed) a1), (m_typed + 1)))))

def gX7_clear (m_typed : Int32) : Option (Int32 × Int32) :=
    some (m_typed, 0)

def gX7_letterAt (m_text : Nat → Int32) (m_typed : Int32) (a1 : Int32) : Option (Int32) :=
    if m_typed ≤ a1 then
    some (-1)
    else
    wq_chk a1 120 (some (m_text (Int32.toNatClampNeg a1)))

def gX7_isDigit (a0 : Int32) : Option (Int32) :=
    wq_b1 (gX7_in a0 48 57) (fun v2 =>
    some v2)

def gX7_isWord (a0 : Int32) : Option (Int32) :=
    if a0 = 103 then
    some 1
    else
    (if a0 = 119 then
    some 1
    else
    (if a0 = 115 then
    some 1
    else
    (if a0 = 99 then
    some 1
    else
    (if a0 = 120 then
    some 1
    else
    (if a0 = 122 then
    some 1
    else
    some 0)))))

def gX7_token_L130 (m_text : Nat → Int32) (m_typed : Int32) (z_m_sort : Int32) (z_m_start : Int32) (x1 : Int32) : Nat → Int32 → Int32 → Option (Int32 × Int32 × Int32 × Int32)
  | 0, _, _ => none
  | n + 1, z_m_at, z_m_value =>
    wq_b1 (gX7_letterAt m_text m_typed z_m_at) (fun v2 =>
    wq_b1 (gX7_isDigit v2) (fun v5 =>
    if v5 = 0 then
    some (z_m_at, z_m_sort, z_m_start, z_m_value)
    else
    (if x1 = 48 then
    gX7_token_L130 m_text m_typed z_m_sort z_m_start x1 n (z_m_at + 1) 1000
    else
    (if z_m_value ≤ 99 then
    wq_chk z_m_at 120 (gX7_token_L130 m_text m_typed z_m_sort z_m_start x1 n (z_m_at + 1) (((10 * z_m_value) + (m_text (Int32.toNatClampNeg z_m_at))) - 48))
    else
    gX7_token_L130 m_text m_typed z_m_sort z_m_start x1 n (z_m_at + 1) 1000))))
def gX7_token_L0 (m_text : Nat → Int32) (m_typed : Int32) (z_m_sort : Int32) (z_m_start : Int32) (z_m_value : Int32) : Nat → Int32 → Option (Int32 × Int32 × Int32 × Int32)
  | 0, _ => none
  | n + 1, z_m_at =>
    wq_b1 (gX7_letterAt m_text m_typed z_m_at) (fun v12 =>
    if v12 = 32 then
    gX7_token_L0 m_text m_typed z_m_sort z_m_start z_m_value n (z_m_at + 1)
    else
    wq_b1 (gX7_letterAt m_text m_typed z_m_at) (fun v16 =>
    if 0 ≤ v16 then
    wq_b1 (gX7_isWord v16) (fun v20 =>
    if v20 = 0 then
    wq_b1 (gX7_isDigit v16) (fun v24 =>
    if v24 = 0 then
    (if v16 = 59 then
    some ((z_m_at + 1), 3, z_m_at, v16)
    else
    some ((z_m_at + 1), 4, z_m_at, v16))
    else
    gX7_token_L130 m_text m_typed 2 z_m_at v16 1000 (z_m_at + 1) (v16 - 48))
    else
    some ((z_m_at + 1), 1, z_m_at, v16))
    else
    some ((z_m_at + 0), 0, z_m_at, v16)))
def gX7_token (m_text : Nat → Int32) (m_typed : Int32) (m_at : Int32) (m_sort : Int32) (m_start : Int32) (m_value : Int32) : Option (Int32 × Int32 × Int32 × Int32) :=
    gX7_token_L0 m_text m_typed m_sort m_start m_value 1000 m_at

def gX7_number (m_text : Nat → Int32) (m_typed : Int32) (m_draft : Nat → Int32) (m_at : Int32) (m_sort : Int32) (m_start : Int32) (m_value : Int32) (a1 : Int32) (a2 : Int32) (a3 : Int32) : Option (Int32 × (Nat → Int32) × Int32 × Int32 × Int32 × Int32) :=
    wq_b4 (gX7_token m_text m_typed m_at m_sort m_start m_value) (fun w2 w3 w4 w5 =>
    wq_chk a1 22 (if w3 = 2 then
    wq_b1 (gX7_in w5 a2 a3) (fun v9 =>
    if v9 = 0 then
    some (0, (upd m_draft (Int32.toNatClampNeg a1) w5), w2, w3, w4, w5)
    else
    some (1, (upd m_draft (Int32.toNatClampNeg a1) w5), w2, w3, w4, w5))
    else
    some (0, (upd m_draft (Int32.toNatClampNeg a1) w5), w2, w3, w4, w5)))

def gX7_once (m_text : Nat → Int32) (m_typed : Int32) (m_draft : Nat → Int32) (m_at : Int32) (m_sort : Int32) (m_start : Int32) (m_value : Int32) (a1 : Int32) (a2 : Int32) (a3 : Int32) (a4 : Int32) : Option (Int32 × (Nat → Int32) × Int32 × Int32 × Int32 × Int32) :=
    if ((m_draft 7) &&& a1) = 0 then
    wq_b6 (gX7_number m_text m_typed (upd m_draft 7 ((m_draft 7) ||| a1)) m_at m_sort m_start m_value a2 a3 a4) (fun v3 w4 w5 w6 w7 w8 =>
    some (v3, w4, w5, w6, w7, w8))
    else
    some (0, m_draft, m_at, m_sort, m_start, m_value)

def gX7_readsItem (m_text : Nat → Int32) (m_typed : Int32) (m_draft : Nat → Int32) (m_at : Int32) (m_sort : Int32) (m_start : Int32) (m_value : Int32) : Option (Int32 × (Nat → Int32) × Int32 × Int32 × Int32 × Int32) :=
    if m_sort = 1 then
    (if m_value = 103 then
    (if m_value = 99 then
    wq_b6 (gX7_once m_text m_typed m_draft m_at m_sort m_start m_value 2 3 0 20) (fun v54 w55 w56 w57 w58 w59 =>
    some (v54, w55, w56, w57, w58, w59))
    else
    (if (m_draft 0) = 5 then
    some (0, m_draft, m_at, m_sort, m_start, m_value)
    else
    wq_b6 (gX7_number m_text m_typed m_draft m_at m_sort m_start m_value (8 + (m_draft 0)) 0 40) (fun v64 w65 w66 w67 w68 w69 =>
    if v64 = 0 then
    some (0, w65, w66, w67, w68, w69)
    else
    wq_b6 (gX7_number m_text m_typed w65 w66 w67 w68 w69 (13 + (m_draft 0)) 0 3) (fun v73 w74 w75 w76 w77 w78 =>
    if v73 = 0 then
    some (0, w74, w75, w76, w77, w78)
    else
    some (1, (upd w74 0 ((w74 0) + 1)), w75, w76, w77, w78)))))
    else
    (if m_value = 99 then
    wq_b6 (gX7_once m_text m_typed m_draft m_at m_sort m_start m_value 2 3 0 20) (fun v6 w7 w8 w9 w10 w11 =>
    some (v6, w7, w8, w9, w10, w11))
    else
    (if m_value = 115 then
    wq_b6 (gX7_once m_text m_typed m_draft m_at m_sort m_start m_value 1 2 1 9) (fun v16 w17 w18 w19 w20 w21 =>
    some (v16, w17, w18, w19, w20, w21))
    else
    (if m_value = 119 then
    (if (m_draft 1) = 4 then
    some (0, m_draft, m_at, m_sort, m_start, m_value)
    else
    wq_b6 (gX7_number m_text m_typed m_draft m_at m_sort m_start m_value (18 + (m_draft 1)) 0 9) (fun v26 w27 w28 w29 w30 w31 =>
    if v26 = 0 then
    some (0, w27, w28, w29, w30, w31)
    else
    some (1, (upd w27 1 ((w27 1) + 1)), w28, w29, w30, w31)))
    else
    (if m_value = 120 then
    wq_b6 (gX7_once m_text m_typed m_draft m_at m_sort m_start m_value 4 4 21 60) (fun v36 w37 w38 w39 w40 w41 =>
    some (v36, w37, w38, w39, w40, w41))
    else
    (if m_value = 122 then
    wq_b6 (gX7_once m_text m_typed m_draft m_at m_sort m_start m_value 8 5 1 96) (fun v45 w46 w47 w48 w49 w50 =>
    some (v45, w46, w47, w48, w49, w50))
    else
    some (0, m_draft, m_at, m_sort, m_start, m_value)))))))
    else
    some (0, m_draft, m_at, m_sort, m_start, m_value)

def gX7_reads_L60 (m_text : Nat → Int32) (m_typed : Int32) : Nat → (Nat → Int32) → Int32 → Int32 → Int32 → Int32 → Option (Int32 × (Nat → Int32) × Int32 × Int32 × Int32 × Int32)
  | 0, _, _, _, _, _ => none
  | n + 1, z_m_draft, z_m_at, z_m_sort, z_m_start, z_m_value =>
    if z_m_sort = 0 then
    some (1, z_m_draft, z_m_at, z_m_sort, z_m_start, z_m_value)
    else
    wq_b6 (gX7_readsItem m_text m_typed z_m_draft z_m_at z_m_sort z_m_start z_m_value) (fun v3 w4 w5 w6 w7 w8 =>
    if v3 = 0 then
    some (0, w4, w5, w6, w7, w8)
    else
    wq_b4 (gX7_token m_text m_typed w5 w6 w7 w8) (fun w12 w13 w14 w15 =>
    if w13 = 3 then
    wq_b4 (gX7_token m_text m_typed w12 w13 w14 w15) (fun w18 w19 w20 w21 =>
    gX7_reads_L60 m_text m_typed n (upd w4 6 ((w4 6) + 1)) w18 w19 w20 w21)
    else
    some (0, w4, w12, w13, w14, w15)))
def gX7_reads_L2 (m_text : Nat → Int32) (m_typed : Int32) (z_m_at : Int32) (z_m_sort : Int32) (z_m_start : Int32) (z_m_value : Int32) : Nat → Int32 → (Nat → Int32) → Option (Int32 × (Nat → Int32) × Int32 × Int32 × Int32 × Int32)
  | 0, _, _ => none
  | n + 1, x1, z_m_draft =>
    if 22 ≤ x1 then
    wq_b4 (gX7_token m_text m_typed 0 z_m_sort z_m_start z_m_value) (fun w24 w25 w26 w27 =>
    gX7_reads_L60 m_text m_typed 1000 (upd (upd (upd (upd z_m_draft 2 2) 3 5) 4 25) 5 48) w24 w25 w26 w27)
    else
    wq_chk x1 22 (gX7_reads_L2 m_text m_typed z_m_at z_m_sort z_m_start z_m_value n (x1 + 1) (upd z_m_draft (Int32.toNatClampNeg x1) 0))
def gX7_reads (m_text : Nat → Int32) (m_typed : Int32) (m_draft : Nat → Int32) (m_at : Int32) (m_sort : Int32) (m_start : Int32) (m_value : Int32) : Option (Int32 × (Nat → Int32) × Int32 × Int32 × Int32 × Int32) :=
    gX7_reads_L2 m_text m_typed m_at m_sort m_start m_value 1000 0 m_draft

def gX7_begins_L28 (z_m_told : Nat → Int32) (z_m_known : Int32) (z_m_kept : Nat → Int32) (z_m_noted : Int32) : Nat → Int32 → (Nat → Int32) → Option ((Nat → Int32) × (Nat → Int32) × Int32 × (Nat → Int32) × Int32)
  | 0, _, _ => none
  | n + 1, x1, z_m_s =>
    if 8 ≤ x1 then
    some (z_m_told, z_m_s, 0, (upd (upd z_m_kept 0 0) 1 0), 0)
    else
    (if 4 ≤ x1 then
    wq_chk ((18 + x1) - 4) 22 (wq_chk x1 8 (gX7_begins_L28 z_m_told z_m_known z_m_kept z_m_noted n (x1 + 1) (upd z_m_s (Int32.toNatClampNeg x1) (z_m_told (Int32.toNatClampNeg ((18 + x1) - 4))))))
    else
    wq_chk x1 8 (gX7_begins_L28 z_m_told z_m_known z_m_kept z_m_noted n (x1 + 1) (upd z_m_s (Int32.toNatClampNeg x1) 0)))
def gX7_begins_L2 (m_draft : Nat → Int32) (z_m_s : Nat → Int32) (z_m_known : Int32) (z_m_kept : Nat → Int32) (z_m_noted : Int32) : Nat → Int32 → (Nat → Int32) → Option ((Nat → Int32) × (Nat → Int32) × Int32 × (Nat → Int32) × Int32)
  | 0, _, _ => none
  | n + 1, x1, z_m_told =>
    if 22 ≤ x1 then
    gX7_begins_L28 z_m_told z_m_known z_m_kept z_m_noted 1000 0 z_m_s
    else
    wq_chk x1 22 (gX7_begins_L2 m_draft z_m_s z_m_known z_m_kept z_m_noted n (x1 + 1) (upd z_m_told (Int32.toNatClampNeg x1) (m_draft (Int32.toNatClampNeg x1))))
def gX7_begins (m_told : Nat → Int32) (m_draft : Nat → Int32) (m_s : Nat → Int32) (m_known : Int32) (m_kept : Nat → Int32) (m_noted : Int32) : Option ((Nat → Int32) × (Nat → Int32) × Int32 × (Nat → Int32) × Int32) :=
    gX7_begins_L2 m_draft m_s m_known m_kept m_noted 1000 0 m_told

def gX7_nursery (m_text : Nat → Int32) (m_typed : Int32) (m_told : Nat → Int32) (m_draft : Nat → Int32) (m_s : Nat → Int32) (m_known : Int32) (m_kept : Nat → Int32) (m_noted : Int32) (m_at : Int32) (m_sort : Int32) (m_start : Int32) (m_value : Int32) : Option (Int32 × Int32 × (Nat → Int32) × (Nat → Int32) × (Nat → Int32) × Int32 × (Nat → Int32) × Int32 × Int32 × Int32 × Int32 × Int32) :=
    wq_b6 (gX7_reads m_text m_typed m_draft m_at m_sort m_start m_value) (fun v2 w3 w4 w5 w6 w7 =>
    if v2 = 0 then
    some (((-10) - w6), m_typed, m_told, w3, m_s, m_known, m_kept, m_noted, w4, w5, w6, w7)
    else
    wq_b5 (gX7_begins m_told w3 m_s m_known m_kept m_noted) (fun w11 w12 w13 w14 w15 =>
    some ((w11 6), 0, w11, w3, w12, w13, w14, w15, w4, w5, w6, w7)))

def gX7_goodbye (m_told : Nat → Int32) (a1 : Int32) (a2 : Int32) : Option (Int32) :=
    wq_b1 (gX7_isGoodbye m_told a1) (fun v2 =>
    if v2 = 0 then
    some (-1)
    else
    wq_b1 (gX7_in a2 0 1) (fun v6 =>
    if v6 = 0 then
    some (-1)
    else
    (if a2 = 0 then
    wq_chk (8 + a1) 22 (some (m_told (Int32.toNatClampNeg (8 + a1))))
    else
    wq_chk (13 + a1) 22 (some (m_told (Int32.toNatClampNeg (13 + a1)))))))

def gX7_ones_L4 (a0 : Int32) : Nat → Int32 → Int32 → Option (Int32)
  | 0, _, _ => none
  | n + 1, x1, x2 =>
    if 4 ≤ x2 then
    some x1
    else
    gX7_ones_L4 a0 n (x1 + ((a0 >>> (x2 &&& 31)) &&& 1)) (x2 + 1)
def gX7_ones (a0 : Int32) : Option (Int32) :=
    gX7_ones_L4 a0 1000 0 0

def gX7_isIll (m_s : Nat → Int32) (a1 : Int32) : Option (Int32) :=
    if (((m_s 3) >>> (a1 &&& 31)) &&& 1) = 1 then
    some 1
    else
    some 0

def gX7_calmTo (m_told : Nat → Int32) (a1 : Int32) (a2 : Int32) (a3 : Int32) : Option (Int32) :=
    wq_chk (8 + a1) 22 (if 0 ≤ (((m_told 3) + a3) - (m_told (Int32.toNatClampNeg (8 + a1)))) then
    wq_nz (m_told 2) (if ((2 * a2) + ((((m_told 3) + a3) - (m_told (Int32.toNatClampNeg (8 + a1)))) / (m_told 2))) ≤ 96 then
    some ((2 * a2) + ((((m_told 3) + a3) - (m_told (Int32.toNatClampNeg (8 + a1)))) / (m_told 2)))
    else
    some 96)
    else
    some 0)

def gX7_wildFrom (m_told : Nat → Int32) (a1 : Int32) (a2 : Int32) (a3 : Int32) : Option (Int32) :=
    wq_chk (8 + a1) 22 (if 0 < (((m_told 4) + a3) - (m_told (Int32.toNatClampNeg (8 + a1)))) then
    wq_nz (m_told 2) (some ((2 * a2) + ((((((m_told 4) + a3) - (m_told (Int32.toNatClampNeg (8 + a1)))) + (m_told 2)) - 1) / (m_told 2))))
    else
    some 1)

def gX7_bestWith_L8 (m_told : Nat → Int32) (m_s : Nat → Int32) (a1 : Int32) : Nat → Int32 → Int32 → Int32 → Option (Int32)
  | 0, _, _, _ => none
  | n + 1, x2, x3, x4 =>
    if (m_told 0) ≤ x4 then
    some x2
    else
    wq_chk (4 + a1) 8 (wq_b1 (gX7_calmTo m_told x4 (m_s 1) (m_s (Int32.toNatClampNeg (4 + a1)))) (fun v4 =>
    if x3 < v4 then
    gX7_bestWith_L8 m_told m_s a1 n x4 v4 (x4 + 1)
    else
    (if v4 ≤ 0 then
    gX7_bestWith_L8 m_told m_s a1 n x2 x3 (x4 + 1)
    else
    (if v4 = x3 then
    wq_chk (13 + x4) 22 (wq_chk (13 + x2) 22 (if (m_told (Int32.toNatClampNeg (13 + x4))) ≤ (m_told (Int32.toNatClampNeg (13 + x2))) then
    gX7_bestWith_L8 m_told m_s a1 n x2 x3 (x4 + 1)
    else
    gX7_bestWith_L8 m_told m_s a1 n x4 v4 (x4 + 1)))
    else
    gX7_bestWith_L8 m_told m_s a1 n x2 x3 (x4 + 1)))))
def gX7_bestWith (m_told : Nat → Int32) (m_s : Nat → Int32) (a1 : Int32) : Option (Int32) :=
    gX7_bestWith_L8 m_told m_s a1 1000 (-9) 0 0

def gX7_woman (m_told : Nat → Int32) (m_s : Nat → Int32) (a1 : Int32) (a2 : Int32) : Option (Int32) :=
    wq_b1 (gX7_isWoman m_told a1) (fun v2 =>
    if v2 = 0 then
    some (-1)
    else
    (if a2 = 0 then
    wq_chk (4 + a1) 8 (some (m_s (Int32.toNatClampNeg (4 + a1))))
    else
    (if a2 = 1 then
    wq_b1 (gX7_isIll m_s a1) (fun v9 =>
    if v9 = 0 then
    some 0
    else
    some 1)
    else
    (if a2 = 2 then
    wq_b1 (gX7_bestWith m_told m_s a1) (fun v14 =>
    some v14)
    else
    some (-1)))))

def gX7_with_L7 (m_told : Nat → Int32) (m_s : Nat → Int32) : Nat → Int32 → Int32 → Int32 → Option (Int32)
  | 0, _, _, _ => none
  | n + 1, x1, x2, x3 =>
    if (m_told 1) ≤ x3 then
    some x1
    else
    wq_b1 (gX7_bestWith m_told m_s x3) (fun v3 =>
    if v3 = (-9) then
    (if 0 ≤ x2 then
    gX7_with_L7 m_told m_s n x1 x2 (x3 + 1)
    else
    gX7_with_L7 m_told m_s n x3 0 (x3 + 1))
    else
    wq_b1 (gX7_isIll m_s x3) (fun v10 =>
    if v10 = 0 then
    wq_chk (4 + x3) 8 (wq_b1 (gX7_calmTo m_told v3 (m_s 1) (m_s (Int32.toNatClampNeg (4 + x3)))) (fun v15 =>
    if v15 ≤ x2 then
    gX7_with_L7 m_told m_s n x1 x2 (x3 + 1)
    else
    gX7_with_L7 m_told m_s n x3 v15 (x3 + 1)))
    else
    (if 0 ≤ x2 then
    gX7_with_L7 m_told m_s n x1 x2 (x3 + 1)
    else
    gX7_with_L7 m_told m_s n x3 0 (x3 + 1))))
def gX7_with (m_told : Nat → Int32) (m_s : Nat → Int32) : Option (Int32) :=
    gX7_with_L7 m_told m_s 1000 (-9) 0 0

def gX7_now (m_told : Nat → Int32) (m_s : Nat → Int32) (m_known : Int32) (a1 : Int32) : Option (Int32) :=
    if a1 = 0 then
    some (m_s 0)
    else
    (if a1 = 1 then
    some (m_s 1)
    else
    (if a1 = 2 then
    some (m_s 2)
    else
    (if a1 = 3 then
    wq_b1 (gX7_with m_told m_s) (fun v6 =>
    some v6)
    else
    (if a1 = 4 then
    some (m_s 3)
    else
    (if a1 = 5 then
    some m_known
    else
    some (-1))))))

def gX7_keeps_L50 (m_s : Nat → Int32) (z_m_known : Int32) : Nat → Int32 → (Nat → Int32) → Option ((Nat → Int32) × Int32)
  | 0, _, _ => none
  | n + 1, x1, z_m_past =>
    if 8 ≤ x1 then
    some (z_m_past, (z_m_known + 1))
    else
    wq_chk x1 8 (wq_chk ((8 * z_m_known) + x1) 80 (gX7_keeps_L50 m_s z_m_known n (x1 + 1) (upd z_m_past (Int32.toNatClampNeg ((8 * z_m_known) + x1)) (m_s (Int32.toNatClampNeg x1)))))
def gX7_keeps_L11 (m_s : Nat → Int32) (z_m_known : Int32) : Nat → Int32 → (Nat → Int32) → Option ((Nat → Int32) × Int32)
  | 0, _, _ => none
  | n + 1, x1, z_m_past =>
    if 72 ≤ x1 then
    gX7_keeps_L50 m_s (z_m_known - 1) 1000 0 z_m_past
    else
    wq_chk (x1 + 8) 80 (wq_chk x1 80 (gX7_keeps_L11 m_s z_m_known n (x1 + 1) (upd z_m_past (Int32.toNatClampNeg x1) (z_m_past (Int32.toNatClampNeg (x1 + 8))))))
def gX7_keeps (m_s : Nat → Int32) (m_past : Nat → Int32) (m_known : Int32) : Option ((Nat → Int32) × Int32) :=
    if m_known = 10 then
    gX7_keeps_L11 m_s m_known 1000 0 m_past
    else
    gX7_keeps_L50 m_s m_known 1000 0 m_past

def gX7_cries (a0 : Int32) (a1 : Int32) (a2 : Int32) (a3 : Int32) (a4 : Int32) : Option (Int32) :=
    if a3 ≤ (2 * a2) then
    wq_b1 (gX7_bound ((a0 + (a1 * 0)) - a4) 0 60) (fun v3 =>
    some v3)
    else
    wq_b1 (gX7_bound ((a0 + (a1 * (a3 - (2 * a2)))) - a4) 0 60) (fun v6 =>
    some v6)

def gX7_criesNow (m_told : Nat → Int32) (m_s : Nat → Int32) (a1 : Int32) (a2 : Int32) (a3 : Int32) : Option (Int32) :=
    wq_chk (8 + a1) 22 (wq_chk (4 + a3) 8 (wq_b1 (gX7_cries (m_told (Int32.toNatClampNeg (8 + a1))) (m_told 2) (m_s 1) a2 (m_s (Int32.toNatClampNeg (4 + a3)))) (fun v4 =>
    some v4)))

def gX7_goes (m_told : Nat → Int32) (m_s : Nat → Int32) (a1 : Int32) (a2 : Int32) (a3 : Int32) : Option (Int32 × (Nat → Int32)) :=
    wq_b1 (gX7_criesNow m_told m_s a1 a2 a3) (fun v2 =>
    if (m_told 3) < v2 then
    (if v2 < (m_told 4) then
    some (v2, (upd m_s 0 ((m_s 0) + 1)))
    else
    wq_b1 (gX7_bound ((m_s 1) - 2) 0 24) (fun v7 =>
    wq_chk (4 + a3) 8 (wq_b1 (gX7_bound (((upd m_s 1 v7) (Int32.toNatClampNeg (4 + a3))) - 1) 0 9) (fun v11 =>
    some (v2, (upd (upd (upd m_s 1 v7) (Int32.toNatClampNeg (4 + a3)) v11) 0 (((upd (upd m_s 1 v7) (Int32.toNatClampNeg (4 + a3)) v11) 0) + 1)))))))
    else
    wq_chk (13 + a1) 22 (wq_b1 (gX7_bound ((m_s 1) + (m_told (Int32.toNatClampNeg (13 + a1)))) 0 24) (fun v15 =>
    wq_chk (4 + a3) 8 (wq_b1 (gX7_bound (((upd m_s 1 v15) (Int32.toNatClampNeg (4 + a3))) + 1) 0 9) (fun v19 =>
    if a2 < (m_told 5) then
    some (v2, (upd (upd (upd (upd m_s 1 v15) (Int32.toNatClampNeg (4 + a3)) v19) 2 ((upd (upd m_s 1 v15) (Int32.toNatClampNeg (4 + a3)) v19) 2)) 0 (((upd (upd (upd m_s 1 v15) (Int32.toNatClampNeg (4 + a3)) v19) 2 ((upd (upd m_s 1 v15) (Int32.toNatClampNeg (4 + a3)) v19) 2)) 0) + 1)))
    else
    some (v2, (upd (upd (upd (upd m_s 1 v15) (Int32.toNatClampNeg (4 + a3)) v19) 2 1) 0 (((upd (upd (upd m_s 1 v15) (Int32.toNatClampNeg (4 + a3)) v19) 2 1) 0) + 1))))))))

def gX7_isMorning (m_told : Nat → Int32) (a1 : Int32) (a2 : Int32) (a3 : Int32) : Option (Int32) :=
    wq_b1 (gX7_isGoodbye m_told a1) (fun v2 =>
    if v2 = 0 then
    some 0
    else
    wq_b1 (gX7_in a2 1 96) (fun v6 =>
    if v6 = 0 then
    some 0
    else
    wq_b1 (gX7_isWoman m_told a3) (fun v10 =>
    if v10 = 0 then
    some 0
    else
    some 1)))

def gX7_morning (m_told : Nat → Int32) (m_s : Nat → Int32) (m_past : Nat → Int32) (m_known : Int32) (a1 : Int32) (a2 : Int32) (a3 : Int32) : Option (Int32 × (Nat → Int32) × (Nat → Int32) × Int32) :=
    wq_b1 (gX7_isMorning m_told a1 a2 a3) (fun v2 =>
    if v2 = 0 then
    some ((-1), m_s, m_past, m_known)
    else
    wq_b1 (gX7_isIll m_s a3) (fun v6 =>
    if v6 = 0 then
    (if (m_s 0) = 999 then
    some ((-2), m_s, m_past, m_known)
    else
    wq_b2 (gX7_keeps m_s m_past m_known) (fun w11 w12 =>
    wq_b2 (gX7_goes m_told m_s a1 a2 a3) (fun v14 w15 =>
    some (v14, w15, w11, w12))))
    else
    some ((-2), m_s, m_past, m_known)))

def gX7_home (m_s : Nat → Int32) (m_past : Nat → Int32) (m_known : Int32) (a1 : Int32) : Option (Int32 × (Nat → Int32) × (Nat → Int32) × Int32) :=
    wq_b1 (gX7_in a1 1 9) (fun v2 =>
    if v2 = 0 then
    some ((-1), m_s, m_past, m_known)
    else
    (if ((m_s 0) + a1) ≤ 999 then
    wq_b2 (gX7_keeps m_s m_past m_known) (fun w7 w8 =>
    wq_b1 (gX7_bound (((upd m_s 0 ((m_s 0) + a1)) 1) - a1) 0 24) (fun v10 =>
    some (((upd (upd m_s 0 ((m_s 0) + a1)) 1 v10) 1), (upd (upd m_s 0 ((m_s 0) + a1)) 1 v10), w7, w8)))
    else
    some ((-2), m_s, m_past, m_known)))

def gX7_falls (m_told : Nat → Int32) (m_s : Nat → Int32) (m_past : Nat → Int32) (m_known : Int32) (a1 : Int32) (a2 : Int32) : Option (Int32 × (Nat → Int32) × (Nat → Int32) × Int32) :=
    wq_b1 (gX7_isWoman m_told a1) (fun v2 =>
    if v2 = 0 then
    some ((-1), m_s, m_past, m_known)
    else
    wq_b1 (gX7_in a2 0 1) (fun v6 =>
    if v6 = 0 then
    some ((-1), m_s, m_past, m_known)
    else
    (if (((m_s 3) >>> (a1 &&& 31)) &&& 1) = a2 then
    some ((-2), m_s, m_past, m_known)
    else
    wq_b2 (gX7_keeps m_s m_past m_known) (fun w11 w12 =>
    wq_b1 (gX7_ones ((upd m_s 3 ((m_s 3) ^^^ (1 <<< (a1 &&& 31)))) 3)) (fun v14 =>
    some (v14, (upd m_s 3 ((m_s 3) ^^^ (1 <<< (a1 &&& 31)))), w11, w12))))))

def gX7_undo_L22 (m_past : Nat → Int32) (z_m_known : Int32) : Nat → Int32 → (Nat → Int32) → Option (Int32 × (Nat → Int32) × Int32)
  | 0, _, _ => none
  | n + 1, x1, z_m_s =>
    if 8 ≤ x1 then
    some (z_m_known, z_m_s, z_m_known)
    else
    wq_chk ((8 * z_m_known) + x1) 80 (wq_chk x1 8 (gX7_undo_L22 m_past z_m_known n (x1 + 1) (upd z_m_s (Int32.toNatClampNeg x1) (m_past (Int32.toNatClampNeg ((8 * z_m_known) + x1))))))
def gX7_undo (m_s : Nat → Int32) (m_past : Nat → Int32) (m_known : Int32) : Option (Int32 × (Nat → Int32) × Int32) :=
    if m_known = 0 then
    some ((-2), m_s, m_known)
    else
    gX7_undo_L22 m_past (m_known - 1) 1000 0 m_s

def gX7_would (m_told : Nat → Int32) (m_s : Nat → Int32) (a1 : Int32) (a2 : Int32) (a3 : Int32) : Option (Int32) :=
    wq_b1 (gX7_isMorning m_told a1 a2 a3) (fun v2 =>
    if v2 = 0 then
    some (-1)
    else
    wq_b1 (gX7_criesNow m_told m_s a1 a2 a3) (fun v6 =>
    some v6))

def gX7_farthest (m_told : Nat → Int32) (m_s : Nat → Int32) (a1 : Int32) (a2 : Int32) : Option (Int32) :=
    wq_b1 (gX7_isGoodbye m_told a1) (fun v2 =>
    if v2 = 0 then
    some (-1)
    else
    wq_b1 (gX7_isWoman m_told a2) (fun v6 =>
    if v6 = 0 then
    some (-1)
    else
    wq_chk (4 + a2) 8 (wq_b1 (gX7_calmTo m_told a1 (m_s 1) (m_s (Int32.toNatClampNeg (4 + a2)))) (fun v11 =>
    if v11 = 0 then
    some (-9)
    else
    some v11))))

def gX7_place (a0 : Int32) (a1 : Int32) : Option (Int32) :=
    wq_b1 (gX7_bound a0 0 24) (fun v2 =>
    wq_b1 (gX7_bound a1 0 9) (fun v5 =>
    some ((10 * v2) + v5)))

def gX7_calmly (m_told : Nat → Int32) (a1 : Int32) (a2 : Int32) (a3 : Int32) : Option (Int32) :=
    wq_chk (13 + a1) 22 (wq_b1 (gX7_place (a2 + (m_told (Int32.toNatClampNeg (13 + a1)))) (a3 + 1)) (fun v3 =>
    some v3))

def gX7_wildly (a0 : Int32) (a1 : Int32) : Option (Int32) :=
    wq_b1 (gX7_place (a0 - 2) (a1 - 1)) (fun v2 =>
    some v2)

def gX7_waysFrom_L6 (m_told : Nat → Int32) (m_steps : Nat → Int32) (m_rows : Nat → Int32) (a1 : Int32) (a2 : Int32) (a3 : Int32) : Nat → Int32 → Int32 → Option (Int32)
  | 0, _, _ => none
  | n + 1, x4, x5 =>
    if (m_told 0) ≤ x5 then
    some (x4 - x4 / 1000003 * 1000003)
    else
    wq_b1 (gX7_calmTo m_told x5 a1 a2) (fun v3 =>
    wq_b1 (gX7_wildFrom m_told x5 a1 a2) (fun v6 =>
    wq_b1 (gX7_calmly m_told x5 a1 a2) (fun v9 =>
    if a3 = 1 then
    (if v3 < (m_told 5) then
    gX7_waysFrom_L6 m_told m_steps m_rows a1 a2 a3 n (x4 + 0) (x5 + 1)
    else
    gX7_waysFrom_L6 m_told m_steps m_rows a1 a2 a3 n (x4 + ((v3 - (m_told 5)) + 1)) (x5 + 1))
    else
    wq_chk v9 250 (if (m_steps (Int32.toNatClampNeg v9)) = (a3 - 1) then
    wq_b1 (gX7_wildly a1 a2) (fun v21 =>
    if 96 < v6 then
    gX7_waysFrom_L6 m_told m_steps m_rows a1 a2 a3 n ((x4 + ((v3 * (m_rows (Int32.toNatClampNeg v9))) - (v3 * (m_rows (Int32.toNatClampNeg v9))) / 1000003 * 1000003)) + 0) (x5 + 1)
    else
    wq_chk v21 250 (if (m_steps (Int32.toNatClampNeg v21)) = (a3 - 1) then
    gX7_waysFrom_L6 m_told m_steps m_rows a1 a2 a3 n ((x4 + ((v3 * (m_rows (Int32.toNatClampNeg v9))) - (v3 * (m_rows (Int32.toNatClampNeg v9))) / 1000003 * 1000003)) + ((((96 - v6) + 1) * (m_rows (Int32.toNatClampNeg v21))) - (((96 - v6) + 1) * (m_rows (Int32.toNatClampNeg v21))) / 1000003 * 1000003)) (x5 + 1)
    else
    gX7_waysFrom_L6 m_told m_steps m_rows a1 a2 a3 n ((x4 + ((v3 * (m_rows (Int32.toNatClampNeg v9))) - (v3 * (m_rows (Int32.toNatClampNeg v9))) / 1000003 * 1000003)) + 0) (x5 + 1)))
    else
    wq_b1 (gX7_wildly a1 a2) (fun v15 =>
    if 96 < v6 then
    gX7_waysFrom_L6 m_told m_steps m_rows a1 a2 a3 n ((x4 + 0) + 0) (x5 + 1)
    else
    wq_chk v15 250 (if (m_steps (Int32.toNatClampNeg v15)) = (a3 - 1) then
    gX7_waysFrom_L6 m_told m_steps m_rows a1 a2 a3 n ((x4 + 0) + ((((96 - v6) + 1) * (m_rows (Int32.toNatClampNeg v15))) - (((96 - v6) + 1) * (m_rows (Int32.toNatClampNeg v15))) / 1000003 * 1000003)) (x5 + 1)
    else
    gX7_waysFrom_L6 m_told m_steps m_rows a1 a2 a3 n ((x4 + 0) + 0) (x5 + 1)))))))
def gX7_waysFrom (m_told : Nat → Int32) (m_steps : Nat → Int32) (m_rows : Nat → Int32) (a1 : Int32) (a2 : Int32) (a3 : Int32) : Option (Int32) :=
    gX7_waysFrom_L6 m_told m_steps m_rows a1 a2 a3 1000 0 0

def gX7_isNearer_L6 (m_told : Nat → Int32) (m_steps : Nat → Int32) (a1 : Int32) (a2 : Int32) (a3 : Int32) : Nat → Int32 → Int32 → Option (Int32)
  | 0, _, _ => none
  | n + 1, x4, x5 =>
    if (m_told 0) ≤ x5 then
    wq_z01 x4 (some x4)
    else
    wq_b1 (gX7_calmTo m_told x5 a1 a2) (fun v4 =>
    if a3 = 1 then
    (if v4 < (m_told 5) then
    (if a3 ≤ 1 then
    (if x4 = 0 then
    gX7_isNearer_L6 m_told m_steps a1 a2 a3 n 0 (x5 + 1)
    else
    gX7_isNearer_L6 m_told m_steps a1 a2 a3 n 1 (x5 + 1))
    else
    wq_b1 (gX7_wildFrom m_told x5 a1 a2) (fun v81 =>
    if 96 < v81 then
    (if x4 = 0 then
    gX7_isNearer_L6 m_told m_steps a1 a2 a3 n 0 (x5 + 1)
    else
    gX7_isNearer_L6 m_told m_steps a1 a2 a3 n 1 (x5 + 1))
    else
    wq_b1 (gX7_wildly a1 a2) (fun v88 =>
    wq_chk v88 250 (if (m_steps (Int32.toNatClampNeg v88)) = (a3 - 1) then
    (if x4 = 0 then
    gX7_isNearer_L6 m_told m_steps a1 a2 a3 n 1 (x5 + 1)
    else
    gX7_isNearer_L6 m_told m_steps a1 a2 a3 n 1 (x5 + 1))
    else
    (if x4 = 0 then
    gX7_isNearer_L6 m_told m_steps a1 a2 a3 n 0 (x5 + 1)
    else
    gX7_isNearer_L6 m_told m_steps a1 a2 a3 n 1 (x5 + 1))))))
    else
    (if a3 ≤ 1 then
    (if x4 = 0 then
    gX7_isNearer_L6 m_told m_steps a1 a2 a3 n 1 (x5 + 1)
    else
    gX7_isNearer_L6 m_told m_steps a1 a2 a3 n 1 (x5 + 1))
    else
    wq_b1 (gX7_wildFrom m_told x5 a1 a2) (fun v102 =>
    if 96 < v102 then
    (if x4 = 0 then
    gX7_isNearer_L6 m_told m_steps a1 a2 a3 n 1 (x5 + 1)
    else
    gX7_isNearer_L6 m_told m_steps a1 a2 a3 n 1 (x5 + 1))
    else
    wq_b1 (gX7_wildly a1 a2) (fun v108 =>
    wq_chk v108 250 (if (m_steps (Int32.toNatClampNeg v108)) = (a3 - 1) then
    (if x4 = 0 then
    gX7_isNearer_L6 m_told m_steps a1 a2 a3 n 1 (x5 + 1)
    else
    gX7_isNearer_L6 m_told m_steps a1 a2 a3 n 1 (x5 + 1))
    else
    (if x4 = 0 then
    gX7_isNearer_L6 m_told m_steps a1 a2 a3 n 1 (x5 + 1)
    else
    gX7_isNearer_L6 m_told m_steps a1 a2 a3 n 1 (x5 + 1)))))))
    else
    (if v4 ≤ 0 then
    (if a3 ≤ 1 then
    (if x4 = 0 then
    gX7_isNearer_L6 m_told m_steps a1 a2 a3 n 0 (x5 + 1)
    else
    gX7_isNearer_L6 m_told m_steps a1 a2 a3 n 1 (x5 + 1))
    else
    wq_b1 (gX7_wildFrom m_told x5 a1 a2) (fun v13 =>
    if 96 < v13 then
    (if x4 = 0 then
    gX7_isNearer_L6 m_told m_steps a1 a2 a3 n 0 (x5 + 1)
    else
    gX7_isNearer_L6 m_told m_steps a1 a2 a3 n 1 (x5 + 1))
    else
    wq_b1 (gX7_wildly a1 a2) (fun v20 =>
    wq_chk v20 250 (if (m_steps (Int32.toNatClampNeg v20)) = (a3 - 1) then
    (if x4 = 0 then
    gX7_isNearer_L6 m_told m_steps a1 a2 a3 n 1 (x5 + 1)
    else
    gX7_isNearer_L6 m_told m_steps a1 a2 a3 n 1 (x5 + 1))
    else
    (if x4 = 0 then
    gX7_isNearer_L6 m_told m_steps a1 a2 a3 n 0 (x5 + 1)
    else
    gX7_isNearer_L6 m_told m_steps a1 a2 a3 n 1 (x5 + 1))))))
    else
    wq_b1 (gX7_calmly m_told x5 a1 a2) (fun v31 =>
    wq_chk v31 250 (if (m_steps (Int32.toNatClampNeg v31)) = (a3 - 1) then
    (if a3 ≤ 1 then
    (if x4 = 0 then
    gX7_isNearer_L6 m_told m_steps a1 a2 a3 n 1 (x5 + 1)
    else
    gX7_isNearer_L6 m_told m_steps a1 a2 a3 n 1 (x5 + 1))
    else
    wq_b1 (gX7_wildFrom m_told x5 a1 a2) (fun v61 =>
    if 96 < v61 then
    (if x4 = 0 then
    gX7_isNearer_L6 m_told m_steps a1 a2 a3 n 1 (x5 + 1)
    else
    gX7_isNearer_L6 m_told m_steps a1 a2 a3 n 1 (x5 + 1))
    else
    wq_b1 (gX7_wildly a1 a2) (fun v67 =>
    wq_chk v67 250 (if (m_steps (Int32.toNatClampNeg v67)) = (a3 - 1) then
    (if x4 = 0 then
    gX7_isNearer_L6 m_told m_steps a1 a2 a3 n 1 (x5 + 1)
    else
    gX7_isNearer_L6 m_told m_steps a1 a2 a3 n 1 (x5 + 1))
    else
    (if x4 = 0 then
    gX7_isNearer_L6 m_told m_steps a1 a2 a3 n 1 (x5 + 1)
    else
    gX7_isNearer_L6 m_told m_steps a1 a2 a3 n 1 (x5 + 1))))))
    else
    (if a3 ≤ 1 then
    (if x4 = 0 then
    gX7_isNearer_L6 m_told m_steps a1 a2 a3 n 0 (x5 + 1)
    else
    gX7_isNearer_L6 m_told m_steps a1 a2 a3 n 1 (x5 + 1))
    else
    wq_b1 (gX7_wildFrom m_told x5 a1 a2) (fun v40 =>
    if 96 < v40 then
    (if x4 = 0 then
    gX7_isNearer_L6 m_told m_steps a1 a2 a3 n 0 (x5 + 1)
    else
    gX7_isNearer_L6 m_told m_steps a1 a2 a3 n 1 (x5 + 1))
    else
    wq_b1 (gX7_wildly a1 a2) (fun v47 =>
    wq_chk v47 250 (if (m_steps (Int32.toNatClampNeg v47)) = (a3 - 1) then
    (if x4 = 0 then
    gX7_isNearer_L6 m_told m_steps a1 a2 a3 n 1 (x5 + 1)
    else
    gX7_isNearer_L6 m_told m_steps a1 a2 a3 n 1 (x5 + 1))
    else
    (if x4 = 0 then
    gX7_isNearer_L6 m_told m_steps a1 a2 a3 n 0 (x5 + 1)
    else
    gX7_isNearer_L6 m_told m_steps a1 a2 a3 n 1 (x5 + 1))))))))))
def gX7_isNearer (m_told : Nat → Int32) (m_steps : Nat → Int32) (a1 : Int32) (a2 : Int32) (a3 : Int32) : Option (Int32) :=
    gX7_isNearer_L6 m_told m_steps a1 a2 a3 1000 0 0

def gX7_reckons_L63 (kk53 : Int32 → (Nat → Int32) → (Nat → Int32) → Option (Int32 × (Nat → Int32) × (Nat → Int32))) (kk31 : Int32 → (Nat → Int32) → (Nat → Int32) → Option (Int32 × (Nat → Int32) × (Nat → Int32))) (m_told : Nat → Int32) (a1 : Int32) (a2 : Int32) (x3 : Int32) (x4 : Int32) : Nat → Int32 → (Nat → Int32) → (Nat → Int32) → Option (Int32 × (Nat → Int32) × (Nat → Int32))
  | 0, _, _, _ => none
  | n + 1, x5, z_m_steps, z_m_rows =>
    if 9 < x5 then
    kk53 (x4 + 1) z_m_steps z_m_rows
    else
    wq_b1 (gX7_place x4 x5) (fun v3 =>
    wq_chk v3 250 (if (z_m_steps (Int32.toNatClampNeg v3)) = 0 then
    wq_b1 (gX7_isNearer m_told z_m_steps x4 x5 x3) (fun v8 =>
    if v8 = 0 then
    gX7_reckons_L63 kk53 kk31 m_told a1 a2 x3 x4 n (x5 + 1) z_m_steps z_m_rows
    else
    wq_b1 (gX7_place x4 x5) (fun v12 =>
    wq_b1 (gX7_waysFrom m_told z_m_steps z_m_rows x4 x5 x3) (fun v15 =>
    wq_chk v12 250 (wq_b1 (gX7_place x4 x5) (fun v19 =>
    wq_chk v19 250 (gX7_reckons_L63 kk53 kk31 m_told a1 a2 x3 x4 n (x5 + 1) (upd z_m_steps (Int32.toNatClampNeg v19) x3) (upd z_m_rows (Int32.toNatClampNeg v12) v15)))))))
    else
    gX7_reckons_L63 kk53 kk31 m_told a1 a2 x3 x4 n (x5 + 1) z_m_steps z_m_rows))
def gX7_reckons_L53 (kk31 : Int32 → (Nat → Int32) → (Nat → Int32) → Option (Int32 × (Nat → Int32) × (Nat → Int32))) (m_told : Nat → Int32) (a1 : Int32) (a2 : Int32) (x3 : Int32) : Nat → Int32 → (Nat → Int32) → (Nat → Int32) → Option (Int32 × (Nat → Int32) × (Nat → Int32))
  | 0, _, _, _ => none
  | n + 1, x4, z_m_steps, z_m_rows =>
    if 24 < x4 then
    kk31 (x3 + 1) z_m_steps z_m_rows
    else
    gX7_reckons_L63 (gX7_reckons_L53 kk31 m_told a1 a2 x3 n) kk31 m_told a1 a2 x3 x4 1000 0 z_m_steps z_m_rows
def gX7_reckons_L31 (m_told : Nat → Int32) (a1 : Int32) (a2 : Int32) : Nat → Int32 → (Nat → Int32) → (Nat → Int32) → Option (Int32 × (Nat → Int32) × (Nat → Int32))
  | 0, _, _, _ => none
  | n + 1, x3, z_m_steps, z_m_rows =>
    if 60 < x3 then
    wq_b1 (gX7_place a1 a2) (fun v25 =>
    wq_chk v25 250 (if (z_m_steps (Int32.toNatClampNeg v25)) = 0 then
    some ((-9), z_m_steps, z_m_rows)
    else
    some ((z_m_steps (Int32.toNatClampNeg v25)), z_m_steps, z_m_rows)))
    else
    wq_b1 (gX7_place a1 a2) (fun v30 =>
    wq_chk v30 250 (if (z_m_steps (Int32.toNatClampNeg v30)) = 0 then
    gX7_reckons_L53 (gX7_reckons_L31 m_told a1 a2 n) m_told a1 a2 x3 1000 0 z_m_steps z_m_rows
    else
    wq_b1 (gX7_place a1 a2) (fun v35 =>
    wq_chk v35 250 (if (z_m_steps (Int32.toNatClampNeg v35)) = 0 then
    some ((-9), z_m_steps, z_m_rows)
    else
    some ((z_m_steps (Int32.toNatClampNeg v35)), z_m_steps, z_m_rows)))))
def gX7_reckons_L2 (m_told : Nat → Int32) (a1 : Int32) (a2 : Int32) : Nat → Int32 → (Nat → Int32) → (Nat → Int32) → Option (Int32 × (Nat → Int32) × (Nat → Int32))
  | 0, _, _, _ => none
  | n + 1, x3, z_m_steps, z_m_rows =>
    if 250 ≤ x3 then
    gX7_reckons_L31 m_told a1 a2 1000 1 z_m_steps z_m_rows
    else
    wq_chk x3 250 (gX7_reckons_L2 m_told a1 a2 n (x3 + 1) (upd z_m_steps (Int32.toNatClampNeg x3) 0) (upd z_m_rows (Int32.toNatClampNeg x3) 0))
def gX7_reckons (m_told : Nat → Int32) (m_steps : Nat → Int32) (m_rows : Nat → Int32) (a1 : Int32) (a2 : Int32) : Option (Int32 × (Nat → Int32) × (Nat → Int32)) :=
    gX7_reckons_L2 m_told a1 a2 1000 0 m_steps m_rows

def gX7_firstFrom_L14 (m_told : Nat → Int32) (m_steps : Nat → Int32) (a1 : Int32) (a2 : Int32) (a3 : Int32) : Nat → Int32 → Int32 → Option (Int32)
  | 0, _, _ => none
  | n + 1, x4, x5 =>
    if x5 < 0 then
    some x4
    else
    wq_b1 (gX7_calmTo m_told x5 a1 a2) (fun v3 =>
    wq_b1 (gX7_wildFrom m_told x5 a1 a2) (fun v6 =>
    if a3 = 1 then
    (if v3 < (m_told 5) then
    gX7_firstFrom_L14 m_told m_steps a1 a2 a3 n x4 (x5 + (-1))
    else
    gX7_firstFrom_L14 m_told m_steps a1 a2 a3 n ((100 * x5) + (m_told 5)) (x5 + (-1)))
    else
    (if 96 < v6 then
    (if v3 ≤ 0 then
    gX7_firstFrom_L14 m_told m_steps a1 a2 a3 n x4 (x5 + (-1))
    else
    wq_b1 (gX7_calmly m_told x5 a1 a2) (fun v12 =>
    wq_chk v12 250 (if (m_steps (Int32.toNatClampNeg v12)) = (a3 - 1) then
    gX7_firstFrom_L14 m_told m_steps a1 a2 a3 n ((100 * x5) + 1) (x5 + (-1))
    else
    gX7_firstFrom_L14 m_told m_steps a1 a2 a3 n x4 (x5 + (-1)))))
    else
    wq_b1 (gX7_wildly a1 a2) (fun v17 =>
    wq_chk v17 250 (if (m_steps (Int32.toNatClampNeg v17)) = (a3 - 1) then
    (if v3 ≤ 0 then
    gX7_firstFrom_L14 m_told m_steps a1 a2 a3 n ((100 * x5) + v6) (x5 + (-1))
    else
    wq_b1 (gX7_calmly m_told x5 a1 a2) (fun v29 =>
    wq_chk v29 250 (if (m_steps (Int32.toNatClampNeg v29)) = (a3 - 1) then
    gX7_firstFrom_L14 m_told m_steps a1 a2 a3 n ((100 * x5) + 1) (x5 + (-1))
    else
    gX7_firstFrom_L14 m_told m_steps a1 a2 a3 n ((100 * x5) + v6) (x5 + (-1)))))
    else
    (if v3 ≤ 0 then
    gX7_firstFrom_L14 m_told m_steps a1 a2 a3 n x4 (x5 + (-1))
    else
    wq_b1 (gX7_calmly m_told x5 a1 a2) (fun v23 =>
    wq_chk v23 250 (if (m_steps (Int32.toNatClampNeg v23)) = (a3 - 1) then
    gX7_firstFrom_L14 m_told m_steps a1 a2 a3 n ((100 * x5) + 1) (x5 + (-1))
    else
    gX7_firstFrom_L14 m_told m_steps a1 a2 a3 n x4 (x5 + (-1))))))))))
def gX7_firstFrom (m_told : Nat → Int32) (m_steps : Nat → Int32) (a1 : Int32) (a2 : Int32) (a3 : Int32) : Option (Int32) :=
    gX7_firstFrom_L14 m_told m_steps a1 a2 a3 1000 (-9) ((m_told 0) - 1)

def gX7_plan_L63 (m_told : Nat → Int32) (z_m_steps : Nat → Int32) (z_m_rows : Nat → Int32) (a2 : Int32) (x5 : Int32) : Nat → Int32 → Int32 → Int32 → Int32 → Option (Int32 × (Nat → Int32) × (Nat → Int32))
  | 0, _, _, _, _ => none
  | n + 1, x3, x4, x6, x7 =>
    if a2 < x7 then
    (if x5 ≤ a2 then
    some ((-5), z_m_steps, z_m_rows)
    else
    some (x6, z_m_steps, z_m_rows))
    else
    (if x5 ≤ x7 then
    (if x5 ≤ a2 then
    some ((-5), z_m_steps, z_m_rows)
    else
    some (x6, z_m_steps, z_m_rows))
    else
    wq_b1 (gX7_firstFrom m_told z_m_steps x3 x4 (x5 - x7)) (fun v6 =>
    wq_b1 (gX7_calmTo m_told (v6 / 100) x3 x4) (fun v9 =>
    if v9 < (v6 - v6 / 100 * 100) then
    wq_b1 (gX7_wildly x3 x4) (fun v13 =>
    gX7_plan_L63 m_told z_m_steps z_m_rows a2 x5 n (v13 / 10) (v13 - v13 / 10 * 10) v6 (x7 + 1))
    else
    wq_b1 (gX7_calmly m_told (v6 / 100) x3 x4) (fun v16 =>
    gX7_plan_L63 m_told z_m_steps z_m_rows a2 x5 n (v16 / 10) (v16 - v16 / 10 * 10) v6 (x7 + 1)))))
def gX7_plan (m_told : Nat → Int32) (m_s : Nat → Int32) (m_steps : Nat → Int32) (m_rows : Nat → Int32) (a1 : Int32) (a2 : Int32) : Option (Int32 × (Nat → Int32) × (Nat → Int32)) :=
    wq_b1 (gX7_isWoman m_told a1) (fun v19 =>
    if v19 = 0 then
    some ((-1), m_steps, m_rows)
    else
    (if (-1) ≤ a2 then
    wq_chk (4 + a1) 8 (wq_b3 (gX7_reckons m_told m_steps m_rows (m_s 1) (m_s (Int32.toNatClampNeg (4 + a1)))) (fun v25 w26 w27 =>
    if v25 = (-9) then
    some (v25, w26, w27)
    else
    (if a2 = (-1) then
    some (v25, w26, w27)
    else
    gX7_plan_L63 m_told w26 w27 a2 v25 1000 (m_s 1) (m_s (Int32.toNatClampNeg (4 + a1))) (-5) 0)))
    else
    some ((-1), m_steps, m_rows)))

def gX7_ways (m_told : Nat → Int32) (m_s : Nat → Int32) (m_steps : Nat → Int32) (m_rows : Nat → Int32) (a1 : Int32) : Option (Int32 × (Nat → Int32) × (Nat → Int32)) :=
    wq_b1 (gX7_isWoman m_told a1) (fun v2 =>
    if v2 = 0 then
    some ((-1), m_steps, m_rows)
    else
    wq_chk (4 + a1) 8 (wq_b3 (gX7_reckons m_told m_steps m_rows (m_s 1) (m_s (Int32.toNatClampNeg (4 + a1)))) (fun v7 w8 w9 =>
    if v7 = (-9) then
    some (0, w8, w9)
    else
    wq_b1 (gX7_place (m_s 1) (m_s (Int32.toNatClampNeg (4 + a1)))) (fun v13 =>
    wq_chk v13 250 (some ((w9 (Int32.toNatClampNeg v13)), w8, w9))))))

def gX7_holds_L2 (m_s : Nat → Int32) : Nat → Int32 → (Nat → Int32) → Option ((Nat → Int32))
  | 0, _, _ => none
  | n + 1, x1, z_m_held =>
    if 8 ≤ x1 then
    some z_m_held
    else
    wq_chk x1 8 (gX7_holds_L2 m_s n (x1 + 1) (upd z_m_held (Int32.toNatClampNeg x1) (m_s (Int32.toNatClampNeg x1))))
def gX7_holds (m_s : Nat → Int32) (m_held : Nat → Int32) : Option ((Nat → Int32)) :=
    gX7_holds_L2 m_s 1000 0 m_held

def gX7_lets_L2 (m_held : Nat → Int32) : Nat → Int32 → (Nat → Int32) → Option ((Nat → Int32))
  | 0, _, _ => none
  | n + 1, x1, z_m_s =>
    if 8 ≤ x1 then
    some z_m_s
    else
    wq_chk x1 8 (gX7_lets_L2 m_held n (x1 + 1) (upd z_m_s (Int32.toNatClampNeg x1) (m_held (Int32.toNatClampNeg x1))))
def gX7_lets (m_s : Nat → Int32) (m_held : Nat → Int32) : Option ((Nat → Int32)) :=
    gX7_lets_L2 m_held 1000 0 m_s

def gX7_setback (m_told : Nat → Int32) (m_s : Nat → Int32) (m_steps : Nat → Int32) (m_rows : Nat → Int32) (m_held : Nat → Int32) (a1 : Int32) (a2 : Int32) (a3 : Int32) : Option (Int32 × (Nat → Int32) × (Nat → Int32) × (Nat → Int32) × (Nat → Int32)) :=
    wq_b1 (gX7_isMorning m_told a1 a2 a3) (fun v2 =>
    if v2 = 0 then
    some ((-1000000), m_s, m_steps, m_rows, m_held)
    else
    wq_chk (4 + a3) 8 (wq_b3 (gX7_reckons m_told m_steps m_rows (m_s 1) (m_s (Int32.toNatClampNeg (4 + a3)))) (fun v7 w8 w9 =>
    wq_b1 (gX7_holds m_s m_held) (fun w12 =>
    wq_b2 (gX7_goes m_told m_s a1 a2 a3) (fun v14 w15 =>
    wq_b3 (gX7_reckons m_told w8 w9 (w15 1) (w15 (Int32.toNatClampNeg (4 + a3)))) (fun v18 w19 w20 =>
    wq_b1 (gX7_lets w15 w12) (fun w23 =>
    if v7 = (-9) then
    some ((-1000000), w23, w19, w20, w12)
    else
    (if v18 = (-9) then
    some ((-1000000), w23, w19, w20, w12)
    else
    some ((v18 - v7), w23, w19, w20, w12)))))))))

def gX7_odds_L172 (z_m_s : Nat → Int32) (z_m_held : Nat → Int32) (a7 : Int32) (x8 : Int32) (x9 : Int32) : Nat → Int32 → Int32 → Option (Int32 × (Nat → Int32) × (Nat → Int32))
  | 0, _, _ => none
  | n + 1, x10, x11 =>
    if x11 ≤ 0 then
    (if a7 = 0 then
    wq_nz x10 (some ((x8 / x10), z_m_s, z_m_held))
    else
    wq_nz x10 (some ((x9 / x10), z_m_s, z_m_held)))
    else
    wq_nz x11 (gX7_odds_L172 z_m_s z_m_held a7 x8 x9 n x11 (x10 - x10 / x11 * x11))
def gX7_odds_L67 (m_told : Nat → Int32) (z_m_held : Nat → Int32) (a1 : Int32) (a2 : Int32) (a3 : Int32) (a4 : Int32) (a5 : Int32) (a6 : Int32) (a7 : Int32) : Nat → Int32 → Int32 → Int32 → (Nat → Int32) → Option (Int32 × (Nat → Int32) × (Nat → Int32))
  | 0, _, _, _, _ => none
  | n + 1, x8, x9, x10, z_m_s =>
    if a4 ≤ x10 then
    wq_b1 (gX7_lets z_m_s z_m_held) (fun w8 =>
    gX7_odds_L172 w8 z_m_held a7 x8 x9 1000 x8 x9)
    else
    wq_b1 (gX7_criesNow m_told z_m_s a1 a2 a3) (fun v10 =>
    wq_b1 (gX7_bound (v10 + a6) 0 60) (fun v13 =>
    if (m_told 3) < v10 then
    (if (m_told 3) < v13 then
    wq_b2 (gX7_goes m_told z_m_s a1 a2 a3) (fun v18 w19 =>
    gX7_odds_L67 m_told z_m_held a1 a2 a3 a4 a5 a6 a7 n (x8 * (0 + 0)) (x9 * 10) (x10 + 1) w19)
    else
    wq_b2 (gX7_goes m_told z_m_s a1 a2 a3) (fun v22 w23 =>
    gX7_odds_L67 m_told z_m_held a1 a2 a3 a4 a5 a6 a7 n (x8 * (0 + a5)) (x9 * 10) (x10 + 1) w23))
    else
    (if (m_told 3) < v13 then
    wq_b2 (gX7_goes m_told z_m_s a1 a2 a3) (fun v27 w28 =>
    gX7_odds_L67 m_told z_m_held a1 a2 a3 a4 a5 a6 a7 n (x8 * ((10 - a5) + 0)) (x9 * 10) (x10 + 1) w28)
    else
    wq_b2 (gX7_goes m_told z_m_s a1 a2 a3) (fun v31 w32 =>
    gX7_odds_L67 m_told z_m_held a1 a2 a3 a4 a5 a6 a7 n (x8 * ((10 - a5) + a5)) (x9 * 10) (x10 + 1) w32))))
def gX7_odds (m_told : Nat → Int32) (m_s : Nat → Int32) (m_held : Nat → Int32) (a1 : Int32) (a2 : Int32) (a3 : Int32) (a4 : Int32) (a5 : Int32) (a6 : Int32) (a7 : Int32) : Option (Int32 × (Nat → Int32) × (Nat → Int32)) :=
    wq_b1 (gX7_isMorning m_told a1 a2 a3) (fun v35 =>
    if v35 = 0 then
    some ((-1), m_s, m_held)
    else
    wq_b1 (gX7_in a4 0 5) (fun v39 =>
    if v39 = 0 then
    some ((-1), m_s, m_held)
    else
    wq_b1 (gX7_in a5 0 10) (fun v43 =>
    if v43 = 0 then
    some ((-1), m_s, m_held)
    else
    wq_b1 (gX7_in a6 1 20) (fun v47 =>
    if v47 = 0 then
    some ((-1), m_s, m_held)
    else
    wq_b1 (gX7_in a7 0 1) (fun v51 =>
    if v51 = 0 then
    some ((-1), m_s, m_held)
    else
    wq_b1 (gX7_holds m_s m_held) (fun w55 =>
    gX7_odds_L67 m_told w55 a1 a2 a3 a4 a5 a6 a7 1000 1 1 0 m_s))))))

def gX7_shows (m_told : Nat → Int32) (m_notes : Nat → Int32) (m_noted : Int32) (a1 : Int32) (a2 : Int32) (a3 : Int32) (a4 : Int32) (a5 : Int32) : Option (Int32 × (Nat → Int32) × Int32) :=
    wq_b1 (gX7_isGoodbye m_told a1) (fun v2 =>
    if v2 = 0 then
    some ((-1), m_notes, m_noted)
    else
    wq_b1 (gX7_in a2 0 24) (fun v6 =>
    if v6 = 0 then
    some ((-1), m_notes, m_noted)
    else
    wq_b1 (gX7_in a3 1 96) (fun v10 =>
    if v10 = 0 then
    some ((-1), m_notes, m_noted)
    else
    wq_b1 (gX7_in a4 0 9) (fun v14 =>
    if v14 = 0 then
    some ((-1), m_notes, m_noted)
    else
    wq_b1 (gX7_in a5 0 60) (fun v18 =>
    if v18 = 0 then
    some ((-1), m_notes, m_noted)
    else
    (if m_noted = 6 then
    some ((-3), m_notes, m_noted)
    else
    wq_chk (5 * m_noted) 30 (wq_chk ((5 * m_noted) + 1) 30 (wq_chk ((5 * m_noted) + 2) 30 (wq_chk ((5 * m_noted) + 3) 30 (wq_chk ((5 * m_noted) + 4) 30 (some ((m_noted + 1), (upd (upd (upd (upd (upd m_notes (Int32.toNatClampNeg (5 * m_noted)) a1) (Int32.toNatClampNeg ((5 * m_noted) + 1)) a2) (Int32.toNatClampNeg ((5 * m_noted) + 2)) a3) (Int32.toNatClampNeg ((5 * m_noted) + 3)) a4) (Int32.toNatClampNeg ((5 * m_noted) + 4)) a5), (m_noted + 1)))))))))))))

def gX7_forget (m_noted : Int32) : Option (Int32 × Int32) :=
    some (m_noted, 0)

def gX7_fits_L15 (kk4 : Int32 → Int32 → Option (Int32)) (m_told : Nat → Int32) (m_notes : Nat → Int32) (m_noted : Int32) (x1 : Int32) (x2 : Int32) : Nat → Int32 → Int32 → Option (Int32)
  | 0, _, _ => none
  | n + 1, x3, x4 =>
    if (5 * m_noted) ≤ x4 then
    (if x3 = 0 then
    kk4 (x1 ||| 0) (x2 + 1)
    else
    kk4 (x1 ||| (1 <<< (x2 &&& 31))) (x2 + 1))
    else
    (if x3 = 0 then
    gX7_fits_L15 kk4 m_told m_notes m_noted x1 x2 n 0 (x4 + 5)
    else
    wq_chk x4 30 (wq_chk (8 + (m_notes (Int32.toNatClampNeg x4))) 22 (wq_chk (x4 + 1) 30 (wq_chk (x4 + 2) 30 (wq_chk (x4 + 3) 30 (wq_b1 (gX7_cries (m_told (Int32.toNatClampNeg (8 + (m_notes (Int32.toNatClampNeg x4))))) x2 (m_notes (Int32.toNatClampNeg (x4 + 1))) (m_notes (Int32.toNatClampNeg (x4 + 2))) (m_notes (Int32.toNatClampNeg (x4 + 3)))) (fun v10 =>
    wq_chk (x4 + 4) 30 (if v10 = (m_notes (Int32.toNatClampNeg (x4 + 4))) then
    gX7_fits_L15 kk4 m_told m_notes m_noted x1 x2 n 1 (x4 + 5)
    else
    gX7_fits_L15 kk4 m_told m_notes m_noted x1 x2 n 0 (x4 + 5)))))))))
def gX7_fits_L4 (m_told : Nat → Int32) (m_notes : Nat → Int32) (m_noted : Int32) : Nat → Int32 → Int32 → Option (Int32)
  | 0, _, _ => none
  | n + 1, x1, x2 =>
    if 10 ≤ x2 then
    some x1
    else
    gX7_fits_L15 (gX7_fits_L4 m_told m_notes m_noted n) m_told m_notes m_noted x1 x2 1000 1 0
def gX7_fits (m_told : Nat → Int32) (m_notes : Nat → Int32) (m_noted : Int32) : Option (Int32) :=
    gX7_fits_L4 m_told m_notes m_noted 1000 0 1

def gX7_rate (m_trace : Int64) (m_told : Nat → Int32) (m_s : Nat → Int32) (a1 : Int32) (a2 : Int32) : Option (Int32 × Int64) :=
    wq_b1 (gX7_in a1 0 5) (fun v2 =>
    if v2 = 0 then
    some ((-1000000), m_trace)
    else
    wq_b1 (gX7_isGoodbye m_told a2) (fun v6 =>
    if v6 = 0 then
    some ((-1000000), m_trace)
    else
    (if a1 = 0 then
    wq_chk (8 + a2) 22 (wq_chk (13 + a2) 22 (some ((m_told (Int32.toNatClampNeg (8 + a2))), (m_trace + 1))))
    else
    (if a1 = 1 then
    wq_chk (8 + a2) 22 (wq_chk (13 + a2) 22 (some (((m_told (Int32.toNatClampNeg (8 + a2))) + (m_told (Int32.toNatClampNeg (13 + a2)))), (m_trace + 11))))
    else
    (if a1 = 2 then
    wq_chk (8 + a2) 22 (wq_chk (13 + a2) 22 (some (((m_told (Int32.toNatClampNeg (8 + a2))) - (m_s 1)), (m_trace + 101))))
    else
    (if a1 = 3 then
    wq_chk (8 + a2) 22 (wq_chk (13 + a2) 22 (some ((2 * ((m_told (Int32.toNatClampNeg (8 + a2))) + (m_told (Int32.toNatClampNeg (13 + a2))))), (m_trace + 1011))))
    else
    (if a1 = 4 then
    wq_chk (8 + a2) 22 (wq_chk (13 + a2) 22 (some ((((m_told (Int32.toNatClampNeg (8 + a2))) - (m_s 1)) + a2), (m_trace + 10101))))
    else
    wq_chk (8 + a2) 22 (wq_chk (13 + a2) 22 (some (((m_told (Int32.toNatClampNeg (8 + a2))) + (m_s 0)), (m_trace + 100001)))))))))))

def gX7_keep_L13 (m_s : Nat → Int32) (z_m_kept : Nat → Int32) (a1 : Int32) : Nat → Int32 → (Nat → Int32) → Option (Int32 × (Nat → Int32) × (Nat → Int32))
  | 0, _, _ => none
  | n + 1, x2, z_m_images =>
    if 8 ≤ x2 then
    wq_chk a1 2 (some ((m_s 0), z_m_images, (upd z_m_kept (Int32.toNatClampNeg a1) 1)))
    else
    wq_chk x2 8 (wq_chk ((8 * a1) + x2) 16 (gX7_keep_L13 m_s z_m_kept a1 n (x2 + 1) (upd z_m_images (Int32.toNatClampNeg ((8 * a1) + x2)) (m_s (Int32.toNatClampNeg x2)))))
def gX7_keep (m_s : Nat → Int32) (m_images : Nat → Int32) (m_kept : Nat → Int32) (a1 : Int32) : Option (Int32 × (Nat → Int32) × (Nat → Int32)) :=
    wq_b1 (gX7_in a1 0 1) (fun v6 =>
    if v6 = 0 then
    some ((-1), m_images, m_kept)
    else
    gX7_keep_L13 m_s m_kept a1 1000 0 m_images)

def gX7_back_L25 (z_m_known : Int32) (m_images : Nat → Int32) (a1 : Int32) : Nat → Int32 → (Nat → Int32) → Option (Int32 × (Nat → Int32) × Int32)
  | 0, _, _ => none
  | n + 1, x2, z_m_s =>
    if 8 ≤ x2 then
    some ((z_m_s 0), z_m_s, 0)
    else
    wq_chk ((8 * a1) + x2) 16 (wq_chk x2 8 (gX7_back_L25 z_m_known m_images a1 n (x2 + 1) (upd z_m_s (Int32.toNatClampNeg x2) (m_images (Int32.toNatClampNeg ((8 * a1) + x2))))))
def gX7_back (m_s : Nat → Int32) (m_known : Int32) (m_images : Nat → Int32) (m_kept : Nat → Int32) (a1 : Int32) : Option (Int32 × (Nat → Int32) × Int32) :=
    wq_b1 (gX7_in a1 0 1) (fun v5 =>
    if v5 = 0 then
    some ((-1), m_s, m_known)
    else
    wq_chk a1 2 (if (m_kept (Int32.toNatClampNeg a1)) = 0 then
    some ((-2), m_s, m_known)
    else
    gX7_back_L25 m_known m_images a1 1000 0 m_s))

def gX7_count (m_typed : Int32) (m_told : Nat → Int32) (m_noted : Int32) (a1 : Int32) : Option (Int32) :=
    if a1 = 0 then
    some (m_told 0)
    else
    (if a1 = 1 then
    some (m_told 1)
    else
    (if a1 = 2 then
    some (m_told 2)
    else
    (if a1 = 3 then
    some (m_told 3)
    else
    (if a1 = 4 then
    some (m_told 4)
    else
    (if a1 = 5 then
    some (m_told 5)
    else
    (if a1 = 6 then
    some m_noted
    else
    (if a1 = 7 then
    some m_typed
    else
    some (-1))))))))

def gX7_trace (m_trace : Int64) : Option (Int64) :=
    some m_trace
