def gX4_add (x_letters : Nat → Int32) (x_size : Int32) (a1 : Int32) : Option (Int32 × (Nat → Int32) × Int32) :=
    if x_size < 0 then
    some ((-3), x_letters, x_size)
    else
    (if x_size < 120 then
    wq_chk x_size 120 (some ((x_size + 1), (upd x_letters (Int32.toNatClampNeg x_size) a1), (x_size + 1)))
    else
    some ((-3), x_letters, x_size))

def gX6_type (x_letters : Nat → Int32) (x_size : Int32) (a1 : Int32) : Option (Int32 × (Nat → Int32) × Int32) :=
    if a1 < 0 then
    some ((-1), x_letters, x_size)
    else
    (if a1 ≤ 255 then
    wq_b3 (gX4_add x_letters x_size a1) (fun v4 w5 w6 =>
    some (v4, w5, w6))
    else
    some ((-1), x_letters, x_size))

def gX4_empty (x_size : Int32) : Option (Int32 × Int32) :=
    some (x_size, 0)

def gX6_clear (x_size : Int32) : Option (Int32 × Int32) :=
    wq_b2 (gX4_empty x_size) (fun v2 w3 =>
    some (v2, w3))

def gX5_startAnew_L12 (z_d_goodbyes : Int32) (z_d_women : Int32) : Nat → Int32 → (Nat → Int32) → Option ((Nat → Int32) × Int32 × Int32)
  | 0, _, _ => none
  | n + 1, x1, z_d_settings =>
    if 4 ≤ x1 then
    some (z_d_settings, z_d_goodbyes, z_d_women)
    else
    wq_chk x1 4 (gX5_startAnew_L12 z_d_goodbyes z_d_women n (x1 + 1) (upd z_d_settings (Int32.toNatClampNeg x1) (wq_first (Int32.toNatClampNeg x1))))
def gX5_startAnew (d_settings : Nat → Int32) (d_goodbyes : Int32) (d_women : Int32) : Option ((Nat → Int32) × Int32 × Int32) :=
    gX5_startAnew_L12 0 0 1000 0 d_settings

def gX4_letterAt (x_letters : Nat → Int32) (x_size : Int32) (a1 : Int32) : Option (Int32) :=
    if a1 < 0 then
    some (-1)
    else
    (if x_size ≤ a1 then
    some (-1)
    else
    (if 120 ≤ a1 then
    some (-1)
    else
    wq_chk a1 120 (some (x_letters (Int32.toNatClampNeg a1)))))

def gX4_skipBlanks_L0 (x_letters : Nat → Int32) (x_size : Int32) : Nat → Int32 → Option (Int32)
  | 0, _ => none
  | n + 1, z_x_place =>
    if x_size ≤ z_x_place then
    some z_x_place
    else
    wq_b1 (gX4_letterAt x_letters x_size z_x_place) (fun v3 =>
    if v3 = 32 then
    gX4_skipBlanks_L0 x_letters x_size n (z_x_place + 1)
    else
    some z_x_place)
def gX4_skipBlanks (x_letters : Nat → Int32) (x_size : Int32) (x_place : Int32) : Option (Int32) :=
    gX4_skipBlanks_L0 x_letters x_size 1000 x_place

def gX4_failsAt (x_fault : Int32) (a1 : Int32) : Option (Int32 × Int32) :=
    some (0, a1)

def gX4_readNumber_L12 (x_letters : Nat → Int32) (x_size : Int32) (z_x_fault : Int32) (a1 : Int32) (a2 : Int32) (x3 : Int32) : Nat → Int32 → Int32 → Option (Int32 × Int32 × Int32)
  | 0, _, _ => none
  | n + 1, x4, z_x_place =>
    if x_size ≤ z_x_place then
    (if (z_x_place - x3) ≤ 1 then
    (if (z_x_place - x3) < 1 then
    wq_b2 (gX4_failsAt z_x_fault x3) (fun v5 w6 =>
    some ((-1), z_x_place, w6))
    else
    (if x4 < a1 then
    wq_b2 (gX4_failsAt z_x_fault x3) (fun v11 w12 =>
    some ((-1), z_x_place, w12))
    else
    (if x4 ≤ a2 then
    some (x4, z_x_place, z_x_fault)
    else
    wq_b2 (gX4_failsAt z_x_fault x3) (fun v16 w17 =>
    some ((-1), z_x_place, w17)))))
    else
    wq_b1 (gX4_letterAt x_letters x_size x3) (fun v20 =>
    if v20 = 48 then
    (if (z_x_place - x3) < 1 then
    wq_b2 (gX4_failsAt z_x_fault x3) (fun v41 w42 =>
    some ((-1), z_x_place, w42))
    else
    wq_b2 (gX4_failsAt z_x_fault x3) (fun v46 w47 =>
    some ((-1), z_x_place, w47)))
    else
    (if (z_x_place - x3) < 1 then
    wq_b2 (gX4_failsAt z_x_fault x3) (fun v25 w26 =>
    some ((-1), z_x_place, w26))
    else
    (if x4 < a1 then
    wq_b2 (gX4_failsAt z_x_fault x3) (fun v31 w32 =>
    some ((-1), z_x_place, w32))
    else
    (if x4 ≤ a2 then
    some (x4, z_x_place, z_x_fault)
    else
    wq_b2 (gX4_failsAt z_x_fault x3) (fun v36 w37 =>
    some ((-1), z_x_place, w37)))))))
    else
    wq_b1 (gX4_letterAt x_letters x_size z_x_place) (fun v50 =>
    if v50 < 48 then
    (if (z_x_place - x3) ≤ 1 then
    (if (z_x_place - x3) < 1 then
    wq_b2 (gX4_failsAt z_x_fault x3) (fun v56 w57 =>
    some ((-1), z_x_place, w57))
    else
    (if x4 < a1 then
    wq_b2 (gX4_failsAt z_x_fault x3) (fun v62 w63 =>
    some ((-1), z_x_place, w63))
    else
    (if x4 ≤ a2 then
    some (x4, z_x_place, z_x_fault)
    else
    wq_b2 (gX4_failsAt z_x_fault x3) (fun v67 w68 =>
    some ((-1), z_x_place, w68)))))
    else
    wq_b1 (gX4_letterAt x_letters x_size x3) (fun v71 =>
    if v71 = 48 then
    (if (z_x_place - x3) < 1 then
    wq_b2 (gX4_failsAt z_x_fault x3) (fun v92 w93 =>
    some ((-1), z_x_place, w93))
    else
    wq_b2 (gX4_failsAt z_x_fault x3) (fun v97 w98 =>
    some ((-1), z_x_place, w98)))
    else
    (if (z_x_place - x3) < 1 then
    wq_b2 (gX4_failsAt z_x_fault x3) (fun v76 w77 =>
    some ((-1), z_x_place, w77))
    else
    (if x4 < a1 then
    wq_b2 (gX4_failsAt z_x_fault x3) (fun v82 w83 =>
    some ((-1), z_x_place, w83))
    else
    (if x4 ≤ a2 then
    some (x4, z_x_place, z_x_fault)
    else
    wq_b2 (gX4_failsAt z_x_fault x3) (fun v87 w88 =>
    some ((-1), z_x_place, w88)))))))
    else
    wq_b1 (gX4_letterAt x_letters x_size z_x_place) (fun v101 =>
    if 57 < v101 then
    (if (z_x_place - x3) ≤ 1 then
    (if (z_x_place - x3) < 1 then
    wq_b2 (gX4_failsAt z_x_fault x3) (fun v107 w108 =>
    some ((-1), z_x_place, w108))
    else
    (if x4 < a1 then
    wq_b2 (gX4_failsAt z_x_fault x3) (fun v113 w114 =>
    some ((-1), z_x_place, w114))
    else
    (if x4 ≤ a2 then
    some (x4, z_x_place, z_x_fault)
    else
    wq_b2 (gX4_failsAt z_x_fault x3) (fun v118 w119 =>
    some ((-1), z_x_place, w119)))))
    else
    wq_b1 (gX4_letterAt x_letters x_size x3) (fun v122 =>
    if v122 = 48 then
    (if (z_x_place - x3) < 1 then
    wq_b2 (gX4_failsAt z_x_fault x3) (fun v143 w144 =>
    some ((-1), z_x_place, w144))
    else
    wq_b2 (gX4_failsAt z_x_fault x3) (fun v148 w149 =>
    some ((-1), z_x_place, w149)))
    else
    (if (z_x_place - x3) < 1 then
    wq_b2 (gX4_failsAt z_x_fault x3) (fun v127 w128 =>
    some ((-1), z_x_place, w128))
    else
    (if x4 < a1 then
    wq_b2 (gX4_failsAt z_x_fault x3) (fun v133 w134 =>
    some ((-1), z_x_place, w134))
    else
    (if x4 ≤ a2 then
    some (x4, z_x_place, z_x_fault)
    else
    wq_b2 (gX4_failsAt z_x_fault x3) (fun v138 w139 =>
    some ((-1), z_x_place, w139)))))))
    else
    wq_b1 (gX4_letterAt x_letters x_size z_x_place) (fun v152 =>
    gX4_readNumber_L12 x_letters x_size z_x_fault a1 a2 x3 n (if (((x4 * 10) + v152) - 48) < 100 then (((x4 * 10) + v152) - 48) else 100) (z_x_place + 1))))
def gX4_readNumber (x_letters : Nat → Int32) (x_size : Int32) (x_place : Int32) (x_fault : Int32) (a1 : Int32) (a2 : Int32) : Option (Int32 × Int32 × Int32) :=
    wq_b1 (gX4_skipBlanks x_letters x_size x_place) (fun w155 =>
    gX4_readNumber_L12 x_letters x_size x_fault a1 a2 w155 1000 0 w155)

def gX5_addGoodbye (d_tears : Nat → Int32) (d_gains : Nat → Int32) (d_goodbyes : Int32) (a1 : Int32) (a2 : Int32) : Option ((Nat → Int32) × (Nat → Int32) × Int32) :=
    if d_goodbyes < 0 then
    some (d_tears, d_gains, d_goodbyes)
    else
    (if d_goodbyes < 5 then
    wq_chk d_goodbyes 5 (some ((upd d_tears (Int32.toNatClampNeg d_goodbyes) a1), (upd d_gains (Int32.toNatClampNeg d_goodbyes) a2), (d_goodbyes + 1)))
    else
    some (d_tears, d_gains, d_goodbyes))

def gX4_readEnd (x_letters : Nat → Int32) (x_size : Int32) (x_place : Int32) (x_fault : Int32) : Option (Int32 × Int32 × Int32) :=
    wq_b1 (gX4_skipBlanks x_letters x_size x_place) (fun w2 =>
    wq_b1 (gX4_letterAt x_letters x_size w2) (fun v4 =>
    if v4 = 59 then
    some (1, (w2 + 1), x_fault)
    else
    wq_b2 (gX4_failsAt x_fault w2) (fun v8 w9 =>
    some (v8, w2, w9))))

def gX4_readGoodbye (x_letters : Nat → Int32) (x_size : Int32) (x_place : Int32) (x_fault : Int32) (d_tears : Nat → Int32) (d_gains : Nat → Int32) (d_goodbyes : Int32) : Option (Int32 × Int32 × Int32 × (Nat → Int32) × (Nat → Int32) × Int32) :=
    if d_goodbyes < 5 then
    wq_b3 (gX4_readNumber x_letters x_size (x_place + 1) x_fault 0 40) (fun v3 w4 w5 =>
    if 0 ≤ v3 then
    wq_b3 (gX4_readNumber x_letters x_size w4 w5 0 3) (fun v9 w10 w11 =>
    if 0 ≤ v9 then
    wq_b3 (gX5_addGoodbye d_tears d_gains d_goodbyes v3 v9) (fun w15 w16 w17 =>
    wq_b3 (gX4_readEnd x_letters x_size w10 w11) (fun v19 w20 w21 =>
    some (v19, w20, w21, w15, w16, w17)))
    else
    some (0, w10, w11, d_tears, d_gains, d_goodbyes))
    else
    some (0, w4, w5, d_tears, d_gains, d_goodbyes))
    else
    wq_b2 (gX4_failsAt x_fault x_place) (fun v24 w25 =>
    some (v24, x_place, w25, d_tears, d_gains, d_goodbyes))

def gX5_addWoman (d_likings : Nat → Int32) (d_women : Int32) (a1 : Int32) : Option ((Nat → Int32) × Int32) :=
    if d_women < 0 then
    some (d_likings, d_women)
    else
    (if d_women < 4 then
    wq_chk d_women 4 (some ((upd d_likings (Int32.toNatClampNeg d_women) a1), (d_women + 1)))
    else
    some (d_likings, d_women))

def gX4_readWoman (x_letters : Nat → Int32) (x_size : Int32) (x_place : Int32) (x_fault : Int32) (d_likings : Nat → Int32) (d_women : Int32) : Option (Int32 × Int32 × Int32 × (Nat → Int32) × Int32) :=
    if d_women < 4 then
    wq_b3 (gX4_readNumber x_letters x_size (x_place + 1) x_fault 0 9) (fun v3 w4 w5 =>
    if 0 ≤ v3 then
    wq_b2 (gX5_addWoman d_likings d_women v3) (fun w9 w10 =>
    wq_b3 (gX4_readEnd x_letters x_size w4 w5) (fun v12 w13 w14 =>
    some (v12, w13, w14, w9, w10)))
    else
    some (0, w4, w5, d_likings, d_women))
    else
    wq_b2 (gX4_failsAt x_fault x_place) (fun v17 w18 =>
    some (v17, x_place, w18, d_likings, d_women))

def gX5_setSetting (d_settings : Nat → Int32) (a1 : Int32) (a2 : Int32) : Option ((Nat → Int32)) :=
    if a1 < 0 then
    some d_settings
    else
    (if 4 ≤ a1 then
    some d_settings
    else
    wq_chk a1 4 (some (upd d_settings (Int32.toNatClampNeg a1) a2)))

def gX4_readSetting (x_letters : Nat → Int32) (x_size : Int32) (x_place : Int32) (x_fault : Int32) (x_stold : Int32) (d_settings : Nat → Int32) (a2 : Int32) : Option (Int32 × Int32 × Int32 × Int32 × (Nat → Int32)) :=
    if a2 < 0 then
    wq_b2 (gX4_failsAt x_fault x_place) (fun v3 w4 =>
    some (v3, x_place, w4, x_stold, d_settings))
    else
    (if 4 ≤ a2 then
    wq_b2 (gX4_failsAt x_fault x_place) (fun v8 w9 =>
    some (v8, x_place, w9, x_stold, d_settings))
    else
    (if ((x_stold >>> (a2 &&& 31)) &&& 1) = 1 then
    wq_b2 (gX4_failsAt x_fault x_place) (fun v27 w28 =>
    some (v27, x_place, w28, x_stold, d_settings))
    else
    wq_chk a2 4 (wq_b3 (gX4_readNumber x_letters x_size (x_place + 1) x_fault (wq_least (Int32.toNatClampNeg a2)) (wq_most (Int32.toNatClampNeg a2))) (fun v14 w15 w16 =>
    if 0 ≤ v14 then
    wq_b1 (gX5_setSetting d_settings a2 v14) (fun w20 =>
    wq_b3 (gX4_readEnd x_letters x_size w15 w16) (fun v22 w23 w24 =>
    some (v22, w23, w24, (x_stold ||| (1 <<< (a2 &&& 31))), w20)))
    else
    some (0, w15, w16, x_stold, d_settings)))))

def gX4_readItem (x_letters : Nat → Int32) (x_size : Int32) (x_place : Int32) (x_fault : Int32) (x_stold : Int32) (d_tears : Nat → Int32) (d_gains : Nat → Int32) (d_likings : Nat → Int32) (d_settings : Nat → Int32) (d_goodbyes : Int32) (d_women : Int32) : Option (Int32 × Int32 × Int32 × Int32 × (Nat → Int32) × (Nat → Int32) × (Nat → Int32) × (Nat → Int32) × Int32 × Int32) :=
    wq_b1 (gX4_letterAt x_letters x_size x_place) (fun v2 =>
    if v2 = 99 then
    wq_b5 (gX4_readSetting x_letters x_size x_place x_fault x_stold d_settings 1) (fun v6 w7 w8 w9 w10 =>
    some (v6, w7, w8, w9, d_tears, d_gains, d_likings, w10, d_goodbyes, d_women))
    else
    (if v2 = 103 then
    wq_b6 (gX4_readGoodbye x_letters x_size x_place x_fault d_tears d_gains d_goodbyes) (fun v14 w15 w16 w17 w18 w19 =>
    some (v14, w15, w16, x_stold, w17, w18, d_likings, d_settings, w19, d_women))
    else
    (if v2 = 115 then
    wq_b5 (gX4_readSetting x_letters x_size x_place x_fault x_stold d_settings 0) (fun v23 w24 w25 w26 w27 =>
    some (v23, w24, w25, w26, d_tears, d_gains, d_likings, w27, d_goodbyes, d_women))
    else
    (if v2 = 119 then
    wq_b5 (gX4_readWoman x_letters x_size x_place x_fault d_likings d_women) (fun v31 w32 w33 w34 w35 =>
    some (v31, w32, w33, x_stold, d_tears, d_gains, w34, d_settings, d_goodbyes, w35))
    else
    (if v2 = 120 then
    wq_b5 (gX4_readSetting x_letters x_size x_place x_fault x_stold d_settings 2) (fun v39 w40 w41 w42 w43 =>
    some (v39, w40, w41, w42, d_tears, d_gains, d_likings, w43, d_goodbyes, d_women))
    else
    (if v2 = 122 then
    wq_b5 (gX4_readSetting x_letters x_size x_place x_fault x_stold d_settings 3) (fun v47 w48 w49 w50 w51 =>
    some (v47, w48, w49, w50, d_tears, d_gains, d_likings, w51, d_goodbyes, d_women))
    else
    wq_b2 (gX4_failsAt x_fault x_place) (fun v54 w55 =>
    some (v54, x_place, w55, x_stold, d_tears, d_gains, d_likings, d_settings, d_goodbyes, d_women))))))))

def gX4_tell_L18 (x_letters : Nat → Int32) (x_size : Int32) : Nat → Int32 → Int32 → Int32 → Int32 → Int32 → (Nat → Int32) → (Nat → Int32) → (Nat → Int32) → (Nat → Int32) → Int32 → Int32 → Option (Int32 × Int32 × Int32 × Int32 × (Nat → Int32) × (Nat → Int32) × (Nat → Int32) × (Nat → Int32) × Int32 × Int32)
  | 0, _, _, _, _, _, _, _, _, _, _, _ => none
  | n + 1, x2, x3, z_x_place, z_x_fault, z_x_stold, z_d_tears, z_d_gains, z_d_likings, z_d_settings, z_d_goodbyes, z_d_women =>
    if 120 < x3 then
    some (x2, z_x_place, z_x_fault, z_x_stold, z_d_tears, z_d_gains, z_d_likings, z_d_settings, z_d_goodbyes, z_d_women)
    else
    wq_b1 (gX4_skipBlanks x_letters x_size z_x_place) (fun w3 =>
    if w3 < x_size then
    wq_b10 (gX4_readItem x_letters x_size w3 z_x_fault z_x_stold z_d_tears z_d_gains z_d_likings z_d_settings z_d_goodbyes z_d_women) (fun v6 w7 w8 w9 w10 w11 w12 w13 w14 w15 =>
    if v6 = 0 then
    some (((-10) - w8), w7, w8, w9, w10, w11, w12, w13, w14, w15)
    else
    gX4_tell_L18 x_letters x_size n (x2 + 1) (x3 + 1) w7 w8 w9 w10 w11 w12 w13 w14 w15)
    else
    some (x2, w3, z_x_fault, z_x_stold, z_d_tears, z_d_gains, z_d_likings, z_d_settings, z_d_goodbyes, z_d_women))
def gX4_tell (x_letters : Nat → Int32) (x_size : Int32) (x_place : Int32) (x_fault : Int32) (x_stold : Int32) (d_tears : Nat → Int32) (d_gains : Nat → Int32) (d_likings : Nat → Int32) (d_settings : Nat → Int32) (d_goodbyes : Int32) (d_women : Int32) : Option (Int32 × Int32 × Int32 × Int32 × (Nat → Int32) × (Nat → Int32) × (Nat → Int32) × (Nat → Int32) × Int32 × Int32) :=
    wq_b3 (gX5_startAnew d_settings d_goodbyes d_women) (fun w19 w20 w21 =>
    gX4_tell_L18 x_letters x_size 1000 0 0 0 x_fault 0 d_tears d_gains d_likings w19 w20 w21)

def gX5_hasWoman (t_women : Int32) (a1 : Int32) : Option (Int32) :=
    if a1 < 0 then
    some 0
    else
    (if t_women ≤ a1 then
    some 0
    else
    (if 4 ≤ a1 then
    some 0
    else
    some 1))

def gX5_likingAtFirst (t_likings : Nat → Int32) (t_women : Int32) (a1 : Int32) : Option (Int32) :=
    wq_b1 (gX5_hasWoman t_women a1) (fun v2 =>
    if v2 = 0 then
    some 0
    else
    wq_chk a1 4 (some (t_likings (Int32.toNatClampNeg a1))))

def gX0_startAnew_L2 (z_n_day : Int32) (z_n_trust : Int32) (z_n_ill : Int32) (z_n_done : Int32) (t_likings : Nat → Int32) (t_women : Int32) : Nat → Int32 → (Nat → Int32) → Option ((Nat → Int32) × Int32 × Int32 × Int32 × Int32)
  | 0, _, _ => none
  | n + 1, x2, z_n_likings =>
    if 4 ≤ x2 then
    some (z_n_likings, 0, 0, 0, 0)
    else
    wq_b1 (gX5_likingAtFirst t_likings t_women x2) (fun v3 =>
    wq_chk x2 4 (gX0_startAnew_L2 z_n_day z_n_trust z_n_ill z_n_done t_likings t_women n (x2 + 1) (upd z_n_likings (Int32.toNatClampNeg x2) v3)))
def gX0_startAnew (n_likings : Nat → Int32) (n_day : Int32) (n_trust : Int32) (n_ill : Int32) (n_done : Int32) (t_likings : Nat → Int32) (t_women : Int32) : Option ((Nat → Int32) × Int32 × Int32 × Int32 × Int32) :=
    gX0_startAnew_L2 n_day n_trust n_ill n_done t_likings t_women 1000 0 n_likings

def gX2_empty (p_known : Int32) : Option (Int32) :=
    some 0

def gX3_empty (h_size : Int32) : Option (Int32 × Int32) :=
    some (h_size, 0)

def gX6_nursery_L80 (z_x_size : Int32) (z_x_place : Int32) (z_x_fault : Int32) (z_x_stold : Int32) (z_n_likings : Nat → Int32) (z_n_day : Int32) (z_n_trust : Int32) (z_n_ill : Int32) (z_n_done : Int32) (z_p_known : Int32) (z_h_size : Int32) (z_o_stands : Int32) (z_t_tears : Nat → Int32) (z_t_gains : Nat → Int32) (z_t_likings : Nat → Int32) (z_t_settings : Nat → Int32) (z_t_goodbyes : Int32) (z_t_women : Int32) (z_d_tears : Nat → Int32) (z_d_gains : Nat → Int32) (z_d_likings : Nat → Int32) (z_d_settings : Nat → Int32) (z_d_goodbyes : Int32) (z_d_women : Int32) (x1 : Int32) : Nat → Int32 → (Nat → Int64) → Option (Int32 × (Nat → Int64) × Int32 × Int32 × Int32 × Int32 × (Nat → Int32) × Int32 × Int32 × Int32 × Int32 × Int32 × Int32 × Int32 × (Nat → Int32) × (Nat → Int32) × (Nat → Int32) × (Nat → Int32) × Int32 × Int32 × (Nat → Int32) × (Nat → Int32) × (Nat → Int32) × (Nat → Int32) × Int32 × Int32)
  | 0, _, _ => none
  | n + 1, x3, z_r_images =>
    if 2 ≤ x3 then
    some (x1, z_r_images, z_x_size, z_x_place, z_x_fault, z_x_stold, z_n_likings, z_n_day, z_n_trust, z_n_ill, z_n_done, z_p_known, z_h_size, z_o_stands, z_t_tears, z_t_gains, z_t_likings, z_t_settings, z_t_goodbyes, z_t_women, z_d_tears, z_d_gains, z_d_likings, z_d_settings, z_d_goodbyes, z_d_women)
    else
    wq_chk x3 2 (gX6_nursery_L80 z_x_size z_x_place z_x_fault z_x_stold z_n_likings z_n_day z_n_trust z_n_ill z_n_done z_p_known z_h_size z_o_stands z_t_tears z_t_gains z_t_likings z_t_settings z_t_goodbyes z_t_women z_d_tears z_d_gains z_d_likings z_d_settings z_d_goodbyes z_d_women x1 n (x3 + 1) (vp_updL z_r_images (Int32.toNatClampNeg x3) (-1)))
def gX6_nursery (r_images : Nat → Int64) (x_letters : Nat → Int32) (x_size : Int32) (x_place : Int32) (x_fault : Int32) (x_stold : Int32) (n_likings : Nat → Int32) (n_day : Int32) (n_trust : Int32) (n_ill : Int32) (n_done : Int32) (p_known : Int32) (h_size : Int32) (o_stands : Int32) (t_tears : Nat → Int32) (t_gains : Nat → Int32) (t_likings : Nat → Int32) (t_settings : Nat → Int32) (t_goodbyes : Int32) (t_women : Int32) (d_tears : Nat → Int32) (d_gains : Nat → Int32) (d_likings : Nat → Int32) (d_settings : Nat → Int32) (d_goodbyes : Int32) (d_women : Int32) : Option (Int32 × (Nat → Int64) × Int32 × Int32 × Int32 × Int32 × (Nat → Int32) × Int32 × Int32 × Int32 × Int32 × Int32 × Int32 × Int32 × (Nat → Int32) × (Nat → Int32) × (Nat → Int32) × (Nat → Int32) × Int32 × Int32 × (Nat → Int32) × (Nat → Int32) × (Nat → Int32) × (Nat → Int32) × Int32 × Int32) :=
    wq_b10 (gX4_tell x_letters x_size x_place x_fault x_stold d_tears d_gains d_likings d_settings d_goodbyes d_women) (fun v4 w5 w6 w7 w8 w9 w10 w11 w12 w13 =>
    if 0 ≤ v4 then
    wq_b2 (gX4_empty x_size) (fun v17 w18 =>
    wq_b5 (gX0_startAnew n_likings n_day n_trust n_ill n_done w10 w13) (fun w21 w22 w23 w24 w25 =>
    wq_b1 (gX2_empty p_known) (fun w27 =>
    wq_b2 (gX3_empty h_size) (fun v29 w30 =>
    gX6_nursery_L80 w18 w5 w6 w7 w21 w22 w23 w24 w25 w27 w30 0 w8 w9 w10 w11 w12 w13 t_tears t_gains t_likings t_settings t_goodbyes t_women v4 1000 0 r_images))))
    else
    some (v4, r_images, x_size, w5, w6, w7, n_likings, n_day, n_trust, n_ill, n_done, p_known, h_size, o_stands, t_tears, t_gains, t_likings, t_settings, t_goodbyes, t_women, w8, w9, w10, w11, w12, w13))

def gX5_hasGoodbye (t_goodbyes : Int32) (a1 : Int32) : Option (Int32) :=
    if a1 < 0 then
    some 0
    else
    (if t_goodbyes ≤ a1 then
    some 0
    else
    (if 5 ≤ a1 then
    some 0
    else
    some 1))

def gX5_tearsOf (t_tears : Nat → Int32) (t_goodbyes : Int32) (a1 : Int32) : Option (Int32) :=
    wq_b1 (gX5_hasGoodbye t_goodbyes a1) (fun v2 =>
    if v2 = 0 then
    some 0
    else
    wq_chk a1 5 (some (t_tears (Int32.toNatClampNeg a1))))

def gX5_gainOf (t_gains : Nat → Int32) (t_goodbyes : Int32) (a1 : Int32) : Option (Int32) :=
    wq_b1 (gX5_hasGoodbye t_goodbyes a1) (fun v2 =>
    if v2 = 0 then
    some 0
    else
    wq_chk a1 5 (some (t_gains (Int32.toNatClampNeg a1))))

def gX6_goodbye (t_tears : Nat → Int32) (t_gains : Nat → Int32) (t_goodbyes : Int32) (a1 : Int32) (a2 : Int32) : Option (Int32) :=
    wq_b1 (gX5_hasGoodbye t_goodbyes a1) (fun v2 =>
    if v2 = 0 then
    some (-1)
    else
    (if a2 = 0 then
    wq_b1 (gX5_tearsOf t_tears t_goodbyes a1) (fun v7 =>
    some v7)
    else
    (if a2 = 1 then
    wq_b1 (gX5_gainOf t_gains t_goodbyes a1) (fun v11 =>
    some v11)
    else
    some (-1))))

def gX0_likingOf (n_likings : Nat → Int32) (a1 : Int32) : Option (Int32) :=
    if a1 < 0 then
    some 0
    else
    (if 4 ≤ a1 then
    some 0
    else
    wq_chk a1 4 (some (n_likings (Int32.toNatClampNeg a1))))

def gX0_isIll (n_ill : Int32) (a1 : Int32) : Option (Int32) :=
    if ((n_ill >>> (a1 &&& 31)) &&& 1) = 1 then
    some 1
    else
    some 0

def gX5_setting (t_settings : Nat → Int32) (a1 : Int32) : Option (Int32) :=
    if a1 < 0 then
    some 0
    else
    (if 4 ≤ a1 then
    some 0
    else
    wq_chk a1 4 (some (t_settings (Int32.toNatClampNeg a1))))

def gX6_quotient (a0 : Int32) (a1 : Int32) : Option (Int32) :=
    if 1 ≤ a1 then
    wq_nz a1 (some (a0 / a1))
    else
    some 0

def gX5_reach (t_tears : Nat → Int32) (t_settings : Nat → Int32) (t_goodbyes : Int32) (a1 : Int32) (a2 : Int32) (a3 : Int32) : Option (Int32) :=
    wq_b1 (gX5_setting t_settings 1) (fun v2 =>
    wq_b1 (gX5_tearsOf t_tears t_goodbyes a1) (fun v5 =>
    if 0 ≤ ((v2 + a3) - v5) then
    wq_b1 (gX5_setting t_settings 0) (fun v9 =>
    wq_b1 (gX6_quotient ((v2 + a3) - v5) v9) (fun v12 =>
    some (if ((2 * a2) + v12) < 96 then ((2 * a2) + v12) else 96)))
    else
    some 0))

def gX6_reachNow (n_likings : Nat → Int32) (n_trust : Int32) (t_tears : Nat → Int32) (t_settings : Nat → Int32) (t_goodbyes : Int32) (a1 : Int32) (a2 : Int32) : Option (Int32) :=
    wq_b1 (gX0_likingOf n_likings a2) (fun v2 =>
    wq_b1 (gX5_reach t_tears t_settings t_goodbyes a1 n_trust v2) (fun v5 =>
    some v5))

def gX6_bestGoodbye_L8 (n_likings : Nat → Int32) (n_trust : Int32) (t_tears : Nat → Int32) (t_gains : Nat → Int32) (t_settings : Nat → Int32) (t_goodbyes : Int32) (a1 : Int32) : Nat → Int32 → Int32 → Int32 → Option (Int32)
  | 0, _, _, _ => none
  | n + 1, x2, x3, x4 =>
    if t_goodbyes ≤ x4 then
    some x2
    else
    wq_b1 (gX6_reachNow n_likings n_trust t_tears t_settings t_goodbyes x4 a1) (fun v3 =>
    if v3 = x3 then
    (if x2 = (-9) then
    (if x3 < v3 then
    gX6_bestGoodbye_L8 n_likings n_trust t_tears t_gains t_settings t_goodbyes a1 n x4 v3 (x4 + 1)
    else
    gX6_bestGoodbye_L8 n_likings n_trust t_tears t_gains t_settings t_goodbyes a1 n x2 x3 (x4 + 1))
    else
    wq_b1 (gX5_gainOf t_gains t_goodbyes x4) (fun v12 =>
    wq_b1 (gX5_gainOf t_gains t_goodbyes x2) (fun v15 =>
    if v12 ≤ v15 then
    (if x3 < v3 then
    gX6_bestGoodbye_L8 n_likings n_trust t_tears t_gains t_settings t_goodbyes a1 n x4 v3 (x4 + 1)
    else
    gX6_bestGoodbye_L8 n_likings n_trust t_tears t_gains t_settings t_goodbyes a1 n x2 x3 (x4 + 1))
    else
    (if x3 < v3 then
    gX6_bestGoodbye_L8 n_likings n_trust t_tears t_gains t_settings t_goodbyes a1 n x4 v3 (x4 + 1)
    else
    gX6_bestGoodbye_L8 n_likings n_trust t_tears t_gains t_settings t_goodbyes a1 n x4 v3 (x4 + 1)))))
    else
    (if x3 < v3 then
    gX6_bestGoodbye_L8 n_likings n_trust t_tears t_gains t_settings t_goodbyes a1 n x4 v3 (x4 + 1)
    else
    gX6_bestGoodbye_L8 n_likings n_trust t_tears t_gains t_settings t_goodbyes a1 n x2 x3 (x4 + 1)))
def gX6_bestGoodbye (n_likings : Nat → Int32) (n_trust : Int32) (t_tears : Nat → Int32) (t_gains : Nat → Int32) (t_settings : Nat → Int32) (t_goodbyes : Int32) (a1 : Int32) : Option (Int32) :=
    gX6_bestGoodbye_L8 n_likings n_trust t_tears t_gains t_settings t_goodbyes a1 1000 (-9) 0 0

def gX6_woman (n_likings : Nat → Int32) (n_trust : Int32) (n_ill : Int32) (t_tears : Nat → Int32) (t_gains : Nat → Int32) (t_settings : Nat → Int32) (t_goodbyes : Int32) (t_women : Int32) (a1 : Int32) (a2 : Int32) : Option (Int32) :=
    wq_b1 (gX5_hasWoman t_women a1) (fun v2 =>
    if v2 = 0 then
    some (-1)
    else
    (if a2 = 0 then
    wq_b1 (gX0_likingOf n_likings a1) (fun v7 =>
    some v7)
    else
    (if a2 = 1 then
    wq_b1 (gX0_isIll n_ill a1) (fun v11 =>
    if v11 = 0 then
    some 0
    else
    some 1)
    else
    (if a2 = 2 then
    wq_b1 (gX6_bestGoodbye n_likings n_trust t_tears t_gains t_settings t_goodbyes a1) (fun v16 =>
    some v16)
    else
    some (-1)))))

def gX6_farthestWith_L4 (n_likings : Nat → Int32) (n_trust : Int32) (t_tears : Nat → Int32) (t_settings : Nat → Int32) (t_goodbyes : Int32) (a1 : Int32) : Nat → Int32 → Int32 → Option (Int32)
  | 0, _, _ => none
  | n + 1, x2, x3 =>
    if t_goodbyes ≤ x3 then
    some x2
    else
    wq_b1 (gX6_reachNow n_likings n_trust t_tears t_settings t_goodbyes x3 a1) (fun v3 =>
    gX6_farthestWith_L4 n_likings n_trust t_tears t_settings t_goodbyes a1 n (if x2 < v3 then v3 else x2) (x3 + 1))
def gX6_farthestWith (n_likings : Nat → Int32) (n_trust : Int32) (t_tears : Nat → Int32) (t_settings : Nat → Int32) (t_goodbyes : Int32) (a1 : Int32) : Option (Int32) :=
    gX6_farthestWith_L4 n_likings n_trust t_tears t_settings t_goodbyes a1 1000 0 0

def gX6_bestWoman_L7 (n_likings : Nat → Int32) (n_trust : Int32) (n_ill : Int32) (t_tears : Nat → Int32) (t_settings : Nat → Int32) (t_goodbyes : Int32) (t_women : Int32) : Nat → Int32 → Int32 → Int32 → Option (Int32)
  | 0, _, _, _ => none
  | n + 1, x1, x2, x3 =>
    if t_women ≤ x3 then
    some x1
    else
    wq_b1 (gX0_isIll n_ill x3) (fun v3 =>
    if v3 = 0 then
    wq_b1 (gX6_farthestWith n_likings n_trust t_tears t_settings t_goodbyes x3) (fun v7 =>
    if v7 ≤ x2 then
    gX6_bestWoman_L7 n_likings n_trust n_ill t_tears t_settings t_goodbyes t_women n x1 x2 (x3 + 1)
    else
    gX6_bestWoman_L7 n_likings n_trust n_ill t_tears t_settings t_goodbyes t_women n x3 v7 (x3 + 1))
    else
    (if 0 ≤ x2 then
    gX6_bestWoman_L7 n_likings n_trust n_ill t_tears t_settings t_goodbyes t_women n x1 x2 (x3 + 1)
    else
    gX6_bestWoman_L7 n_likings n_trust n_ill t_tears t_settings t_goodbyes t_women n x3 0 (x3 + 1)))
def gX6_bestWoman (n_likings : Nat → Int32) (n_trust : Int32) (n_ill : Int32) (t_tears : Nat → Int32) (t_settings : Nat → Int32) (t_goodbyes : Int32) (t_women : Int32) : Option (Int32) :=
    gX6_bestWoman_L7 n_likings n_trust n_ill t_tears t_settings t_goodbyes t_women 1000 (-9) 0 0

def gX6_now (n_likings : Nat → Int32) (n_day : Int32) (n_trust : Int32) (n_ill : Int32) (n_done : Int32) (p_known : Int32) (t_tears : Nat → Int32) (t_settings : Nat → Int32) (t_goodbyes : Int32) (t_women : Int32) (a1 : Int32) : Option (Int32) :=
    if a1 = 0 then
    some n_day
    else
    (if a1 = 1 then
    some n_trust
    else
    (if a1 = 2 then
    (if n_done = 0 then
    some 0
    else
    some 1)
    else
    (if a1 = 3 then
    wq_b1 (gX6_bestWoman n_likings n_trust n_ill t_tears t_settings t_goodbyes t_women) (fun v7 =>
    some v7)
    else
    (if a1 = 4 then
    some n_ill
    else
    (if a1 = 5 then
    some p_known
    else
    some (-1))))))

def gX6_isLength (a0 : Int32) : Option (Int32) :=
    if a0 < 1 then
    some 0
    else
    (if 96 < a0 then
    some 0
    else
    some 1)

def gX6_isMorning (t_goodbyes : Int32) (t_women : Int32) (a1 : Int32) (a2 : Int32) (a3 : Int32) : Option (Int32) :=
    wq_b1 (gX5_hasGoodbye t_goodbyes a1) (fun v2 =>
    if v2 = 0 then
    some 0
    else
    wq_b1 (gX6_isLength a2) (fun v6 =>
    if v6 = 0 then
    some 0
    else
    wq_b1 (gX5_hasWoman t_women a3) (fun v10 =>
    if v10 = 0 then
    some 0
    else
    some 1)))

def gX0_folded_L18 (n_likings : Nat → Int32) (n_ill : Int32) (n_done : Int32) : Nat → Int64 → Int32 → Option (Int64)
  | 0, _, _ => none
  | n + 1, x1, x3 =>
    if 4 ≤ x3 then
    (if n_done = 0 then
    some ((((x1 <<< (Int32.toInt64 4 &&& 63)) ||| (Int32.toInt64 n_ill)) <<< (Int32.toInt64 1 &&& 63)) ||| (Int32.toInt64 0))
    else
    some ((((x1 <<< (Int32.toInt64 4 &&& 63)) ||| (Int32.toInt64 n_ill)) <<< (Int32.toInt64 1 &&& 63)) ||| (Int32.toInt64 1)))
    else
    wq_chk x3 4 (gX0_folded_L18 n_likings n_ill n_done n ((x1 <<< (Int32.toInt64 4 &&& 63)) ||| (Int32.toInt64 (n_likings (Int32.toNatClampNeg x3)))) (x3 + 1))
def gX0_folded (n_likings : Nat → Int32) (n_day : Int32) (n_trust : Int32) (n_ill : Int32) (n_done : Int32) : Option (Int64) :=
    gX0_folded_L18 n_likings n_ill n_done 1000 (((Int32.toInt64 n_day) <<< (Int32.toInt64 5 &&& 63)) ||| (Int32.toInt64 n_trust)) 0

def gX2_loseOldest_L2 (z_p_known : Int32) : Nat → Int32 → (Nat → Int64) → Option ((Nat → Int64) × Int32)
  | 0, _, _ => none
  | n + 1, x1, z_p_befores =>
    if 10 ≤ x1 then
    some (z_p_befores, 9)
    else
    wq_chk x1 10 (wq_chk (x1 - 1) 10 (gX2_loseOldest_L2 z_p_known n (x1 + 1) (vp_updL z_p_befores (Int32.toNatClampNeg (x1 - 1)) (z_p_befores (Int32.toNatClampNeg x1)))))
def gX2_loseOldest (p_befores : Nat → Int64) (p_known : Int32) : Option ((Nat → Int64) × Int32) :=
    gX2_loseOldest_L2 p_known 1000 1 p_befores

def gX2_add (p_befores : Nat → Int64) (p_known : Int32) (a1 : Int64) : Option ((Nat → Int64) × Int32) :=
    if p_known < 10 then
    (if p_known < 0 then
    some (p_befores, p_known)
    else
    wq_chk p_known 10 (some ((vp_updL p_befores (Int32.toNatClampNeg p_known) a1), (p_known + 1))))
    else
    wq_b2 (gX2_loseOldest p_befores p_known) (fun w6 w7 =>
    if w7 < 0 then
    some (w6, w7)
    else
    (if w7 < 10 then
    wq_chk w7 10 (some ((vp_updL w6 (Int32.toNatClampNeg w7) a1), (w7 + 1)))
    else
    some (w6, w7)))

def gX6_beyondTrust (a0 : Int32) (a1 : Int32) : Option (Int32) :=
    some (if 0 < (a0 - (2 * a1)) then (a0 - (2 * a1)) else 0)

def gX6_withinMinutes (a0 : Int32) : Option (Int32) :=
    some (if 0 < (if a0 < 60 then a0 else 60) then (if a0 < 60 then a0 else 60) else 0)

def gX5_minutes (t_tears : Nat → Int32) (t_settings : Nat → Int32) (t_goodbyes : Int32) (a1 : Int32) (a2 : Int32) (a3 : Int32) (a4 : Int32) : Option (Int32) :=
    wq_b1 (gX5_tearsOf t_tears t_goodbyes a1) (fun v2 =>
    wq_b1 (gX5_setting t_settings 0) (fun v5 =>
    wq_b1 (gX6_beyondTrust a3 a2) (fun v8 =>
    wq_b1 (gX6_withinMinutes ((v2 + (v5 * v8)) - a4)) (fun v11 =>
    some v11))))

def gX6_minutesNow (n_likings : Nat → Int32) (n_trust : Int32) (t_tears : Nat → Int32) (t_settings : Nat → Int32) (t_goodbyes : Int32) (a1 : Int32) (a2 : Int32) (a3 : Int32) : Option (Int32) :=
    wq_b1 (gX0_likingOf n_likings a3) (fun v2 =>
    wq_b1 (gX5_minutes t_tears t_settings t_goodbyes a1 n_trust a2 v2) (fun v5 =>
    some v5))

def gX5_isCalm (t_settings : Nat → Int32) (a1 : Int32) : Option (Int32) :=
    wq_b1 (gX5_setting t_settings 1) (fun v2 =>
    if v2 < a1 then
    some 0
    else
    some 1)

def gX5_calmerTrust (t_gains : Nat → Int32) (t_goodbyes : Int32) (a1 : Int32) (a2 : Int32) : Option (Int32) :=
    wq_b1 (gX5_gainOf t_gains t_goodbyes a1) (fun v2 =>
    some (if (a2 + v2) < 24 then (a2 + v2) else 24))

def gX5_isWild (t_settings : Nat → Int32) (a1 : Int32) : Option (Int32) :=
    wq_b1 (gX5_setting t_settings 2) (fun v2 =>
    if a1 < v2 then
    some 0
    else
    some 1)

def gX5_trustAfter (t_gains : Nat → Int32) (t_settings : Nat → Int32) (t_goodbyes : Int32) (a1 : Int32) (a2 : Int32) (a3 : Int32) : Option (Int32) :=
    wq_b1 (gX5_isCalm t_settings a3) (fun v2 =>
    if v2 = 0 then
    wq_b1 (gX5_isWild t_settings a3) (fun v6 =>
    if v6 = 0 then
    some a2
    else
    some (if 0 < (a2 - 2) then (a2 - 2) else 0))
    else
    wq_b1 (gX5_calmerTrust t_gains t_goodbyes a1 a2) (fun v10 =>
    some v10))

def gX5_calmerLiking (a1 : Int32) : Option (Int32) :=
    some (if (a1 + 1) < 9 then (a1 + 1) else 9)

def gX5_likingAfter (t_settings : Nat → Int32) (a1 : Int32) (a2 : Int32) : Option (Int32) :=
    wq_b1 (gX5_isCalm t_settings a2) (fun v2 =>
    if v2 = 0 then
    wq_b1 (gX5_isWild t_settings a2) (fun v6 =>
    if v6 = 0 then
    some a1
    else
    some (if 0 < (a1 - 1) then (a1 - 1) else 0))
    else
    wq_b1 (gX5_calmerLiking a1) (fun v10 =>
    some v10))

def gX0_setLiking (n_likings : Nat → Int32) (a1 : Int32) (a2 : Int32) : Option ((Nat → Int32)) :=
    if a1 < 0 then
    some n_likings
    else
    (if 4 ≤ a1 then
    some n_likings
    else
    wq_chk a1 4 (some (upd n_likings (Int32.toNatClampNeg a1) a2)))

def gX6_morning (n_likings : Nat → Int32) (n_day : Int32) (n_trust : Int32) (n_ill : Int32) (n_done : Int32) (p_befores : Nat → Int64) (p_known : Int32) (t_tears : Nat → Int32) (t_gains : Nat → Int32) (t_settings : Nat → Int32) (t_goodbyes : Int32) (t_women : Int32) (a1 : Int32) (a2 : Int32) (a3 : Int32) : Option (Int32 × (Nat → Int32) × Int32 × Int32 × Int32 × (Nat → Int64) × Int32) :=
    wq_b1 (gX6_isMorning t_goodbyes t_women a1 a2 a3) (fun v2 =>
    if v2 = 0 then
    some ((-1), n_likings, n_day, n_trust, n_done, p_befores, p_known)
    else
    wq_b1 (gX0_isIll n_ill a3) (fun v6 =>
    if v6 = 0 then
    (if n_day < 999 then
    wq_b1 (gX0_folded n_likings n_day n_trust n_ill n_done) (fun v11 =>
    wq_b2 (gX2_add p_befores p_known v11) (fun w13 w14 =>
    wq_b1 (gX6_minutesNow n_likings n_trust t_tears t_settings t_goodbyes a1 a2 a3) (fun v16 =>
    wq_b1 (gX5_trustAfter t_gains t_settings t_goodbyes a1 n_trust v16) (fun v19 =>
    wq_b1 (gX0_likingOf n_likings a3) (fun v22 =>
    wq_b1 (gX5_likingAfter t_settings v22 v16) (fun v25 =>
    wq_b1 (gX0_setLiking n_likings a3 v25) (fun w28 =>
    wq_b1 (gX5_isCalm t_settings v16) (fun v30 =>
    if v30 = 0 then
    some (v16, w28, (n_day + 1), v19, n_done, w13, w14)
    else
    wq_b1 (gX5_setting t_settings 3) (fun v34 =>
    if a2 < v34 then
    some (v16, w28, (n_day + 1), v19, n_done, w13, w14)
    else
    some (v16, w28, (n_day + 1), v19, 1, w13, w14))))))))))
    else
    some ((-2), n_likings, n_day, n_trust, n_done, p_befores, p_known))
    else
    some ((-2), n_likings, n_day, n_trust, n_done, p_befores, p_known)))

def gX6_home (n_likings : Nat → Int32) (n_day : Int32) (n_trust : Int32) (n_ill : Int32) (n_done : Int32) (p_befores : Nat → Int64) (p_known : Int32) (a1 : Int32) : Option (Int32 × Int32 × Int32 × (Nat → Int64) × Int32) :=
    if a1 < 1 then
    some ((-1), n_day, n_trust, p_befores, p_known)
    else
    (if a1 ≤ 9 then
    (if (n_day + a1) ≤ 999 then
    wq_b1 (gX0_folded n_likings n_day n_trust n_ill n_done) (fun v5 =>
    wq_b2 (gX2_add p_befores p_known v5) (fun w7 w8 =>
    some ((if 0 < (n_trust - a1) then (n_trust - a1) else 0), (n_day + a1), (if 0 < (n_trust - a1) then (n_trust - a1) else 0), w7, w8)))
    else
    some ((-2), n_day, n_trust, p_befores, p_known))
    else
    some ((-1), n_day, n_trust, p_befores, p_known))

def gJ6_bitCount_0f7a4 (a0 : Int32) : Option (Int32) :=
    some ((((((((a0 - ((Int32.toUInt32 a0 >>> (Int32.toUInt32 1 &&& Int32.toUInt32 31)).toInt32 &&& 1431655765)) &&& 858993459) + ((Int32.toUInt32 (a0 - ((Int32.toUInt32 a0 >>> (Int32.toUInt32 1 &&& Int32.toUInt32 31)).toInt32 &&& 1431655765)) >>> (Int32.toUInt32 2 &&& Int32.toUInt32 31)).toInt32 &&& 858993459)) + (Int32.toUInt32 (((a0 - ((Int32.toUInt32 a0 >>> (Int32.toUInt32 1 &&& Int32.toUInt32 31)).toInt32 &&& 1431655765)) &&& 858993459) + ((Int32.toUInt32 (a0 - ((Int32.toUInt32 a0 >>> (Int32.toUInt32 1 &&& Int32.toUInt32 31)).toInt32 &&& 1431655765)) >>> (Int32.toUInt32 2 &&& Int32.toUInt32 31)).toInt32 &&& 858993459)) >>> (Int32.toUInt32 4 &&& Int32.toUInt32 31)).toInt32) &&& 252645135) + (Int32.toUInt32 (((((a0 - ((Int32.toUInt32 a0 >>> (Int32.toUInt32 1 &&& Int32.toUInt32 31)).toInt32 &&& 1431655765)) &&& 858993459) + ((Int32.toUInt32 (a0 - ((Int32.toUInt32 a0 >>> (Int32.toUInt32 1 &&& Int32.toUInt32 31)).toInt32 &&& 1431655765)) >>> (Int32.toUInt32 2 &&& Int32.toUInt32 31)).toInt32 &&& 858993459)) + (Int32.toUInt32 (((a0 - ((Int32.toUInt32 a0 >>> (Int32.toUInt32 1 &&& Int32.toUInt32 31)).toInt32 &&& 1431655765)) &&& 858993459) + ((Int32.toUInt32 (a0 - ((Int32.toUInt32 a0 >>> (Int32.toUInt32 1 &&& Int32.toUInt32 31)).toInt32 &&& 1431655765)) >>> (Int32.toUInt32 2 &&& Int32.toUInt32 31)).toInt32 &&& 858993459)) >>> (Int32.toUInt32 4 &&& Int32.toUInt32 31)).toInt32) &&& 252645135) >>> (Int32.toUInt32 8 &&& Int32.toUInt32 31)).toInt32) + (Int32.toUInt32 ((((((a0 - ((Int32.toUInt32 a0 >>> (Int32.toUInt32 1 &&& Int32.toUInt32 31)).toInt32 &&& 1431655765)) &&& 858993459) + ((Int32.toUInt32 (a0 - ((Int32.toUInt32 a0 >>> (Int32.toUInt32 1 &&& Int32.toUInt32 31)).toInt32 &&& 1431655765)) >>> (Int32.toUInt32 2 &&& Int32.toUInt32 31)).toInt32 &&& 858993459)) + (Int32.toUInt32 (((a0 - ((Int32.toUInt32 a0 >>> (Int32.toUInt32 1 &&& Int32.toUInt32 31)).toInt32 &&& 1431655765)) &&& 858993459) + ((Int32.toUInt32 (a0 - ((Int32.toUInt32 a0 >>> (Int32.toUInt32 1 &&& Int32.toUInt32 31)).toInt32 &&& 1431655765)) >>> (Int32.toUInt32 2 &&& Int32.toUInt32 31)).toInt32 &&& 858993459)) >>> (Int32.toUInt32 4 &&& Int32.toUInt32 31)).toInt32) &&& 252645135) + (Int32.toUInt32 (((((a0 - ((Int32.toUInt32 a0 >>> (Int32.toUInt32 1 &&& Int32.toUInt32 31)).toInt32 &&& 1431655765)) &&& 858993459) + ((Int32.toUInt32 (a0 - ((Int32.toUInt32 a0 >>> (Int32.toUInt32 1 &&& Int32.toUInt32 31)).toInt32 &&& 1431655765)) >>> (Int32.toUInt32 2 &&& Int32.toUInt32 31)).toInt32 &&& 858993459)) + (Int32.toUInt32 (((a0 - ((Int32.toUInt32 a0 >>> (Int32.toUInt32 1 &&& Int32.toUInt32 31)).toInt32 &&& 1431655765)) &&& 858993459) + ((Int32.toUInt32 (a0 - ((Int32.toUInt32 a0 >>> (Int32.toUInt32 1 &&& Int32.toUInt32 31)).toInt32 &&& 1431655765)) >>> (Int32.toUInt32 2 &&& Int32.toUInt32 31)).toInt32 &&& 858993459)) >>> (Int32.toUInt32 4 &&& Int32.toUInt32 31)).toInt32) &&& 252645135) >>> (Int32.toUInt32 8 &&& Int32.toUInt32 31)).toInt32) >>> (Int32.toUInt32 16 &&& Int32.toUInt32 31)).toInt32) &&& 63)

def gX6_falls (n_likings : Nat → Int32) (n_day : Int32) (n_trust : Int32) (n_ill : Int32) (n_done : Int32) (p_befores : Nat → Int64) (p_known : Int32) (t_women : Int32) (a1 : Int32) (a2 : Int32) : Option (Int32 × Int32 × (Nat → Int64) × Int32) :=
    wq_b1 (gX5_hasWoman t_women a1) (fun v2 =>
    if v2 = 0 then
    some ((-1), n_ill, p_befores, p_known)
    else
    (if a2 < 0 then
    some ((-1), n_ill, p_befores, p_known)
    else
    (if a2 ≤ 1 then
    wq_b1 (gX0_isIll n_ill a1) (fun v8 =>
    if a2 = 1 then
    (if v8 = 1 then
    some ((-2), n_ill, p_befores, p_known)
    else
    wq_b1 (gX0_folded n_likings n_day n_trust n_ill n_done) (fun v22 =>
    wq_b2 (gX2_add p_befores p_known v22) (fun w24 w25 =>
    wq_b1 (gJ6_bitCount_0f7a4 (n_ill ^^^ (1 <<< (a1 &&& 31)))) (fun v27 =>
    some (v27, (n_ill ^^^ (1 <<< (a1 &&& 31))), w24, w25)))))
    else
    (if v8 = 0 then
    some ((-2), n_ill, p_befores, p_known)
    else
    wq_b1 (gX0_folded n_likings n_day n_trust n_ill n_done) (fun v13 =>
    wq_b2 (gX2_add p_befores p_known v13) (fun w15 w16 =>
    wq_b1 (gJ6_bitCount_0f7a4 (n_ill ^^^ (1 <<< (a1 &&& 31)))) (fun v18 =>
    some (v18, (n_ill ^^^ (1 <<< (a1 &&& 31))), w15, w16))))))
    else
    some ((-1), n_ill, p_befores, p_known))))

def gX2_takeLatest (p_befores : Nat → Int64) (p_known : Int32) : Option (Int64 × Int32) :=
    if p_known < 1 then
    some (0, p_known)
    else
    (if p_known ≤ 10 then
    wq_chk (p_known - 1) 10 (some ((p_befores (Int32.toNatClampNeg (p_known - 1))), (p_known - 1)))
    else
    some (0, p_known))

def gX0_unfold_L36 (z_n_day : Int32) (z_n_trust : Int32) (z_n_ill : Int32) (z_n_done : Int32) : Nat → Int64 → Int32 → (Nat → Int32) → Option ((Nat → Int32) × Int32 × Int32 × Int32 × Int32)
  | 0, _, _, _ => none
  | n + 1, x3, x5, z_n_likings =>
    if x5 < 0 then
    some (z_n_likings, (Int64.toInt32 (x3 >>> (Int32.toInt64 5 &&& 63))), (Int64.toInt32 (x3 &&& 31)), z_n_ill, z_n_done)
    else
    wq_chk x5 4 (gX0_unfold_L36 z_n_day z_n_trust z_n_ill z_n_done n (x3 >>> (Int32.toInt64 4 &&& 63)) (x5 + (-1)) (upd z_n_likings (Int32.toNatClampNeg x5) (Int64.toInt32 (x3 &&& 15))))
def gX0_unfold (n_likings : Nat → Int32) (n_day : Int32) (n_trust : Int32) (n_ill : Int32) (n_done : Int32) (a1 : Int64) : Option ((Nat → Int32) × Int32 × Int32 × Int32 × Int32) :=
    if (lg_cmp (a1 &&& 1) 1) = 0 then
    gX0_unfold_L36 n_day n_trust (Int64.toInt32 ((a1 >>> (Int32.toInt64 1 &&& 63)) &&& 15)) 1 1000 (a1 >>> (Int32.toInt64 5 &&& 63)) 3 n_likings
    else
    gX0_unfold_L36 n_day n_trust (Int64.toInt32 ((a1 >>> (Int32.toInt64 1 &&& 63)) &&& 15)) 0 1000 (a1 >>> (Int32.toInt64 5 &&& 63)) 3 n_likings

def gX6_undo (n_likings : Nat → Int32) (n_day : Int32) (n_trust : Int32) (n_ill : Int32) (n_done : Int32) (p_befores : Nat → Int64) (p_known : Int32) : Option (Int32 × (Nat → Int32) × Int32 × Int32 × Int32 × Int32 × Int32) :=
    if 1 ≤ p_known then
    wq_b2 (gX2_takeLatest p_befores p_known) (fun v3 w4 =>
    wq_b5 (gX0_unfold n_likings n_day n_trust n_ill n_done v3) (fun w6 w7 w8 w9 w10 =>
    some (w4, w6, w7, w8, w9, w10, w4)))
    else
    some ((-2), n_likings, n_day, n_trust, n_ill, n_done, p_known)

def gX6_would (n_likings : Nat → Int32) (n_trust : Int32) (t_tears : Nat → Int32) (t_settings : Nat → Int32) (t_goodbyes : Int32) (t_women : Int32) (a1 : Int32) (a2 : Int32) (a3 : Int32) : Option (Int32) :=
    wq_b1 (gX6_isMorning t_goodbyes t_women a1 a2 a3) (fun v2 =>
    if v2 = 0 then
    some (-1)
    else
    wq_b1 (gX6_minutesNow n_likings n_trust t_tears t_settings t_goodbyes a1 a2 a3) (fun v6 =>
    some v6))

def gX6_farthest (n_likings : Nat → Int32) (n_trust : Int32) (t_tears : Nat → Int32) (t_settings : Nat → Int32) (t_goodbyes : Int32) (t_women : Int32) (a1 : Int32) (a2 : Int32) : Option (Int32) :=
    wq_b1 (gX5_hasGoodbye t_goodbyes a1) (fun v2 =>
    if v2 = 0 then
    some (-1)
    else
    wq_b1 (gX5_hasWoman t_women a2) (fun v6 =>
    if v6 = 0 then
    some (-1)
    else
    wq_b1 (gX6_reachNow n_likings n_trust t_tears t_settings t_goodbyes a1 a2) (fun v10 =>
    if 1 ≤ v10 then
    some v10
    else
    some (-9))))

def gX1_placeOf (a0 : Int32) (a1 : Int32) : Option (Int32) :=
    some ((a0 * 10) + a1)

def gX1_isPlace (a0 : Int32) : Option (Int32) :=
    if a0 < 0 then
    some 0
    else
    (if 250 ≤ a0 then
    some 0
    else
    some 1)

def gX1_offer (o_fewest : Nat → Int32) (o_rows : Nat → Int32) (o_first : Nat → Int32) (a1 : Int32) (a2 : Int32) (a3 : Int32) (a4 : Int32) : Option ((Nat → Int32) × (Nat → Int32) × (Nat → Int32)) :=
    wq_b1 (gX1_isPlace a1) (fun v2 =>
    if v2 = 0 then
    some (o_fewest, o_rows, o_first)
    else
    wq_chk a1 250 (if (o_fewest (Int32.toNatClampNeg a1)) = 0 then
    some ((upd o_fewest (Int32.toNatClampNeg a1) a3), (upd o_rows (Int32.toNatClampNeg a1) (a4 - a4 / 1000003 * 1000003)), (upd o_first (Int32.toNatClampNeg a1) a2))
    else
    (if (o_fewest (Int32.toNatClampNeg a1)) ≤ a3 then
    (if a3 = (o_fewest (Int32.toNatClampNeg a1)) then
    some (o_fewest, (upd o_rows (Int32.toNatClampNeg a1) (((o_rows (Int32.toNatClampNeg a1)) + a4) - ((o_rows (Int32.toNatClampNeg a1)) + a4) / 1000003 * 1000003)), o_first)
    else
    some (o_fewest, o_rows, o_first))
    else
    some ((upd o_fewest (Int32.toNatClampNeg a1) a3), (upd o_rows (Int32.toNatClampNeg a1) (a4 - a4 / 1000003 * 1000003)), (upd o_first (Int32.toNatClampNeg a1) a2)))))

def gX1_fewestAt (o_fewest : Nat → Int32) (a1 : Int32) : Option (Int32) :=
    wq_b1 (gX1_isPlace a1) (fun v2 =>
    if v2 = 0 then
    some 0
    else
    wq_chk a1 250 (some (o_fewest (Int32.toNatClampNeg a1))))

def gX1_rowsAt (o_rows : Nat → Int32) (a1 : Int32) : Option (Int32) :=
    wq_b1 (gX1_isPlace a1) (fun v2 =>
    if v2 = 0 then
    some 0
    else
    wq_chk a1 250 (some (o_rows (Int32.toNatClampNeg a1))))

def gX1_workOutFrom_L42 (t_tears : Nat → Int32) (t_gains : Nat → Int32) (t_settings : Nat → Int32) (t_goodbyes : Int32) (a2 : Int32) (a3 : Int32) (x4 : Int32) (x5 : Int32) : Nat → Int32 → (Nat → Int32) → (Nat → Int32) → (Nat → Int32) → Option ((Nat → Int32) × (Nat → Int32) × (Nat → Int32))
  | 0, _, _, _, _ => none
  | n + 1, x6, z_o_fewest, z_o_rows, z_o_first =>
    if t_goodbyes ≤ x6 then
    some (z_o_fewest, z_o_rows, z_o_first)
    else
    wq_b1 (gX5_reach t_tears t_settings t_goodbyes x6 a2 a3) (fun v3 =>
    if v3 < x5 then
    (if v3 < 1 then
    gX1_workOutFrom_L42 t_tears t_gains t_settings t_goodbyes a2 a3 x4 x5 n (x6 + 1) z_o_fewest z_o_rows z_o_first
    else
    wq_b1 (gX5_calmerTrust t_gains t_goodbyes x6 a2) (fun v8 =>
    wq_b1 (gX5_calmerLiking a3) (fun v11 =>
    wq_b1 (gX1_placeOf v8 v11) (fun v14 =>
    if v14 = x4 then
    gX1_workOutFrom_L42 t_tears t_gains t_settings t_goodbyes a2 a3 x4 x5 n (x6 + 1) z_o_fewest z_o_rows z_o_first
    else
    wq_b1 (gX1_fewestAt z_o_fewest v14) (fun v18 =>
    if v18 ≤ 0 then
    gX1_workOutFrom_L42 t_tears t_gains t_settings t_goodbyes a2 a3 x4 x5 n (x6 + 1) z_o_fewest z_o_rows z_o_first
    else
    wq_b1 (gX1_fewestAt z_o_fewest v14) (fun v22 =>
    wq_b1 (gX1_rowsAt z_o_rows v14) (fun v25 =>
    wq_b3 (gX1_offer z_o_fewest z_o_rows z_o_first x4 x6 (v22 + 1) (v3 * v25)) (fun w28 w29 w30 =>
    gX1_workOutFrom_L42 t_tears t_gains t_settings t_goodbyes a2 a3 x4 x5 n (x6 + 1) w28 w29 w30))))))))
    else
    wq_b3 (gX1_offer z_o_fewest z_o_rows z_o_first x4 x6 1 ((v3 - x5) + 1)) (fun w32 w33 w34 =>
    gX1_workOutFrom_L42 t_tears t_gains t_settings t_goodbyes a2 a3 x4 x5 n (x6 + 1) w32 w33 w34))
def gX1_workOutFrom (o_fewest : Nat → Int32) (o_rows : Nat → Int32) (o_first : Nat → Int32) (t_tears : Nat → Int32) (t_gains : Nat → Int32) (t_settings : Nat → Int32) (t_goodbyes : Int32) (a2 : Int32) (a3 : Int32) : Option ((Nat → Int32) × (Nat → Int32) × (Nat → Int32)) :=
    wq_b1 (gX1_placeOf a2 a3) (fun v36 =>
    wq_b1 (gX1_isPlace v36) (fun v39 =>
    if v39 = 0 then
    some (o_fewest, o_rows, o_first)
    else
    wq_chk v36 250 (wq_b1 (gX5_setting t_settings 3) (fun v44 =>
    gX1_workOutFrom_L42 t_tears t_gains t_settings t_goodbyes a2 a3 v36 v44 1000 0 (upd o_fewest (Int32.toNatClampNeg v36) 0) (upd o_rows (Int32.toNatClampNeg v36) 0) o_first))))

def gX1_workOut_L10 (kk3 : Int32 → (Nat → Int32) → (Nat → Int32) → (Nat → Int32) → Option ((Nat → Int32) × (Nat → Int32) × (Nat → Int32) × Int32)) (z_o_stands : Int32) (t_tears : Nat → Int32) (t_gains : Nat → Int32) (t_settings : Nat → Int32) (t_goodbyes : Int32) (x2 : Int32) : Nat → Int32 → (Nat → Int32) → (Nat → Int32) → (Nat → Int32) → Option ((Nat → Int32) × (Nat → Int32) × (Nat → Int32) × Int32)
  | 0, _, _, _, _ => none
  | n + 1, x3, z_o_fewest, z_o_rows, z_o_first =>
    if x3 < 0 then
    kk3 (x2 + (-1)) z_o_fewest z_o_rows z_o_first
    else
    wq_b3 (gX1_workOutFrom z_o_fewest z_o_rows z_o_first t_tears t_gains t_settings t_goodbyes x2 x3) (fun w3 w4 w5 =>
    gX1_workOut_L10 kk3 z_o_stands t_tears t_gains t_settings t_goodbyes x2 n (x3 + (-1)) w3 w4 w5)
def gX1_workOut_L3 (z_o_stands : Int32) (t_tears : Nat → Int32) (t_gains : Nat → Int32) (t_settings : Nat → Int32) (t_goodbyes : Int32) : Nat → Int32 → (Nat → Int32) → (Nat → Int32) → (Nat → Int32) → Option ((Nat → Int32) × (Nat → Int32) × (Nat → Int32) × Int32)
  | 0, _, _, _, _ => none
  | n + 1, x2, z_o_fewest, z_o_rows, z_o_first =>
    if x2 < 0 then
    some (z_o_fewest, z_o_rows, z_o_first, 1)
    else
    gX1_workOut_L10 (gX1_workOut_L3 z_o_stands t_tears t_gains t_settings t_goodbyes n) z_o_stands t_tears t_gains t_settings t_goodbyes x2 1000 9 z_o_fewest z_o_rows z_o_first
def gX1_workOut (o_fewest : Nat → Int32) (o_rows : Nat → Int32) (o_first : Nat → Int32) (o_stands : Int32) (t_tears : Nat → Int32) (t_gains : Nat → Int32) (t_settings : Nat → Int32) (t_goodbyes : Int32) : Option ((Nat → Int32) × (Nat → Int32) × (Nat → Int32) × Int32) :=
    gX1_workOut_L3 o_stands t_tears t_gains t_settings t_goodbyes 1000 24 o_fewest o_rows o_first

def gX6_lookAhead (o_fewest : Nat → Int32) (o_rows : Nat → Int32) (o_first : Nat → Int32) (o_stands : Int32) (t_tears : Nat → Int32) (t_gains : Nat → Int32) (t_settings : Nat → Int32) (t_goodbyes : Int32) : Option ((Nat → Int32) × (Nat → Int32) × (Nat → Int32) × Int32) :=
    if o_stands = 0 then
    wq_b4 (gX1_workOut o_fewest o_rows o_first o_stands t_tears t_gains t_settings t_goodbyes) (fun w3 w4 w5 w6 =>
    some (w3, w4, w5, w6))
    else
    some (o_fewest, o_rows, o_first, o_stands)

def gX1_fewestFrom (o_fewest : Nat → Int32) (a1 : Int32) (a2 : Int32) : Option (Int32) :=
    wq_b1 (gX1_placeOf a1 a2) (fun v2 =>
    wq_b1 (gX1_fewestAt o_fewest v2) (fun v5 =>
    some v5))

def gX1_morningAt_L16 (o_fewest : Nat → Int32) (o_first : Nat → Int32) (t_gains : Nat → Int32) (t_settings : Nat → Int32) (t_goodbyes : Int32) (a4 : Int32) : Nat → Int32 → Int32 → Int32 → Int32 → Option (Int32)
  | 0, _, _, _, _ => none
  | n + 1, x5, x6, x7, x8 =>
    if a4 ≤ x8 then
    wq_b1 (gX1_isPlace x5) (fun v3 =>
    if v3 = 0 then
    some (-5)
    else
    wq_chk x5 250 (if (o_fewest (Int32.toNatClampNeg x5)) = 1 then
    wq_b1 (gX5_setting t_settings 3) (fun v9 =>
    some ((100 * (o_first (Int32.toNatClampNeg x5))) + v9))
    else
    some ((100 * (o_first (Int32.toNatClampNeg x5))) + 1)))
    else
    wq_b1 (gX1_isPlace x5) (fun v12 =>
    if v12 = 0 then
    wq_b1 (gX1_isPlace x5) (fun v16 =>
    if v16 = 0 then
    some (-5)
    else
    wq_chk x5 250 (if (o_fewest (Int32.toNatClampNeg x5)) = 1 then
    wq_b1 (gX5_setting t_settings 3) (fun v22 =>
    some ((100 * (o_first (Int32.toNatClampNeg x5))) + v22))
    else
    some ((100 * (o_first (Int32.toNatClampNeg x5))) + 1)))
    else
    wq_chk x5 250 (wq_b1 (gX5_calmerTrust t_gains t_goodbyes (o_first (Int32.toNatClampNeg x5)) x6) (fun v26 =>
    wq_b1 (gX5_calmerLiking x7) (fun v29 =>
    wq_b1 (gX1_placeOf v26 v29) (fun v32 =>
    gX1_morningAt_L16 o_fewest o_first t_gains t_settings t_goodbyes a4 n v32 v26 v29 (x8 + 1))))))
def gX1_morningAt (o_fewest : Nat → Int32) (o_first : Nat → Int32) (t_gains : Nat → Int32) (t_settings : Nat → Int32) (t_goodbyes : Int32) (a2 : Int32) (a3 : Int32) (a4 : Int32) : Option (Int32) :=
    wq_b1 (gX1_placeOf a2 a3) (fun v35 =>
    gX1_morningAt_L16 o_fewest o_first t_gains t_settings t_goodbyes a4 1000 v35 a2 a3 0)

def gX6_plan (n_likings : Nat → Int32) (n_trust : Int32) (o_fewest : Nat → Int32) (o_rows : Nat → Int32) (o_first : Nat → Int32) (o_stands : Int32) (t_tears : Nat → Int32) (t_gains : Nat → Int32) (t_settings : Nat → Int32) (t_goodbyes : Int32) (t_women : Int32) (a1 : Int32) (a2 : Int32) : Option (Int32 × (Nat → Int32) × (Nat → Int32) × (Nat → Int32) × Int32) :=
    wq_b1 (gX5_hasWoman t_women a1) (fun v2 =>
    if v2 = 0 then
    some ((-1), o_fewest, o_rows, o_first, o_stands)
    else
    (if (-1) ≤ a2 then
    wq_b4 (gX6_lookAhead o_fewest o_rows o_first o_stands t_tears t_gains t_settings t_goodbyes) (fun w7 w8 w9 w10 =>
    wq_b1 (gX0_likingOf n_likings a1) (fun v12 =>
    wq_b1 (gX1_fewestFrom w7 n_trust v12) (fun v15 =>
    if 1 ≤ v15 then
    (if a2 = (-1) then
    some (v15, w7, w8, w9, w10)
    else
    (if a2 < v15 then
    wq_b1 (gX0_likingOf n_likings a1) (fun v21 =>
    wq_b1 (gX1_morningAt w7 w9 t_gains t_settings t_goodbyes n_trust v21 a2) (fun v24 =>
    some (v24, w7, w8, w9, w10)))
    else
    some ((-5), w7, w8, w9, w10)))
    else
    some ((-9), w7, w8, w9, w10))))
    else
    some ((-1), o_fewest, o_rows, o_first, o_stands)))

def gX1_rowsFrom (o_rows : Nat → Int32) (a1 : Int32) (a2 : Int32) : Option (Int32) :=
    wq_b1 (gX1_placeOf a1 a2) (fun v2 =>
    wq_b1 (gX1_rowsAt o_rows v2) (fun v5 =>
    some v5))

def gX6_ways (n_likings : Nat → Int32) (n_trust : Int32) (o_fewest : Nat → Int32) (o_rows : Nat → Int32) (o_first : Nat → Int32) (o_stands : Int32) (t_tears : Nat → Int32) (t_gains : Nat → Int32) (t_settings : Nat → Int32) (t_goodbyes : Int32) (t_women : Int32) (a1 : Int32) : Option (Int32 × (Nat → Int32) × (Nat → Int32) × (Nat → Int32) × Int32) :=
    wq_b1 (gX5_hasWoman t_women a1) (fun v2 =>
    if v2 = 0 then
    some ((-1), o_fewest, o_rows, o_first, o_stands)
    else
    wq_b4 (gX6_lookAhead o_fewest o_rows o_first o_stands t_tears t_gains t_settings t_goodbyes) (fun w6 w7 w8 w9 =>
    wq_b1 (gX0_likingOf n_likings a1) (fun v11 =>
    wq_b1 (gX1_rowsFrom w7 n_trust v11) (fun v14 =>
    some (v14, w6, w7, w8, w9)))))

def gX6_setback (n_likings : Nat → Int32) (n_trust : Int32) (o_fewest : Nat → Int32) (o_rows : Nat → Int32) (o_first : Nat → Int32) (o_stands : Int32) (t_tears : Nat → Int32) (t_gains : Nat → Int32) (t_settings : Nat → Int32) (t_goodbyes : Int32) (t_women : Int32) (a1 : Int32) (a2 : Int32) (a3 : Int32) : Option (Int32 × (Nat → Int32) × (Nat → Int32) × (Nat → Int32) × Int32) :=
    wq_b1 (gX6_isMorning t_goodbyes t_women a1 a2 a3) (fun v2 =>
    if v2 = 0 then
    some ((-1000000), o_fewest, o_rows, o_first, o_stands)
    else
    wq_b4 (gX6_lookAhead o_fewest o_rows o_first o_stands t_tears t_gains t_settings t_goodbyes) (fun w6 w7 w8 w9 =>
    wq_b1 (gX0_likingOf n_likings a3) (fun v11 =>
    wq_b1 (gX6_minutesNow n_likings n_trust t_tears t_settings t_goodbyes a1 a2 a3) (fun v14 =>
    wq_b1 (gX1_fewestFrom w6 n_trust v11) (fun v17 =>
    wq_b1 (gX5_trustAfter t_gains t_settings t_goodbyes a1 n_trust v14) (fun v20 =>
    wq_b1 (gX5_likingAfter t_settings v11 v14) (fun v23 =>
    wq_b1 (gX1_fewestFrom w6 v20 v23) (fun v26 =>
    if v17 < 1 then
    some ((-1000000), w6, w7, w8, w9)
    else
    (if 1 ≤ v26 then
    some ((v26 - v17), w6, w7, w8, w9)
    else
    some ((-1000000), w6, w7, w8, w9))))))))))

def gX5_calmTenths (t_settings : Nat → Int32) (a1 : Int32) (a2 : Int32) (a3 : Int32) : Option (Int32) :=
    wq_b1 (gX5_isCalm t_settings a1) (fun v2 =>
    if v2 = 0 then
    wq_b1 (gX5_isCalm t_settings (if (a1 + a3) < 60 then (a1 + a3) else 60)) (fun v6 =>
    if v6 = 0 then
    some (0 + 0)
    else
    some (0 + a2))
    else
    wq_b1 (gX5_isCalm t_settings (if (a1 + a3) < 60 then (a1 + a3) else 60)) (fun v10 =>
    if v10 = 0 then
    some ((10 - a2) + 0)
    else
    some ((10 - a2) + a2)))

def gX6_greatestDivisor_L7  : Nat → Int32 → Int32 → Int32 → Option (Int32)
  | 0, _, _, _ => none
  | n + 1, x2, x3, x4 =>
    if 64 ≤ x4 then
    some x2
    else
    (if x3 = 0 then
    some x2
    else
    wq_nz x3 (gX6_greatestDivisor_L7 n x3 (x2 - x2 / x3 * x3) (x4 + 1)))
def gX6_greatestDivisor (a0 : Int32) (a1 : Int32) : Option (Int32) :=
    gX6_greatestDivisor_L7  1000 a0 a1 0

def gX6_odds_L89 (t_tears : Nat → Int32) (t_gains : Nat → Int32) (t_settings : Nat → Int32) (t_goodbyes : Int32) (a1 : Int32) (a2 : Int32) (a4 : Int32) (a5 : Int32) (a6 : Int32) (a7 : Int32) : Nat → Int32 → Int32 → Int32 → Int32 → Int32 → Option (Int32)
  | 0, _, _, _, _, _ => none
  | n + 1, x8, x9, x10, x11, x12 =>
    if a4 ≤ x12 then
    (if a7 = 0 then
    wq_b1 (gX6_greatestDivisor x10 x11) (fun v10 =>
    wq_b1 (gX6_quotient x10 v10) (fun v13 =>
    some v13))
    else
    wq_b1 (gX6_greatestDivisor x10 x11) (fun v4 =>
    wq_b1 (gX6_quotient x11 v4) (fun v7 =>
    some v7)))
    else
    wq_b1 (gX5_minutes t_tears t_settings t_goodbyes a1 x8 a2 x9) (fun v16 =>
    wq_b1 (gX5_calmTenths t_settings v16 a5 a6) (fun v19 =>
    wq_b1 (gX5_calmerTrust t_gains t_goodbyes a1 x8) (fun v22 =>
    wq_b1 (gX5_calmerLiking x9) (fun v25 =>
    gX6_odds_L89 t_tears t_gains t_settings t_goodbyes a1 a2 a4 a5 a6 a7 n v22 v25 (x10 * v19) (x11 * 10) (x12 + 1)))))
def gX6_odds (n_likings : Nat → Int32) (n_trust : Int32) (t_tears : Nat → Int32) (t_gains : Nat → Int32) (t_settings : Nat → Int32) (t_goodbyes : Int32) (t_women : Int32) (a1 : Int32) (a2 : Int32) (a3 : Int32) (a4 : Int32) (a5 : Int32) (a6 : Int32) (a7 : Int32) : Option (Int32) :=
    wq_b1 (gX6_isMorning t_goodbyes t_women a1 a2 a3) (fun v28 =>
    if v28 = 0 then
    some (-1)
    else
    (if a4 < 0 then
    some (-1)
    else
    (if a4 ≤ 5 then
    (if a5 < 0 then
    some (-1)
    else
    (if 10 < a5 then
    some (-1)
    else
    (if a6 < 1 then
    some (-1)
    else
    (if 20 < a6 then
    some (-1)
    else
    (if a7 < 0 then
    some (-1)
    else
    (if a7 ≤ 1 then
    wq_b1 (gX0_likingOf n_likings a3) (fun v40 =>
    gX6_odds_L89 t_tears t_gains t_settings t_goodbyes a1 a2 a4 a5 a6 a7 1000 n_trust v40 1 1 0)
    else
    some (-1)))))))
    else
    some (-1))))

def gX3_add (h_tll : Nat → Int32) (h_beyond : Nat → Int32) (h_minutes : Nat → Int32) (h_size : Int32) (a1 : Int32) (a2 : Int32) (a3 : Int32) : Option (Int32 × (Nat → Int32) × (Nat → Int32) × (Nat → Int32) × Int32) :=
    if h_size < 0 then
    some ((-3), h_tll, h_beyond, h_minutes, h_size)
    else
    (if h_size < 6 then
    wq_chk h_size 6 (some ((h_size + 1), (upd h_tll (Int32.toNatClampNeg h_size) a1), (upd h_beyond (Int32.toNatClampNeg h_size) a2), (upd h_minutes (Int32.toNatClampNeg h_size) a3), (h_size + 1)))
    else
    some ((-3), h_tll, h_beyond, h_minutes, h_size))

def gX6_shows (h_tll : Nat → Int32) (h_beyond : Nat → Int32) (h_minutes : Nat → Int32) (h_size : Int32) (t_tears : Nat → Int32) (t_goodbyes : Int32) (a1 : Int32) (a2 : Int32) (a3 : Int32) (a4 : Int32) (a5 : Int32) : Option (Int32 × (Nat → Int32) × (Nat → Int32) × (Nat → Int32) × Int32) :=
    wq_b1 (gX5_hasGoodbye t_goodbyes a1) (fun v2 =>
    if v2 = 0 then
    some ((-1), h_tll, h_beyond, h_minutes, h_size)
    else
    (if a2 < 0 then
    some ((-1), h_tll, h_beyond, h_minutes, h_size)
    else
    (if 24 < a2 then
    some ((-1), h_tll, h_beyond, h_minutes, h_size)
    else
    wq_b1 (gX6_isLength a3) (fun v8 =>
    if v8 = 0 then
    some ((-1), h_tll, h_beyond, h_minutes, h_size)
    else
    (if a4 < 0 then
    some ((-1), h_tll, h_beyond, h_minutes, h_size)
    else
    (if 9 < a4 then
    some ((-1), h_tll, h_beyond, h_minutes, h_size)
    else
    (if a5 < 0 then
    some ((-1), h_tll, h_beyond, h_minutes, h_size)
    else
    (if a5 ≤ 60 then
    wq_b1 (gX5_tearsOf t_tears t_goodbyes a1) (fun v16 =>
    wq_b1 (gX6_beyondTrust a3 a2) (fun v19 =>
    wq_b5 (gX3_add h_tll h_beyond h_minutes h_size (v16 - a4) v19 a5) (fun v22 w23 w24 w25 w26 =>
    some (v22, w23, w24, w25, w26))))
    else
    some ((-1), h_tll, h_beyond, h_minutes, h_size)))))))))

def gX6_forget (h_size : Int32) : Option (Int32 × Int32) :=
    wq_b2 (gX3_empty h_size) (fun v2 w3 =>
    some (v2, w3))

def gX3_isSoBy_L2 (h_tll : Nat → Int32) (h_beyond : Nat → Int32) (h_minutes : Nat → Int32) (h_size : Int32) (a1 : Int32) : Nat → Int32 → Option (Int32)
  | 0, _ => none
  | n + 1, x2 =>
    if h_size ≤ x2 then
    some 1
    else
    (if 6 ≤ x2 then
    some 1
    else
    wq_chk x2 6 (wq_b1 (gX6_withinMinutes ((h_tll (Int32.toNatClampNeg x2)) + (a1 * (h_beyond (Int32.toNatClampNeg x2))))) (fun v5 =>
    if v5 = (h_minutes (Int32.toNatClampNeg x2)) then
    gX3_isSoBy_L2 h_tll h_beyond h_minutes h_size a1 n (x2 + 1)
    else
    some 0)))
def gX3_isSoBy (h_tll : Nat → Int32) (h_beyond : Nat → Int32) (h_minutes : Nat → Int32) (h_size : Int32) (a1 : Int32) : Option (Int32) :=
    gX3_isSoBy_L2 h_tll h_beyond h_minutes h_size a1 1000 0

def gX6_fits_L4 (h_tll : Nat → Int32) (h_beyond : Nat → Int32) (h_minutes : Nat → Int32) (h_size : Int32) : Nat → Int32 → Int32 → Option (Int32)
  | 0, _, _ => none
  | n + 1, x1, x2 =>
    if 9 < x2 then
    some x1
    else
    wq_b1 (gX3_isSoBy h_tll h_beyond h_minutes h_size x2) (fun v3 =>
    if v3 = 0 then
    gX6_fits_L4 h_tll h_beyond h_minutes h_size n x1 (x2 + 1)
    else
    gX6_fits_L4 h_tll h_beyond h_minutes h_size n (x1 ||| (1 <<< (x2 &&& 31))) (x2 + 1))
def gX6_fits (h_tll : Nat → Int32) (h_beyond : Nat → Int32) (h_minutes : Nat → Int32) (h_size : Int32) : Option (Int32) :=
    gX6_fits_L4 h_tll h_beyond h_minutes h_size 1000 0 1

def gX6_rateOfGoodbye (r_asked : Int64) (t_tears : Nat → Int32) (t_goodbyes : Int32) (a1 : Int32) : Option (Int32 × Int64) :=
    wq_b1 (gX5_tearsOf t_tears t_goodbyes a1) (fun v2 =>
    some (v2, (r_asked + 1)))

def gX6_rateOfSlow (r_asked : Int64) (t_tears : Nat → Int32) (t_gains : Nat → Int32) (t_goodbyes : Int32) (a1 : Int32) : Option (Int32 × Int64) :=
    wq_b2 (gX6_rateOfGoodbye (r_asked + 10) t_tears t_goodbyes a1) (fun v2 w3 =>
    wq_b1 (gX5_gainOf t_gains t_goodbyes a1) (fun v6 =>
    some ((v2 + v6), w3)))

def gX6_rateOfQuick (r_asked : Int64) (n_trust : Int32) (t_tears : Nat → Int32) (t_goodbyes : Int32) (a1 : Int32) : Option (Int32 × Int64) :=
    wq_b2 (gX6_rateOfGoodbye (r_asked + 100) t_tears t_goodbyes a1) (fun v2 w3 =>
    some ((v2 - n_trust), w3))

def gX6_rateOfWave (r_asked : Int64) (t_tears : Nat → Int32) (t_gains : Nat → Int32) (t_goodbyes : Int32) (a1 : Int32) : Option (Int32 × Int64) :=
    wq_b2 (gX6_rateOfSlow (r_asked + 1000) t_tears t_gains t_goodbyes a1) (fun v2 w3 =>
    some ((2 * v2), w3))

def gX6_rateOfUnseen (r_asked : Int64) (n_trust : Int32) (t_tears : Nat → Int32) (t_goodbyes : Int32) (a1 : Int32) : Option (Int32 × Int64) :=
    wq_b2 (gX6_rateOfQuick (r_asked + 10000) n_trust t_tears t_goodbyes a1) (fun v2 w3 =>
    some ((v2 + a1), w3))

def gX6_rateOfKiss (r_asked : Int64) (n_day : Int32) (t_tears : Nat → Int32) (t_goodbyes : Int32) (a1 : Int32) : Option (Int32 × Int64) :=
    wq_b2 (gX6_rateOfGoodbye (r_asked + 100000) t_tears t_goodbyes a1) (fun v2 w3 =>
    some ((v2 + n_day), w3))

def gX6_rate (r_asked : Int64) (n_day : Int32) (n_trust : Int32) (t_tears : Nat → Int32) (t_gains : Nat → Int32) (t_goodbyes : Int32) (a1 : Int32) (a2 : Int32) : Option (Int32 × Int64) :=
    wq_b1 (gX5_hasGoodbye t_goodbyes a2) (fun v2 =>
    if v2 = 0 then
    some ((-1000000), r_asked)
    else
    (if a1 = 0 then
    wq_b2 (gX6_rateOfGoodbye r_asked t_tears t_goodbyes a2) (fun v7 w8 =>
    some (v7, w8))
    else
    (if a1 = 1 then
    wq_b2 (gX6_rateOfSlow r_asked t_tears t_gains t_goodbyes a2) (fun v12 w13 =>
    some (v12, w13))
    else
    (if a1 = 2 then
    wq_b2 (gX6_rateOfQuick r_asked n_trust t_tears t_goodbyes a2) (fun v17 w18 =>
    some (v17, w18))
    else
    (if a1 = 3 then
    wq_b2 (gX6_rateOfWave r_asked t_tears t_gains t_goodbyes a2) (fun v22 w23 =>
    some (v22, w23))
    else
    (if a1 = 4 then
    wq_b2 (gX6_rateOfUnseen r_asked n_trust t_tears t_goodbyes a2) (fun v27 w28 =>
    some (v27, w28))
    else
    (if a1 = 5 then
    wq_b2 (gX6_rateOfKiss r_asked n_day t_tears t_goodbyes a2) (fun v32 w33 =>
    some (v32, w33))
    else
    some ((-1000000), r_asked))))))))

def gX6_keep (r_images : Nat → Int64) (n_likings : Nat → Int32) (n_day : Int32) (n_trust : Int32) (n_ill : Int32) (n_done : Int32) (a1 : Int32) : Option (Int32 × (Nat → Int64)) :=
    if a1 < 0 then
    some ((-1), r_images)
    else
    (if a1 < 2 then
    wq_b1 (gX0_folded n_likings n_day n_trust n_ill n_done) (fun v4 =>
    wq_chk a1 2 (some (n_day, (vp_updL r_images (Int32.toNatClampNeg a1) v4))))
    else
    some ((-1), r_images))

def gX6_back (r_images : Nat → Int64) (n_likings : Nat → Int32) (n_day : Int32) (n_trust : Int32) (n_ill : Int32) (n_done : Int32) (p_known : Int32) (a1 : Int32) : Option (Int32 × (Nat → Int32) × Int32 × Int32 × Int32 × Int32 × Int32) :=
    if a1 < 0 then
    some ((-1), n_likings, n_day, n_trust, n_ill, n_done, p_known)
    else
    (if a1 < 2 then
    wq_chk a1 2 (if (lg_cmp (r_images (Int32.toNatClampNeg a1)) (-1)) = 0 then
    some ((-2), n_likings, n_day, n_trust, n_ill, n_done, p_known)
    else
    wq_b5 (gX0_unfold n_likings n_day n_trust n_ill n_done (r_images (Int32.toNatClampNeg a1))) (fun w6 w7 w8 w9 w10 =>
    wq_b1 (gX2_empty p_known) (fun w12 =>
    some (w7, w6, w7, w8, w9, w10, w12))))
    else
    some ((-1), n_likings, n_day, n_trust, n_ill, n_done, p_known))

def gX6_count (x_size : Int32) (h_size : Int32) (t_settings : Nat → Int32) (t_goodbyes : Int32) (t_women : Int32) (a1 : Int32) : Option (Int32) :=
    if a1 = 0 then
    some t_goodbyes
    else
    (if a1 = 1 then
    some t_women
    else
    (if a1 = 2 then
    wq_b1 (gX5_setting t_settings 0) (fun v5 =>
    some v5)
    else
    (if a1 = 3 then
    wq_b1 (gX5_setting t_settings 1) (fun v9 =>
    some v9)
    else
    (if a1 = 4 then
    wq_b1 (gX5_setting t_settings 2) (fun v13 =>
    some v13)
    else
    (if a1 = 5 then
    wq_b1 (gX5_setting t_settings 3) (fun v17 =>
    some v17)
    else
    (if a1 = 6 then
    some h_size
    else
    (if a1 = 7 then
    some x_size
    else
    some (-1))))))))

def gX6_trace (r_asked : Int64) : Option (Int64) :=
    some r_asked
