def lp_law (L : Nat) : Nat → Int32 → pd_M → Option ((Int32 × pd_M) ⊕ (pd_M))
  | 0, _, _ => none
  | n + 1, z3, f =>
    if ((Int32.ofNat L) - 7) < z3 then
    some (.inr (f))
    else
    if pa_in z3 L = true then
    if ((f 0 z3.toNatClampNeg) &&& 31) = 0 then
    if pa_in (z3 + 1) L = true then
    if pa_in (z3 + 2) L = true then
    if pa_in (z3 + 3) L = true then
    ob2 (fn_X8_sheet (f 0 (z3 + 1).toNatClampNeg) (f 0 (z3 + 2).toNatClampNeg) (f 0 (z3 + 3).toNatClampNeg) f) fun r7 f8 =>
    if pa_in (z3 + 1) L = true then
    if pa_in (z3 + 2) L = true then
    if pa_in (z3 + 3) L = true then
    ob2 (fn_X9_sheet (f8 0 (z3 + 1).toNatClampNeg) (f8 0 (z3 + 2).toNatClampNeg) (f8 0 (z3 + 3).toNatClampNeg) f8) fun r13 f14 =>
    if r7 = r13 then
    pn (z3 + 7) fun x17 =>
    lp_law L n x17 f14
    else
    some (.inl (0, f14))
    else none
    else none
    else none
    else none
    else none
    else none
    else
    if ((f 0 z3.toNatClampNeg) &&& 31) = 1 then
    if pa_in (z3 + 1) L = true then
    if pa_in (z3 + 2) L = true then
    if pa_in (z3 + 3) L = true then
    ob2 (fn_X8_set (f 0 (z3 + 1).toNatClampNeg) (f 0 (z3 + 2).toNatClampNeg) (f 0 (z3 + 3).toNatClampNeg) f) fun r22 f23 =>
    if pa_in (z3 + 1) L = true then
    if pa_in (z3 + 2) L = true then
    if pa_in (z3 + 3) L = true then
    ob2 (fn_X9_set (f23 0 (z3 + 1).toNatClampNeg) (f23 0 (z3 + 2).toNatClampNeg) (f23 0 (z3 + 3).toNatClampNeg) f23) fun r28 f29 =>
    if r22 = r28 then
    pn (z3 + 7) fun x32 =>
    lp_law L n x32 f29
    else
    some (.inl (0, f29))
    else none
    else none
    else none
    else none
    else none
    else none
    else
    if ((f 0 z3.toNatClampNeg) &&& 31) = 2 then
    if pa_in (z3 + 1) L = true then
    if pa_in (z3 + 2) L = true then
    if pa_in (z3 + 3) L = true then
    if pa_in (z3 + 4) L = true then
    if pa_in (z3 + 5) L = true then
    ob2 (fn_X8_copy (f 0 (z3 + 1).toNatClampNeg) (f 0 (z3 + 2).toNatClampNeg) (f 0 (z3 + 3).toNatClampNeg) (f 0 (z3 + 4).toNatClampNeg) (f 0 (z3 + 5).toNatClampNeg) f) fun r39 f40 =>
    if pa_in (z3 + 1) L = true then
    if pa_in (z3 + 2) L = true then
    if pa_in (z3 + 3) L = true then
    if pa_in (z3 + 4) L = true then
    if pa_in (z3 + 5) L = true then
    ob2 (fn_X9_copy (f40 0 (z3 + 1).toNatClampNeg) (f40 0 (z3 + 2).toNatClampNeg) (f40 0 (z3 + 3).toNatClampNeg) (f40 0 (z3 + 4).toNatClampNeg) (f40 0 (z3 + 5).toNatClampNeg) f40) fun r47 f48 =>
    if r39 = r47 then
    pn (z3 + 7) fun x51 =>
    lp_law L n x51 f48
    else
    some (.inl (0, f48))
    else none
    else none
    else none
    else none
    else none
    else none
    else none
    else none
    else none
    else none
    else
    if ((f 0 z3.toNatClampNeg) &&& 31) = 3 then
    if pa_in (z3 + 1) L = true then
    ob2 (fn_X8_drop (f 0 (z3 + 1).toNatClampNeg) f) fun r54 f55 =>
    if pa_in (z3 + 1) L = true then
    ob2 (fn_X9_drop (f55 0 (z3 + 1).toNatClampNeg) f55) fun r58 f59 =>
    if r54 = r58 then
    pn (z3 + 7) fun x62 =>
    lp_law L n x62 f59
    else
    some (.inl (0, f59))
    else none
    else none
    else
    if ((f 0 z3.toNatClampNeg) &&& 31) = 4 then
    if pa_in (z3 + 1) L = true then
    if pa_in (z3 + 2) L = true then
    if pa_in (z3 + 3) L = true then
    ob2 (fn_X8_feed (((f 0 (z3 + 1).toNatClampNeg).toInt64 <<< ((32 : Int32).toInt64 &&& 63)) ||| ((f 0 (z3 + 2).toNatClampNeg).toInt64 &&& 4294967295)) (f 0 (z3 + 3).toNatClampNeg) f) fun r67 f68 =>
    if pa_in (z3 + 1) L = true then
    if pa_in (z3 + 2) L = true then
    if pa_in (z3 + 3) L = true then
    ob2 (fn_X9_feed (((f68 0 (z3 + 1).toNatClampNeg).toInt64 <<< ((32 : Int32).toInt64 &&& 63)) ||| ((f68 0 (z3 + 2).toNatClampNeg).toInt64 &&& 4294967295)) (f68 0 (z3 + 3).toNatClampNeg) f68) fun r73 f74 =>
    if r67 = r73 then
    pn (z3 + 7) fun x77 =>
    lp_law L n x77 f74
    else
    some (.inl (0, f74))
    else none
    else none
    else none
    else none
    else none
    else none
    else
    if ((f 0 z3.toNatClampNeg) &&& 31) = 5 then
    ob2 (fn_X8_laws f) fun r79 f80 =>
    ob2 (fn_X9_laws f80) fun r82 f83 =>
    if r79 = r82 then
    pn (z3 + 7) fun x86 =>
    lp_law L n x86 f83
    else
    some (.inl (0, f83))
    else
    if ((f 0 z3.toNatClampNeg) &&& 31) = 6 then
    ob2 (fn_X9_fault f) fun r88 f89 =>
    if (fn_X8_fault f) = r88 then
    pn (z3 + 7) fun x92 =>
    lp_law L n x92 f89
    else
    some (.inl (0, f89))
    else
    if ((f 0 z3.toNatClampNeg) &&& 31) = 7 then
    if pa_in (z3 + 1) L = true then
    ob1 (fn_X8_editions (f 0 (z3 + 1).toNatClampNeg) f) fun r95 =>
    if pa_in (z3 + 1) L = true then
    ob2 (fn_X9_editions (f 0 (z3 + 1).toNatClampNeg) f) fun r98 f99 =>
    if r95 = r98 then
    pn (z3 + 7) fun x102 =>
    lp_law L n x102 f99
    else
    some (.inl (0, f99))
    else none
    else none
    else
    if ((f 0 z3.toNatClampNeg) &&& 31) = 8 then
    if pa_in (z3 + 1) L = true then
    if pa_in (z3 + 2) L = true then
    if pa_in (z3 + 3) L = true then
    if pa_in (z3 + 4) L = true then
    if pa_in (z3 + 5) L = true then
    ob1 (fn_X8_answer (f 0 (z3 + 1).toNatClampNeg) (f 0 (z3 + 2).toNatClampNeg) (f 0 (z3 + 3).toNatClampNeg) (f 0 (z3 + 4).toNatClampNeg) (f 0 (z3 + 5).toNatClampNeg) f) fun r109 =>
    if pa_in (z3 + 1) L = true then
    if pa_in (z3 + 2) L = true then
    if pa_in (z3 + 3) L = true then
    if pa_in (z3 + 4) L = true then
    if pa_in (z3 + 5) L = true then
    ob2 (fn_X9_answer (f 0 (z3 + 1).toNatClampNeg) (f 0 (z3 + 2).toNatClampNeg) (f 0 (z3 + 3).toNatClampNeg) (f 0 (z3 + 4).toNatClampNeg) (f 0 (z3 + 5).toNatClampNeg) f) fun r116 f117 =>
    if r109 = r116 then
    pn (z3 + 7) fun x120 =>
    lp_law L n x120 f117
    else
    some (.inl (0, f117))
    else none
    else none
    else none
    else none
    else none
    else none
    else none
    else none
    else none
    else none
    else
    if ((f 0 z3.toNatClampNeg) &&& 31) = 9 then
    if pa_in (z3 + 1) L = true then
    if pa_in (z3 + 2) L = true then
    ob1 (fn_X8_saying (f 0 (z3 + 1).toNatClampNeg) (f 0 (z3 + 2).toNatClampNeg) f) fun r124 =>
    if pa_in (z3 + 1) L = true then
    if pa_in (z3 + 2) L = true then
    ob2 (fn_X9_saying (f 0 (z3 + 1).toNatClampNeg) (f 0 (z3 + 2).toNatClampNeg) f) fun r128 f129 =>
    if r124 = r128 then
    pn (z3 + 7) fun x132 =>
    lp_law L n x132 f129
    else
    some (.inl (0, f129))
    else none
    else none
    else none
    else none
    else
    if ((f 0 z3.toNatClampNeg) &&& 31) = 10 then
    if pa_in (z3 + 1) L = true then
    if pa_in (z3 + 2) L = true then
    if pa_in (z3 + 3) L = true then
    ob1 (fn_X8_play (f 0 (z3 + 1).toNatClampNeg) (f 0 (z3 + 2).toNatClampNeg) (f 0 (z3 + 3).toNatClampNeg) f) fun r137 =>
    if pa_in (z3 + 1) L = true then
    if pa_in (z3 + 2) L = true then
    if pa_in (z3 + 3) L = true then
    ob2 (fn_X9_play (f 0 (z3 + 1).toNatClampNeg) (f 0 (z3 + 2).toNatClampNeg) (f 0 (z3 + 3).toNatClampNeg) f) fun r142 f143 =>
    if r137 = r142 then
    pn (z3 + 7) fun x146 =>
    lp_law L n x146 f143
    else
    some (.inl (0, f143))
    else none
    else none
    else none
    else none
    else none
    else none
    else
    if ((f 0 z3.toNatClampNeg) &&& 31) = 11 then
    if pa_in (z3 + 1) L = true then
    if pa_in (z3 + 2) L = true then
    if pa_in (z3 + 3) L = true then
    if pa_in (z3 + 4) L = true then
    if pa_in (z3 + 5) L = true then
    if pa_in (z3 + 6) L = true then
    ob1 (fn_X8_standIn (f 0 (z3 + 1).toNatClampNeg) (f 0 (z3 + 2).toNatClampNeg) (f 0 (z3 + 3).toNatClampNeg) (f 0 (z3 + 4).toNatClampNeg) (f 0 (z3 + 5).toNatClampNeg) (f 0 (z3 + 6).toNatClampNeg) f) fun r154 =>
    if pa_in (z3 + 1) L = true then
    if pa_in (z3 + 2) L = true then
    if pa_in (z3 + 3) L = true then
    if pa_in (z3 + 4) L = true then
    if pa_in (z3 + 5) L = true then
    if pa_in (z3 + 6) L = true then
    ob2 (fn_X9_standIn (f 0 (z3 + 1).toNatClampNeg) (f 0 (z3 + 2).toNatClampNeg) (f 0 (z3 + 3).toNatClampNeg) (f 0 (z3 + 4).toNatClampNeg) (f 0 (z3 + 5).toNatClampNeg) (f 0 (z3 + 6).toNatClampNeg) f) fun r162 f163 =>
    if r154 = r162 then
    pn (z3 + 7) fun x166 =>
    lp_law L n x166 f163
    else
    some (.inl (0, f163))
    else none
    else none
    else none
    else none
    else none
    else none
    else none
    else none
    else none
    else none
    else none
    else none
    else
    if ((f 0 z3.toNatClampNeg) &&& 31) = 12 then
    if pa_in (z3 + 1) L = true then
    if pa_in (z3 + 2) L = true then
    if pa_in (z3 + 3) L = true then
    if pa_in (z3 + 4) L = true then
    ob2 (fn_X8_allows (f 0 (z3 + 1).toNatClampNeg) (f 0 (z3 + 2).toNatClampNeg) (f 0 (z3 + 3).toNatClampNeg) (f 0 (z3 + 4).toNatClampNeg) f) fun r172 f173 =>
    if pa_in (z3 + 1) L = true then
    if pa_in (z3 + 2) L = true then
    if pa_in (z3 + 3) L = true then
    if pa_in (z3 + 4) L = true then
    ob2 (fn_X9_allows (f173 0 (z3 + 1).toNatClampNeg) (f173 0 (z3 + 2).toNatClampNeg) (f173 0 (z3 + 3).toNatClampNeg) (f173 0 (z3 + 4).toNatClampNeg) f173) fun r179 f180 =>
    if r172 = r179 then
    pn (z3 + 7) fun x183 =>
    lp_law L n x183 f180
    else
    some (.inl (0, f180))
    else none
    else none
    else none
    else none
    else none
    else none
    else none
    else none
    else
    if ((f 0 z3.toNatClampNeg) &&& 31) = 13 then
    if pa_in (z3 + 1) L = true then
    if pa_in (z3 + 2) L = true then
    ob1 (fn_X8_noMore (f 0 (z3 + 1).toNatClampNeg) (f 0 (z3 + 2).toNatClampNeg) f) fun r187 =>
    if pa_in (z3 + 1) L = true then
    if pa_in (z3 + 2) L = true then
    ob2 (fn_X9_noMore (f 0 (z3 + 1).toNatClampNeg) (f 0 (z3 + 2).toNatClampNeg) f) fun r191 f192 =>
    if r187 = r191 then
    pn (z3 + 7) fun x195 =>
    lp_law L n x195 f192
    else
    some (.inl (0, f192))
    else none
    else none
    else none
    else none
    else
    if ((f 0 z3.toNatClampNeg) &&& 31) = 14 then
    if pa_in (z3 + 1) L = true then
    ob1 (fn_X8_quarrel (f 0 (z3 + 1).toNatClampNeg) f) fun r198 =>
    if pa_in (z3 + 1) L = true then
    ob2 (fn_X9_quarrel (f 0 (z3 + 1).toNatClampNeg) f) fun r201 f202 =>
    if r198 = r201 then
    pn (z3 + 7) fun x205 =>
    lp_law L n x205 f202
    else
    some (.inl (0, f202))
    else none
    else none
    else
    if ((f 0 z3.toNatClampNeg) &&& 31) = 15 then
    if pa_in (z3 + 1) L = true then
    if pa_in (z3 + 2) L = true then
    if pa_in (z3 + 3) L = true then
    ob1 (fn_X8_change (f 0 (z3 + 1).toNatClampNeg) (f 0 (z3 + 2).toNatClampNeg) (f 0 (z3 + 3).toNatClampNeg) f) fun r210 =>
    if pa_in (z3 + 1) L = true then
    if pa_in (z3 + 2) L = true then
    if pa_in (z3 + 3) L = true then
    ob2 (fn_X9_change (f 0 (z3 + 1).toNatClampNeg) (f 0 (z3 + 2).toNatClampNeg) (f 0 (z3 + 3).toNatClampNeg) f) fun r215 f216 =>
    if r210 = r215 then
    pn (z3 + 7) fun x219 =>
    lp_law L n x219 f216
    else
    some (.inl (0, f216))
    else none
    else none
    else none
    else none
    else none
    else none
    else
    if ((f 0 z3.toNatClampNeg) &&& 31) = 16 then
    if pa_in (z3 + 1) L = true then
    ob1 (fn_X8_right (f 0 (z3 + 1).toNatClampNeg) f) fun r222 =>
    if pa_in (z3 + 1) L = true then
    ob2 (fn_X9_right (f 0 (z3 + 1).toNatClampNeg) f) fun r225 f226 =>
    if r222 = r225 then
    pn (z3 + 7) fun x229 =>
    lp_law L n x229 f226
    else
    some (.inl (0, f226))
    else none
    else none
    else
    if ((f 0 z3.toNatClampNeg) &&& 31) = 17 then
    if pa_in (z3 + 1) L = true then
    if pa_in (z3 + 2) L = true then
    ob1 (fn_X8_house (f 0 (z3 + 1).toNatClampNeg) (f 0 (z3 + 2).toNatClampNeg) f) fun r233 =>
    if pa_in (z3 + 1) L = true then
    if pa_in (z3 + 2) L = true then
    ob2 (fn_X9_house (f 0 (z3 + 1).toNatClampNeg) (f 0 (z3 + 2).toNatClampNeg) f) fun r237 f238 =>
    if r233 = r237 then
    pn (z3 + 7) fun x241 =>
    lp_law L n x241 f238
    else
    some (.inl (0, f238))
    else none
    else none
    else none
    else none
    else
    if ((f 0 z3.toNatClampNeg) &&& 31) = 18 then
    if pa_in (z3 + 1) L = true then
    if pa_in (z3 + 2) L = true then
    if pa_in (z3 + 3) L = true then
    ob2 (fn_X8_letOut (f 0 (z3 + 1).toNatClampNeg) (f 0 (z3 + 2).toNatClampNeg) (f 0 (z3 + 3).toNatClampNeg) f) fun r246 f247 =>
    if pa_in (z3 + 1) L = true then
    if pa_in (z3 + 2) L = true then
    if pa_in (z3 + 3) L = true then
    ob2 (fn_X9_letOut (f247 0 (z3 + 1).toNatClampNeg) (f247 0 (z3 + 2).toNatClampNeg) (f247 0 (z3 + 3).toNatClampNeg) f247) fun r252 f253 =>
    if r246 = r252 then
    pn (z3 + 7) fun x256 =>
    lp_law L n x256 f253
    else
    some (.inl (0, f253))
    else none
    else none
    else none
    else none
    else none
    else none
    else
    if ((f 0 z3.toNatClampNeg) &&& 31) = 19 then
    if pa_in (z3 + 1) L = true then
    ob1 (fn_X8_hours (f 0 (z3 + 1).toNatClampNeg) f) fun r259 =>
    if pa_in (z3 + 1) L = true then
    ob2 (fn_X9_hours (f 0 (z3 + 1).toNatClampNeg) f) fun r262 f263 =>
    if r259 = r262 then
    pn (z3 + 7) fun x266 =>
    lp_law L n x266 f263
    else
    some (.inl (0, f263))
    else none
    else none
    else
    if ((f 0 z3.toNatClampNeg) &&& 31) = 20 then
    if pa_in (z3 + 1) L = true then
    ob1 (fn_X8_kind (f 0 (z3 + 1).toNatClampNeg) f) fun r269 =>
    if pa_in (z3 + 1) L = true then
    ob2 (fn_X9_kind (f 0 (z3 + 1).toNatClampNeg) f) fun r272 f273 =>
    if r269 = r272 then
    pn (z3 + 7) fun x276 =>
    lp_law L n x276 f273
    else
    some (.inl (0, f273))
    else none
    else none
    else
    if ((f 0 z3.toNatClampNeg) &&& 31) = 21 then
    if pa_in (z3 + 1) L = true then
    if pa_in (z3 + 2) L = true then
    ob2 (fn_X8_as (f 0 (z3 + 1).toNatClampNeg) (f 0 (z3 + 2).toNatClampNeg) f) fun r280 f281 =>
    if pa_in (z3 + 1) L = true then
    if pa_in (z3 + 2) L = true then
    ob2 (fn_X9_as (f281 0 (z3 + 1).toNatClampNeg) (f281 0 (z3 + 2).toNatClampNeg) f281) fun r285 f286 =>
    if r280 = r285 then
    pn (z3 + 7) fun x289 =>
    lp_law L n x289 f286
    else
    some (.inl (0, f286))
    else none
    else none
    else none
    else none
    else
    if ((f 0 z3.toNatClampNeg) &&& 31) = 22 then
    if pa_in (z3 + 1) L = true then
    if pa_in (z3 + 2) L = true then
    ob2 (fn_X8_ask (f 0 (z3 + 1).toNatClampNeg) (f 0 (z3 + 2).toNatClampNeg) f) fun r293 f294 =>
    if pa_in (z3 + 1) L = true then
    if pa_in (z3 + 2) L = true then
    ob2 (fn_X9_ask (f294 0 (z3 + 1).toNatClampNeg) (f294 0 (z3 + 2).toNatClampNeg) f294) fun r298 f299 =>
    if r293 = r298 then
    pn (z3 + 7) fun x302 =>
    lp_law L n x302 f299
    else
    some (.inl (0, f299))
    else none
    else none
    else none
    else none
    else
    if ((f 0 z3.toNatClampNeg) &&& 31) = 23 then
    if pa_in (z3 + 1) L = true then
    ob1 (fn_X8_trace (f 0 (z3 + 1).toNatClampNeg) f) fun r305 =>
    if pa_in (z3 + 1) L = true then
    ob2 (fn_X9_trace (f 0 (z3 + 1).toNatClampNeg) f) fun r308 f309 =>
    if r305 = r308 then
    pn (z3 + 7) fun x312 =>
    lp_law L n x312 f309
    else
    some (.inl (0, f309))
    else none
    else none
    else
    if ((f 0 z3.toNatClampNeg) &&& 31) = 24 then
    if pa_in (z3 + 1) L = true then
    ob1 (fn_X8_count (f 0 (z3 + 1).toNatClampNeg) f) fun r315 =>
    if pa_in (z3 + 1) L = true then
    ob2 (fn_X9_count (f 0 (z3 + 1).toNatClampNeg) f) fun r318 f319 =>
    if r315 = r318 then
    pn (z3 + 7) fun x322 =>
    lp_law L n x322 f319
    else
    some (.inl (0, f319))
    else none
    else none
    else
    if ((f 0 z3.toNatClampNeg) &&& 31) = 25 then
    ob2 (fn_X9_status f) fun r324 f325 =>
    if (fn_X8_status f) = r324 then
    pn (z3 + 7) fun x328 =>
    lp_law L n x328 f325
    else
    some (.inl (0, f325))
    else
    pn (z3 + 7) fun x329 =>
    lp_law L n x329 f
    else none
set_option maxRecDepth 100000 in
set_option maxHeartbeats 4000000 in
theorem tl_law (L : Nat) : ∀ (n : Nat) (z3 : Int32) (f : pd_M) (o : (Int32 × pd_M) ⊕ (pd_M)), lp_law L n z3 f = some o → (∀ q, o = .inl q → pr_G L 10 mt_L_law (18, [(0, .ref 0), (1, .ref 17), (2, .ref 110), (3, .int z3)], [], hH f) (some (.int q.1)) (hH q.2)) ∧ (∀ (w0 : pd_M), o = .inr (w0) → ∀ (r : Option Value) (h2 : ph_T), pr_G L 10 mt_L_law (1078, [], [], hH w0) r h2 → pr_G L 10 mt_L_law (18, [(0, .ref 0), (1, .ref 17), (2, .ref 110), (3, .int z3)], [], hH f) r h2) := by
  intro n
  induction n with
  | zero => intro z3 f o e; cases e
  | succ n ih =>
    intro z3 f o e
    refine ⟨fun q hq => ?_, fun w0 hq r h2 K => ?_⟩
    · subst hq
      unfold lp_law at e
      refine gs_iload_n rfl rfl ?_
      refine gs_aload_n rfl rfl ?_
      refine gs_alen rfl (gd_len (x := (Int32.ofNat L)) rfl rfl (by rfl)) ?_
      refine gs_bipush (x := 7) rfl (by decide) ?_
      refine gs_isub rfl ?_
      refine gs_gt2 rfl (fun c1 => ?_) (fun c1 => ?_)
      · rw [if_pos c1] at e
        cases e
      · rw [if_neg c1] at e
        refine gs_aload_n rfl rfl ?_
        refine gs_iload_n rfl rfl ?_
        by_cases hb2 : pa_in z3 L = true
        case neg => rw [if_neg hb2] at e; cases e
        rw [if_pos hb2] at e
        refine gs_iald rfl (gd_ia (j := z3.toNatClampNeg) rfl hb2 rfl) ?_
        refine gs_bipush (x := 31) rfl (by decide) ?_
        refine gs_iand rfl ?_
        by_cases c3 : ((f 0 z3.toNatClampNeg) &&& 31) = 0
        · rw [if_pos c3] at e
          refine gs_switch (t := 152) rfl (by rw [c3]; decide) ?_
          refine gs_aload_n rfl rfl ?_
          refine gs_aload_n rfl rfl ?_
          refine gs_iload_n rfl rfl ?_
          refine gs_iconst (x := 1) rfl (by decide) ?_
          refine gs_iadd rfl ?_
          by_cases hb4 : pa_in (z3 + 1) L = true
          case neg => rw [if_neg hb4] at e; cases e
          rw [if_pos hb4] at e
          refine gs_iald rfl (gd_ia (j := (z3 + 1).toNatClampNeg) rfl hb4 rfl) ?_
          refine gs_aload_n rfl rfl ?_
          refine gs_iload_n rfl rfl ?_
          refine gs_iconst (x := 2) rfl (by decide) ?_
          refine gs_iadd rfl ?_
          by_cases hb5 : pa_in (z3 + 2) L = true
          case neg => rw [if_neg hb5] at e; cases e
          rw [if_pos hb5] at e
          refine gs_iald rfl (gd_ia (j := (z3 + 2).toNatClampNeg) rfl hb5 rfl) ?_
          refine gs_aload_n rfl rfl ?_
          refine gs_iload_n rfl rfl ?_
          refine gs_iconst (x := 3) rfl (by decide) ?_
          refine gs_iadd rfl ?_
          by_cases hb6 : pa_in (z3 + 3) L = true
          case neg => rw [if_neg hb6] at e; cases e
          rw [if_pos hb6] at e
          refine gs_iald rfl (gd_ia (j := (z3 + 3).toNatClampNeg) rfl hb6 rfl) ?_
          obtain ⟨r7, f8, ec9, e⟩ := ob2_some e
          refine gs_callvI (st := []) rfl (pr_C_le (by decide) (th_X8_sheet L (f 0 (z3 + 1).toNatClampNeg) (f 0 (z3 + 2).toNatClampNeg) (f 0 (z3 + 3).toNatClampNeg) f r7 f8 ec9)) rfl rfl rfl (by decide) rfl (Or.inr (by decide)) ?_
          refine gs_aload_n rfl rfl ?_
          refine gs_aload_n rfl rfl ?_
          refine gs_iload_n rfl rfl ?_
          refine gs_iconst (x := 1) rfl (by decide) ?_
          refine gs_iadd rfl ?_
          by_cases hb10 : pa_in (z3 + 1) L = true
          case neg => rw [if_neg hb10] at e; cases e
          rw [if_pos hb10] at e
          refine gs_iald rfl (gd_ia (j := (z3 + 1).toNatClampNeg) rfl hb10 rfl) ?_
          refine gs_aload_n rfl rfl ?_
          refine gs_iload_n rfl rfl ?_
          refine gs_iconst (x := 2) rfl (by decide) ?_
          refine gs_iadd rfl ?_
          by_cases hb11 : pa_in (z3 + 2) L = true
          case neg => rw [if_neg hb11] at e; cases e
          rw [if_pos hb11] at e
          refine gs_iald rfl (gd_ia (j := (z3 + 2).toNatClampNeg) rfl hb11 rfl) ?_
          refine gs_aload_n rfl rfl ?_
          refine gs_iload_n rfl rfl ?_
          refine gs_iconst (x := 3) rfl (by decide) ?_
          refine gs_iadd rfl ?_
          by_cases hb12 : pa_in (z3 + 3) L = true
          case neg => rw [if_neg hb12] at e; cases e
          rw [if_pos hb12] at e
          refine gs_iald rfl (gd_ia (j := (z3 + 3).toNatClampNeg) rfl hb12 rfl) ?_
          obtain ⟨r13, f14, ec15, e⟩ := ob2_some e
          refine gs_callvI (st := [.int r7]) rfl (pr_C_le (by decide) (th_X9_sheet L (f8 0 (z3 + 1).toNatClampNeg) (f8 0 (z3 + 2).toNatClampNeg) (f8 0 (z3 + 3).toNatClampNeg) f8 r13 f14 ec15)) rfl rfl rfl (by decide) rfl (Or.inr (by decide)) ?_
          refine gs_eq2 rfl (fun c16 => ?_) (fun c16 => ?_)
          · rw [if_pos c16] at e
            obtain ⟨x17, hx17, e⟩ := pn_some e
            refine gs_iinc1 (x1 := x17) (c := 7) (lv' := [(3, .int x17), (0, .ref 0), (1, .ref 17), (2, .ref 110)]) rfl rfl (by decide) hx17 rfl ?_
            refine gs_goto rfl ?_
            refine gs_drop [1, 2, 3, 0] rfl ?_
            exact (ih x17 f14 _ e).1 _ rfl
          · rw [if_neg c16] at e
            refine gs_iconst (x := 0) rfl (by decide) ?_
            obtain rfl := injl e
            exact gs_iret rfl rfl (by decide) rfl rfl
        · rw [if_neg c3] at e
          by_cases c18 : ((f 0 z3.toNatClampNeg) &&& 31) = 1
          · rw [if_pos c18] at e
            refine gs_switch (t := 195) rfl (by rw [c18]; decide) ?_
            refine gs_aload_n rfl rfl ?_
            refine gs_aload_n rfl rfl ?_
            refine gs_iload_n rfl rfl ?_
            refine gs_iconst (x := 1) rfl (by decide) ?_
            refine gs_iadd rfl ?_
            by_cases hb19 : pa_in (z3 + 1) L = true
            case neg => rw [if_neg hb19] at e; cases e
            rw [if_pos hb19] at e
            refine gs_iald rfl (gd_ia (j := (z3 + 1).toNatClampNeg) rfl hb19 rfl) ?_
            refine gs_aload_n rfl rfl ?_
            refine gs_iload_n rfl rfl ?_
            refine gs_iconst (x := 2) rfl (by decide) ?_
            refine gs_iadd rfl ?_
            by_cases hb20 : pa_in (z3 + 2) L = true
            case neg => rw [if_neg hb20] at e; cases e
            rw [if_pos hb20] at e
            refine gs_iald rfl (gd_ia (j := (z3 + 2).toNatClampNeg) rfl hb20 rfl) ?_
            refine gs_aload_n rfl rfl ?_
            refine gs_iload_n rfl rfl ?_
            refine gs_iconst (x := 3) rfl (by decide) ?_
            refine gs_iadd rfl ?_
            by_cases hb21 : pa_in (z3 + 3) L = true
            case neg => rw [if_neg hb21] at e; cases e
            rw [if_pos hb21] at e
            refine gs_iald rfl (gd_ia (j := (z3 + 3).toNatClampNeg) rfl hb21 rfl) ?_
            obtain ⟨r22, f23, ec24, e⟩ := ob2_some e
            refine gs_callvI (st := []) rfl (pr_C_le (by decide) (th_X8_set L (f 0 (z3 + 1).toNatClampNeg) (f 0 (z3 + 2).toNatClampNeg) (f 0 (z3 + 3).toNatClampNeg) f r22 f23 ec24)) rfl rfl rfl (by decide) rfl (Or.inr (by decide)) ?_
            refine gs_aload_n rfl rfl ?_
            refine gs_aload_n rfl rfl ?_
            refine gs_iload_n rfl rfl ?_
            refine gs_iconst (x := 1) rfl (by decide) ?_
            refine gs_iadd rfl ?_
            by_cases hb25 : pa_in (z3 + 1) L = true
            case neg => rw [if_neg hb25] at e; cases e
            rw [if_pos hb25] at e
            refine gs_iald rfl (gd_ia (j := (z3 + 1).toNatClampNeg) rfl hb25 rfl) ?_
            refine gs_aload_n rfl rfl ?_
            refine gs_iload_n rfl rfl ?_
            refine gs_iconst (x := 2) rfl (by decide) ?_
            refine gs_iadd rfl ?_
            by_cases hb26 : pa_in (z3 + 2) L = true
            case neg => rw [if_neg hb26] at e; cases e
            rw [if_pos hb26] at e
            refine gs_iald rfl (gd_ia (j := (z3 + 2).toNatClampNeg) rfl hb26 rfl) ?_
            refine gs_aload_n rfl rfl ?_
            refine gs_iload_n rfl rfl ?_
            refine gs_iconst (x := 3) rfl (by decide) ?_
            refine gs_iadd rfl ?_
            by_cases hb27 : pa_in (z3 + 3) L = true
            case neg => rw [if_neg hb27] at e; cases e
            rw [if_pos hb27] at e
            refine gs_iald rfl (gd_ia (j := (z3 + 3).toNatClampNeg) rfl hb27 rfl) ?_
            obtain ⟨r28, f29, ec30, e⟩ := ob2_some e
            refine gs_callvI (st := [.int r22]) rfl (pr_C_le (by decide) (th_X9_set L (f23 0 (z3 + 1).toNatClampNeg) (f23 0 (z3 + 2).toNatClampNeg) (f23 0 (z3 + 3).toNatClampNeg) f23 r28 f29 ec30)) rfl rfl rfl (by decide) rfl (Or.inr (by decide)) ?_
            refine gs_eq2 rfl (fun c31 => ?_) (fun c31 => ?_)
            · rw [if_pos c31] at e
              obtain ⟨x32, hx32, e⟩ := pn_some e
              refine gs_iinc1 (x1 := x32) (c := 7) (lv' := [(3, .int x32), (0, .ref 0), (1, .ref 17), (2, .ref 110)]) rfl rfl (by decide) hx32 rfl ?_
              refine gs_goto rfl ?_
              refine gs_drop [1, 2, 3, 0] rfl ?_
              exact (ih x32 f29 _ e).1 _ rfl
            · rw [if_neg c31] at e
              refine gs_iconst (x := 0) rfl (by decide) ?_
              obtain rfl := injl e
              exact gs_iret rfl rfl (by decide) rfl rfl
          · rw [if_neg c18] at e
            by_cases c33 : ((f 0 z3.toNatClampNeg) &&& 31) = 2
            · rw [if_pos c33] at e
              refine gs_switch (t := 238) rfl (by rw [c33]; decide) ?_
              refine gs_aload_n rfl rfl ?_
              refine gs_aload_n rfl rfl ?_
              refine gs_iload_n rfl rfl ?_
              refine gs_iconst (x := 1) rfl (by decide) ?_
              refine gs_iadd rfl ?_
              by_cases hb34 : pa_in (z3 + 1) L = true
              case neg => rw [if_neg hb34] at e; cases e
              rw [if_pos hb34] at e
              refine gs_iald rfl (gd_ia (j := (z3 + 1).toNatClampNeg) rfl hb34 rfl) ?_
              refine gs_aload_n rfl rfl ?_
              refine gs_iload_n rfl rfl ?_
              refine gs_iconst (x := 2) rfl (by decide) ?_
              refine gs_iadd rfl ?_
              by_cases hb35 : pa_in (z3 + 2) L = true
              case neg => rw [if_neg hb35] at e; cases e
              rw [if_pos hb35] at e
              refine gs_iald rfl (gd_ia (j := (z3 + 2).toNatClampNeg) rfl hb35 rfl) ?_
              refine gs_aload_n rfl rfl ?_
              refine gs_iload_n rfl rfl ?_
              refine gs_iconst (x := 3) rfl (by decide) ?_
              refine gs_iadd rfl ?_
              by_cases hb36 : pa_in (z3 + 3) L = true
              case neg => rw [if_neg hb36] at e; cases e
              rw [if_pos hb36] at e
              refine gs_iald rfl (gd_ia (j := (z3 + 3).toNatClampNeg) rfl hb36 rfl) ?_
              refine gs_aload_n rfl rfl ?_
              refine gs_iload_n rfl rfl ?_
              refine gs_iconst (x := 4) rfl (by decide) ?_
              refine gs_iadd rfl ?_
              by_cases hb37 : pa_in (z3 + 4) L = true
              case neg => rw [if_neg hb37] at e; cases e
              rw [if_pos hb37] at e
              refine gs_iald rfl (gd_ia (j := (z3 + 4).toNatClampNeg) rfl hb37 rfl) ?_
              refine gs_aload_n rfl rfl ?_
              refine gs_iload_n rfl rfl ?_
              refine gs_iconst (x := 5) rfl (by decide) ?_
              refine gs_iadd rfl ?_
              by_cases hb38 : pa_in (z3 + 5) L = true
              case neg => rw [if_neg hb38] at e; cases e
              rw [if_pos hb38] at e
              refine gs_iald rfl (gd_ia (j := (z3 + 5).toNatClampNeg) rfl hb38 rfl) ?_
              obtain ⟨r39, f40, ec41, e⟩ := ob2_some e
              refine gs_callvI (st := []) rfl (pr_C_le (by decide) (th_X8_copy L (f 0 (z3 + 1).toNatClampNeg) (f 0 (z3 + 2).toNatClampNeg) (f 0 (z3 + 3).toNatClampNeg) (f 0 (z3 + 4).toNatClampNeg) (f 0 (z3 + 5).toNatClampNeg) f r39 f40 ec41)) rfl rfl rfl (by decide) rfl (Or.inr (by decide)) ?_
              refine gs_aload_n rfl rfl ?_
              refine gs_aload_n rfl rfl ?_
              refine gs_iload_n rfl rfl ?_
              refine gs_iconst (x := 1) rfl (by decide) ?_
              refine gs_iadd rfl ?_
              by_cases hb42 : pa_in (z3 + 1) L = true
              case neg => rw [if_neg hb42] at e; cases e
              rw [if_pos hb42] at e
              refine gs_iald rfl (gd_ia (j := (z3 + 1).toNatClampNeg) rfl hb42 rfl) ?_
              refine gs_aload_n rfl rfl ?_
              refine gs_iload_n rfl rfl ?_
              refine gs_iconst (x := 2) rfl (by decide) ?_
              refine gs_iadd rfl ?_
              by_cases hb43 : pa_in (z3 + 2) L = true
              case neg => rw [if_neg hb43] at e; cases e
              rw [if_pos hb43] at e
              refine gs_iald rfl (gd_ia (j := (z3 + 2).toNatClampNeg) rfl hb43 rfl) ?_
              refine gs_aload_n rfl rfl ?_
              refine gs_iload_n rfl rfl ?_
              refine gs_iconst (x := 3) rfl (by decide) ?_
              refine gs_iadd rfl ?_
              by_cases hb44 : pa_in (z3 + 3) L = true
              case neg => rw [if_neg hb44] at e; cases e
              rw [if_pos hb44] at e
              refine gs_iald rfl (gd_ia (j := (z3 + 3).toNatClampNeg) rfl hb44 rfl) ?_
              refine gs_aload_n rfl rfl ?_
              refine gs_iload_n rfl rfl ?_
              refine gs_iconst (x := 4) rfl (by decide) ?_
              refine gs_iadd rfl ?_
              by_cases hb45 : pa_in (z3 + 4) L = true
              case neg => rw [if_neg hb45] at e; cases e
              rw [if_pos hb45] at e
              refine gs_iald rfl (gd_ia (j := (z3 + 4).toNatClampNeg) rfl hb45 rfl) ?_
              refine gs_aload_n rfl rfl ?_
              refine gs_iload_n rfl rfl ?_
              refine gs_iconst (x := 5) rfl (by decide) ?_
              refine gs_iadd rfl ?_
              by_cases hb46 : pa_in (z3 + 5) L = true
              case neg => rw [if_neg hb46] at e; cases e
              rw [if_pos hb46] at e
              refine gs_iald rfl (gd_ia (j := (z3 + 5).toNatClampNeg) rfl hb46 rfl) ?_
              obtain ⟨r47, f48, ec49, e⟩ := ob2_some e
              refine gs_callvI (st := [.int r39]) rfl (pr_C_le (by decide) (th_X9_copy L (f40 0 (z3 + 1).toNatClampNeg) (f40 0 (z3 + 2).toNatClampNeg) (f40 0 (z3 + 3).toNatClampNeg) (f40 0 (z3 + 4).toNatClampNeg) (f40 0 (z3 + 5).toNatClampNeg) f40 r47 f48 ec49)) rfl rfl rfl (by decide) rfl (Or.inr (by decide)) ?_
              refine gs_eq2 rfl (fun c50 => ?_) (fun c50 => ?_)
              · rw [if_pos c50] at e
                obtain ⟨x51, hx51, e⟩ := pn_some e
                refine gs_iinc1 (x1 := x51) (c := 7) (lv' := [(3, .int x51), (0, .ref 0), (1, .ref 17), (2, .ref 110)]) rfl rfl (by decide) hx51 rfl ?_
                refine gs_goto rfl ?_
                refine gs_drop [1, 2, 3, 0] rfl ?_
                exact (ih x51 f48 _ e).1 _ rfl
              · rw [if_neg c50] at e
                refine gs_iconst (x := 0) rfl (by decide) ?_
                obtain rfl := injl e
                exact gs_iret rfl rfl (by decide) rfl rfl
            · rw [if_neg c33] at e
              by_cases c52 : ((f 0 z3.toNatClampNeg) &&& 31) = 3
              · rw [if_pos c52] at e
                refine gs_switch (t := 301) rfl (by rw [c52]; decide) ?_
                refine gs_aload_n rfl rfl ?_
                refine gs_aload_n rfl rfl ?_
                refine gs_iload_n rfl rfl ?_
                refine gs_iconst (x := 1) rfl (by decide) ?_
                refine gs_iadd rfl ?_
                by_cases hb53 : pa_in (z3 + 1) L = true
                case neg => rw [if_neg hb53] at e; cases e
                rw [if_pos hb53] at e
                refine gs_iald rfl (gd_ia (j := (z3 + 1).toNatClampNeg) rfl hb53 rfl) ?_
                obtain ⟨r54, f55, ec56, e⟩ := ob2_some e
                refine gs_callvI (st := []) rfl (pr_C_le (by decide) (th_X8_drop L (f 0 (z3 + 1).toNatClampNeg) f r54 f55 ec56)) rfl rfl rfl (by decide) rfl (Or.inr (by decide)) ?_
                refine gs_aload_n rfl rfl ?_
                refine gs_aload_n rfl rfl ?_
                refine gs_iload_n rfl rfl ?_
                refine gs_iconst (x := 1) rfl (by decide) ?_
                refine gs_iadd rfl ?_
                by_cases hb57 : pa_in (z3 + 1) L = true
                case neg => rw [if_neg hb57] at e; cases e
                rw [if_pos hb57] at e
                refine gs_iald rfl (gd_ia (j := (z3 + 1).toNatClampNeg) rfl hb57 rfl) ?_
                obtain ⟨r58, f59, ec60, e⟩ := ob2_some e
                refine gs_callvI (st := [.int r54]) rfl (pr_C_le (by decide) (th_X9_drop L (f55 0 (z3 + 1).toNatClampNeg) f55 r58 f59 ec60)) rfl rfl rfl (by decide) rfl (Or.inr (by decide)) ?_
                refine gs_eq2 rfl (fun c61 => ?_) (fun c61 => ?_)
                · rw [if_pos c61] at e
                  obtain ⟨x62, hx62, e⟩ := pn_some e
                  refine gs_iinc1 (x1 := x62) (c := 7) (lv' := [(3, .int x62), (0, .ref 0), (1, .ref 17), (2, .ref 110)]) rfl rfl (by decide) hx62 rfl ?_
                  refine gs_goto rfl ?_
                  refine gs_drop [1, 2, 3, 0] rfl ?_
                  exact (ih x62 f59 _ e).1 _ rfl
                · rw [if_neg c61] at e
                  refine gs_iconst (x := 0) rfl (by decide) ?_
                  obtain rfl := injl e
                  exact gs_iret rfl rfl (by decide) rfl rfl
              · rw [if_neg c52] at e
                by_cases c63 : ((f 0 z3.toNatClampNeg) &&& 31) = 4
                · rw [if_pos c63] at e
                  refine gs_switch (t := 324) rfl (by rw [c63]; decide) ?_
                  refine gs_aload_n rfl rfl ?_
                  refine gs_aload_n rfl rfl ?_
                  refine gs_iload_n rfl rfl ?_
                  refine gs_iconst (x := 1) rfl (by decide) ?_
                  refine gs_iadd rfl ?_
                  by_cases hb64 : pa_in (z3 + 1) L = true
                  case neg => rw [if_neg hb64] at e; cases e
                  rw [if_pos hb64] at e
                  refine gs_iald rfl (gd_ia (j := (z3 + 1).toNatClampNeg) rfl hb64 rfl) ?_
                  refine gs_i2l rfl ?_
                  refine gs_bipush (x := 32) rfl (by decide) ?_
                  refine gs_lshl rfl ?_
                  refine gs_aload_n rfl rfl ?_
                  refine gs_iload_n rfl rfl ?_
                  refine gs_iconst (x := 2) rfl (by decide) ?_
                  refine gs_iadd rfl ?_
                  by_cases hb65 : pa_in (z3 + 2) L = true
                  case neg => rw [if_neg hb65] at e; cases e
                  rw [if_pos hb65] at e
                  refine gs_iald rfl (gd_ia (j := (z3 + 2).toNatClampNeg) rfl hb65 rfl) ?_
                  refine gs_i2l rfl ?_
                  refine gs_ldc2 (w := 4294967295) rfl (by decide) ?_
                  refine gs_land rfl ?_
                  refine gs_lor rfl ?_
                  refine gs_aload_n rfl rfl ?_
                  refine gs_iload_n rfl rfl ?_
                  refine gs_iconst (x := 3) rfl (by decide) ?_
                  refine gs_iadd rfl ?_
                  by_cases hb66 : pa_in (z3 + 3) L = true
                  case neg => rw [if_neg hb66] at e; cases e
                  rw [if_pos hb66] at e
                  refine gs_iald rfl (gd_ia (j := (z3 + 3).toNatClampNeg) rfl hb66 rfl) ?_
                  obtain ⟨r67, f68, ec69, e⟩ := ob2_some e
                  refine gs_callvI (st := []) rfl (pr_C_le (by decide) (th_X8_feed L (((f 0 (z3 + 1).toNatClampNeg).toInt64 <<< ((32 : Int32).toInt64 &&& 63)) ||| ((f 0 (z3 + 2).toNatClampNeg).toInt64 &&& 4294967295)) (f 0 (z3 + 3).toNatClampNeg) f r67 f68 ec69)) rfl rfl rfl (by decide) rfl (Or.inr (by decide)) ?_
                  refine gs_aload_n rfl rfl ?_
                  refine gs_aload_n rfl rfl ?_
                  refine gs_iload_n rfl rfl ?_
                  refine gs_iconst (x := 1) rfl (by decide) ?_
                  refine gs_iadd rfl ?_
                  by_cases hb70 : pa_in (z3 + 1) L = true
                  case neg => rw [if_neg hb70] at e; cases e
                  rw [if_pos hb70] at e
                  refine gs_iald rfl (gd_ia (j := (z3 + 1).toNatClampNeg) rfl hb70 rfl) ?_
                  refine gs_i2l rfl ?_
                  refine gs_bipush (x := 32) rfl (by decide) ?_
                  refine gs_lshl rfl ?_
                  refine gs_aload_n rfl rfl ?_
                  refine gs_iload_n rfl rfl ?_
                  refine gs_iconst (x := 2) rfl (by decide) ?_
                  refine gs_iadd rfl ?_
                  by_cases hb71 : pa_in (z3 + 2) L = true
                  case neg => rw [if_neg hb71] at e; cases e
                  rw [if_pos hb71] at e
                  refine gs_iald rfl (gd_ia (j := (z3 + 2).toNatClampNeg) rfl hb71 rfl) ?_
                  refine gs_i2l rfl ?_
                  refine gs_ldc2 (w := 4294967295) rfl (by decide) ?_
                  refine gs_land rfl ?_
                  refine gs_lor rfl ?_
                  refine gs_aload_n rfl rfl ?_
                  refine gs_iload_n rfl rfl ?_
                  refine gs_iconst (x := 3) rfl (by decide) ?_
                  refine gs_iadd rfl ?_
                  by_cases hb72 : pa_in (z3 + 3) L = true
                  case neg => rw [if_neg hb72] at e; cases e
                  rw [if_pos hb72] at e
                  refine gs_iald rfl (gd_ia (j := (z3 + 3).toNatClampNeg) rfl hb72 rfl) ?_
                  obtain ⟨r73, f74, ec75, e⟩ := ob2_some e
                  refine gs_callvI (st := [.int r67]) rfl (pr_C_le (by decide) (th_X9_feed L (((f68 0 (z3 + 1).toNatClampNeg).toInt64 <<< ((32 : Int32).toInt64 &&& 63)) ||| ((f68 0 (z3 + 2).toNatClampNeg).toInt64 &&& 4294967295)) (f68 0 (z3 + 3).toNatClampNeg) f68 r73 f74 ec75)) rfl rfl rfl (by decide) rfl (Or.inr (by decide)) ?_
                  refine gs_eq2 rfl (fun c76 => ?_) (fun c76 => ?_)
                  · rw [if_pos c76] at e
                    obtain ⟨x77, hx77, e⟩ := pn_some e
                    refine gs_iinc1 (x1 := x77) (c := 7) (lv' := [(3, .int x77), (0, .ref 0), (1, .ref 17), (2, .ref 110)]) rfl rfl (by decide) hx77 rfl ?_
                    refine gs_goto rfl ?_
                    refine gs_drop [1, 2, 3, 0] rfl ?_
                    exact (ih x77 f74 _ e).1 _ rfl
                  · rw [if_neg c76] at e
                    refine gs_iconst (x := 0) rfl (by decide) ?_
                    obtain rfl := injl e
                    exact gs_iret rfl rfl (by decide) rfl rfl
                · rw [if_neg c63] at e
                  by_cases c78 : ((f 0 z3.toNatClampNeg) &&& 31) = 5
                  · rw [if_pos c78] at e
                    refine gs_switch (t := 387) rfl (by rw [c78]; decide) ?_
                    refine gs_aload_n rfl rfl ?_
                    obtain ⟨r79, f80, ec81, e⟩ := ob2_some e
                    refine gs_callvI (st := []) rfl (pr_C_le (by decide) (th_X8_laws L f r79 f80 ec81)) rfl rfl rfl (by decide) rfl (Or.inr (by decide)) ?_
                    refine gs_aload_n rfl rfl ?_
                    obtain ⟨r82, f83, ec84, e⟩ := ob2_some e
                    refine gs_callvI (st := [.int r79]) rfl (pr_C_le (by decide) (th_X9_laws L f80 r82 f83 ec84)) rfl rfl rfl (by decide) rfl (Or.inr (by decide)) ?_
                    refine gs_eq2 rfl (fun c85 => ?_) (fun c85 => ?_)
                    · rw [if_pos c85] at e
                      obtain ⟨x86, hx86, e⟩ := pn_some e
                      refine gs_iinc1 (x1 := x86) (c := 7) (lv' := [(3, .int x86), (0, .ref 0), (1, .ref 17), (2, .ref 110)]) rfl rfl (by decide) hx86 rfl ?_
                      refine gs_goto rfl ?_
                      refine gs_drop [1, 2, 3, 0] rfl ?_
                      exact (ih x86 f83 _ e).1 _ rfl
                    · rw [if_neg c85] at e
                      refine gs_iconst (x := 0) rfl (by decide) ?_
                      obtain rfl := injl e
                      exact gs_iret rfl rfl (by decide) rfl rfl
                  · rw [if_neg c78] at e
                    by_cases c87 : ((f 0 z3.toNatClampNeg) &&& 31) = 6
                    · rw [if_pos c87] at e
                      refine gs_switch (t := 400) rfl (by rw [c87]; decide) ?_
                      refine gs_aload_n rfl rfl ?_
                      refine gs_callvI (st := []) rfl (pr_C_le (by decide) (th_X8_fault L f _ rfl)) rfl rfl rfl (by decide) rfl (Or.inr (by decide)) ?_
                      refine gs_aload_n rfl rfl ?_
                      obtain ⟨r88, f89, ec90, e⟩ := ob2_some e
                      refine gs_callvI (st := [.int (fn_X8_fault f)]) rfl (pr_C_le (by decide) (th_X9_fault L f r88 f89 ec90)) rfl rfl rfl (by decide) rfl (Or.inr (by decide)) ?_
                      refine gs_eq2 rfl (fun c91 => ?_) (fun c91 => ?_)
                      · rw [if_pos c91] at e
                        obtain ⟨x92, hx92, e⟩ := pn_some e
                        refine gs_iinc1 (x1 := x92) (c := 7) (lv' := [(3, .int x92), (0, .ref 0), (1, .ref 17), (2, .ref 110)]) rfl rfl (by decide) hx92 rfl ?_
                        refine gs_goto rfl ?_
                        refine gs_drop [1, 2, 3, 0] rfl ?_
                        exact (ih x92 f89 _ e).1 _ rfl
                      · rw [if_neg c91] at e
                        refine gs_iconst (x := 0) rfl (by decide) ?_
                        obtain rfl := injl e
                        exact gs_iret rfl rfl (by decide) rfl rfl
                    · rw [if_neg c87] at e
                      by_cases c93 : ((f 0 z3.toNatClampNeg) &&& 31) = 7
                      · rw [if_pos c93] at e
                        refine gs_switch (t := 413) rfl (by rw [c93]; decide) ?_
                        refine gs_aload_n rfl rfl ?_
                        refine gs_aload_n rfl rfl ?_
                        refine gs_iload_n rfl rfl ?_
                        refine gs_iconst (x := 1) rfl (by decide) ?_
                        refine gs_iadd rfl ?_
                        by_cases hb94 : pa_in (z3 + 1) L = true
                        case neg => rw [if_neg hb94] at e; cases e
                        rw [if_pos hb94] at e
                        refine gs_iald rfl (gd_ia (j := (z3 + 1).toNatClampNeg) rfl hb94 rfl) ?_
                        obtain ⟨r95, ec96, e⟩ := ob1_some e
                        refine gs_callvI (st := []) rfl (pr_C_le (by decide) (th_X8_editions L (f 0 (z3 + 1).toNatClampNeg) f r95 ec96)) rfl rfl rfl (by decide) rfl (Or.inr (by decide)) ?_
                        refine gs_aload_n rfl rfl ?_
                        refine gs_aload_n rfl rfl ?_
                        refine gs_iload_n rfl rfl ?_
                        refine gs_iconst (x := 1) rfl (by decide) ?_
                        refine gs_iadd rfl ?_
                        by_cases hb97 : pa_in (z3 + 1) L = true
                        case neg => rw [if_neg hb97] at e; cases e
                        rw [if_pos hb97] at e
                        refine gs_iald rfl (gd_ia (j := (z3 + 1).toNatClampNeg) rfl hb97 rfl) ?_
                        obtain ⟨r98, f99, ec100, e⟩ := ob2_some e
                        refine gs_callvI (st := [.int r95]) rfl (pr_C_le (by decide) (th_X9_editions L (f 0 (z3 + 1).toNatClampNeg) f r98 f99 ec100)) rfl rfl rfl (by decide) rfl (Or.inr (by decide)) ?_
                        refine gs_eq2 rfl (fun c101 => ?_) (fun c101 => ?_)
                        · rw [if_pos c101] at e
                          obtain ⟨x102, hx102, e⟩ := pn_some e
                          refine gs_iinc1 (x1 := x102) (c := 7) (lv' := [(3, .int x102), (0, .ref 0), (1, .ref 17), (2, .ref 110)]) rfl rfl (by decide) hx102 rfl ?_
                          refine gs_goto rfl ?_
                          refine gs_drop [1, 2, 3, 0] rfl ?_
                          exact (ih x102 f99 _ e).1 _ rfl
                        · rw [if_neg c101] at e
                          refine gs_iconst (x := 0) rfl (by decide) ?_
                          obtain rfl := injl e
                          exact gs_iret rfl rfl (by decide) rfl rfl
                      · rw [if_neg c93] at e
                        by_cases c103 : ((f 0 z3.toNatClampNeg) &&& 31) = 8
                        · rw [if_pos c103] at e
                          refine gs_switch (t := 436) rfl (by rw [c103]; decide) ?_
                          refine gs_aload_n rfl rfl ?_
                          refine gs_aload_n rfl rfl ?_
                          refine gs_iload_n rfl rfl ?_
                          refine gs_iconst (x := 1) rfl (by decide) ?_
                          refine gs_iadd rfl ?_
                          by_cases hb104 : pa_in (z3 + 1) L = true
                          case neg => rw [if_neg hb104] at e; cases e
                          rw [if_pos hb104] at e
                          refine gs_iald rfl (gd_ia (j := (z3 + 1).toNatClampNeg) rfl hb104 rfl) ?_
                          refine gs_aload_n rfl rfl ?_
                          refine gs_iload_n rfl rfl ?_
                          refine gs_iconst (x := 2) rfl (by decide) ?_
                          refine gs_iadd rfl ?_
                          by_cases hb105 : pa_in (z3 + 2) L = true
                          case neg => rw [if_neg hb105] at e; cases e
                          rw [if_pos hb105] at e
                          refine gs_iald rfl (gd_ia (j := (z3 + 2).toNatClampNeg) rfl hb105 rfl) ?_
                          refine gs_aload_n rfl rfl ?_
                          refine gs_iload_n rfl rfl ?_
                          refine gs_iconst (x := 3) rfl (by decide) ?_
                          refine gs_iadd rfl ?_
                          by_cases hb106 : pa_in (z3 + 3) L = true
                          case neg => rw [if_neg hb106] at e; cases e
                          rw [if_pos hb106] at e
                          refine gs_iald rfl (gd_ia (j := (z3 + 3).toNatClampNeg) rfl hb106 rfl) ?_
                          refine gs_aload_n rfl rfl ?_
                          refine gs_iload_n rfl rfl ?_
                          refine gs_iconst (x := 4) rfl (by decide) ?_
                          refine gs_iadd rfl ?_
                          by_cases hb107 : pa_in (z3 + 4) L = true
                          case neg => rw [if_neg hb107] at e; cases e
                          rw [if_pos hb107] at e
                          refine gs_iald rfl (gd_ia (j := (z3 + 4).toNatClampNeg) rfl hb107 rfl) ?_
                          refine gs_aload_n rfl rfl ?_
                          refine gs_iload_n rfl rfl ?_
                          refine gs_iconst (x := 5) rfl (by decide) ?_
                          refine gs_iadd rfl ?_
                          by_cases hb108 : pa_in (z3 + 5) L = true
                          case neg => rw [if_neg hb108] at e; cases e
                          rw [if_pos hb108] at e
                          refine gs_iald rfl (gd_ia (j := (z3 + 5).toNatClampNeg) rfl hb108 rfl) ?_
                          obtain ⟨r109, ec110, e⟩ := ob1_some e
                          refine gs_callvI (st := []) rfl (pr_C_le (by decide) (th_X8_answer L (f 0 (z3 + 1).toNatClampNeg) (f 0 (z3 + 2).toNatClampNeg) (f 0 (z3 + 3).toNatClampNeg) (f 0 (z3 + 4).toNatClampNeg) (f 0 (z3 + 5).toNatClampNeg) f r109 ec110)) rfl rfl rfl (by decide) rfl (Or.inr (by decide)) ?_
                          refine gs_aload_n rfl rfl ?_
                          refine gs_aload_n rfl rfl ?_
                          refine gs_iload_n rfl rfl ?_
                          refine gs_iconst (x := 1) rfl (by decide) ?_
                          refine gs_iadd rfl ?_
                          by_cases hb111 : pa_in (z3 + 1) L = true
                          case neg => rw [if_neg hb111] at e; cases e
                          rw [if_pos hb111] at e
                          refine gs_iald rfl (gd_ia (j := (z3 + 1).toNatClampNeg) rfl hb111 rfl) ?_
                          refine gs_aload_n rfl rfl ?_
                          refine gs_iload_n rfl rfl ?_
                          refine gs_iconst (x := 2) rfl (by decide) ?_
                          refine gs_iadd rfl ?_
                          by_cases hb112 : pa_in (z3 + 2) L = true
                          case neg => rw [if_neg hb112] at e; cases e
                          rw [if_pos hb112] at e
                          refine gs_iald rfl (gd_ia (j := (z3 + 2).toNatClampNeg) rfl hb112 rfl) ?_
                          refine gs_aload_n rfl rfl ?_
                          refine gs_iload_n rfl rfl ?_
                          refine gs_iconst (x := 3) rfl (by decide) ?_
                          refine gs_iadd rfl ?_
                          by_cases hb113 : pa_in (z3 + 3) L = true
                          case neg => rw [if_neg hb113] at e; cases e
                          rw [if_pos hb113] at e
                          refine gs_iald rfl (gd_ia (j := (z3 + 3).toNatClampNeg) rfl hb113 rfl) ?_
                          refine gs_aload_n rfl rfl ?_
                          refine gs_iload_n rfl rfl ?_
                          refine gs_iconst (x := 4) rfl (by decide) ?_
                          refine gs_iadd rfl ?_
                          by_cases hb114 : pa_in (z3 + 4) L = true
                          case neg => rw [if_neg hb114] at e; cases e
                          rw [if_pos hb114] at e
                          refine gs_iald rfl (gd_ia (j := (z3 + 4).toNatClampNeg) rfl hb114 rfl) ?_
                          refine gs_aload_n rfl rfl ?_
                          refine gs_iload_n rfl rfl ?_
                          refine gs_iconst (x := 5) rfl (by decide) ?_
                          refine gs_iadd rfl ?_
                          by_cases hb115 : pa_in (z3 + 5) L = true
                          case neg => rw [if_neg hb115] at e; cases e
                          rw [if_pos hb115] at e
                          refine gs_iald rfl (gd_ia (j := (z3 + 5).toNatClampNeg) rfl hb115 rfl) ?_
                          obtain ⟨r116, f117, ec118, e⟩ := ob2_some e
                          refine gs_callvI (st := [.int r109]) rfl (pr_C_le (by decide) (th_X9_answer L (f 0 (z3 + 1).toNatClampNeg) (f 0 (z3 + 2).toNatClampNeg) (f 0 (z3 + 3).toNatClampNeg) (f 0 (z3 + 4).toNatClampNeg) (f 0 (z3 + 5).toNatClampNeg) f r116 f117 ec118)) rfl rfl rfl (by decide) rfl (Or.inr (by decide)) ?_
                          refine gs_eq2 rfl (fun c119 => ?_) (fun c119 => ?_)
                          · rw [if_pos c119] at e
                            obtain ⟨x120, hx120, e⟩ := pn_some e
                            refine gs_iinc1 (x1 := x120) (c := 7) (lv' := [(3, .int x120), (0, .ref 0), (1, .ref 17), (2, .ref 110)]) rfl rfl (by decide) hx120 rfl ?_
                            refine gs_goto rfl ?_
                            refine gs_drop [1, 2, 3, 0] rfl ?_
                            exact (ih x120 f117 _ e).1 _ rfl
                          · rw [if_neg c119] at e
                            refine gs_iconst (x := 0) rfl (by decide) ?_
                            obtain rfl := injl e
                            exact gs_iret rfl rfl (by decide) rfl rfl
                        · rw [if_neg c103] at e
                          by_cases c121 : ((f 0 z3.toNatClampNeg) &&& 31) = 9
                          · rw [if_pos c121] at e
                            refine gs_switch (t := 499) rfl (by rw [c121]; decide) ?_
                            refine gs_aload_n rfl rfl ?_
                            refine gs_aload_n rfl rfl ?_
                            refine gs_iload_n rfl rfl ?_
                            refine gs_iconst (x := 1) rfl (by decide) ?_
                            refine gs_iadd rfl ?_
                            by_cases hb122 : pa_in (z3 + 1) L = true
                            case neg => rw [if_neg hb122] at e; cases e
                            rw [if_pos hb122] at e
                            refine gs_iald rfl (gd_ia (j := (z3 + 1).toNatClampNeg) rfl hb122 rfl) ?_
                            refine gs_aload_n rfl rfl ?_
                            refine gs_iload_n rfl rfl ?_
                            refine gs_iconst (x := 2) rfl (by decide) ?_
                            refine gs_iadd rfl ?_
                            by_cases hb123 : pa_in (z3 + 2) L = true
                            case neg => rw [if_neg hb123] at e; cases e
                            rw [if_pos hb123] at e
                            refine gs_iald rfl (gd_ia (j := (z3 + 2).toNatClampNeg) rfl hb123 rfl) ?_
                            obtain ⟨r124, ec125, e⟩ := ob1_some e
                            refine gs_callvI (st := []) rfl (pr_C_le (by decide) (th_X8_saying L (f 0 (z3 + 1).toNatClampNeg) (f 0 (z3 + 2).toNatClampNeg) f r124 ec125)) rfl rfl rfl (by decide) rfl (Or.inr (by decide)) ?_
                            refine gs_aload_n rfl rfl ?_
                            refine gs_aload_n rfl rfl ?_
                            refine gs_iload_n rfl rfl ?_
                            refine gs_iconst (x := 1) rfl (by decide) ?_
                            refine gs_iadd rfl ?_
                            by_cases hb126 : pa_in (z3 + 1) L = true
                            case neg => rw [if_neg hb126] at e; cases e
                            rw [if_pos hb126] at e
                            refine gs_iald rfl (gd_ia (j := (z3 + 1).toNatClampNeg) rfl hb126 rfl) ?_
                            refine gs_aload_n rfl rfl ?_
                            refine gs_iload_n rfl rfl ?_
                            refine gs_iconst (x := 2) rfl (by decide) ?_
                            refine gs_iadd rfl ?_
                            by_cases hb127 : pa_in (z3 + 2) L = true
                            case neg => rw [if_neg hb127] at e; cases e
                            rw [if_pos hb127] at e
                            refine gs_iald rfl (gd_ia (j := (z3 + 2).toNatClampNeg) rfl hb127 rfl) ?_
                            obtain ⟨r128, f129, ec130, e⟩ := ob2_some e
                            refine gs_callvI (st := [.int r124]) rfl (pr_C_le (by decide) (th_X9_saying L (f 0 (z3 + 1).toNatClampNeg) (f 0 (z3 + 2).toNatClampNeg) f r128 f129 ec130)) rfl rfl rfl (by decide) rfl (Or.inr (by decide)) ?_
                            refine gs_eq2 rfl (fun c131 => ?_) (fun c131 => ?_)
                            · rw [if_pos c131] at e
                              obtain ⟨x132, hx132, e⟩ := pn_some e
                              refine gs_iinc1 (x1 := x132) (c := 7) (lv' := [(3, .int x132), (0, .ref 0), (1, .ref 17), (2, .ref 110)]) rfl rfl (by decide) hx132 rfl ?_
                              refine gs_goto rfl ?_
                              refine gs_drop [1, 2, 3, 0] rfl ?_
                              exact (ih x132 f129 _ e).1 _ rfl
                            · rw [if_neg c131] at e
                              refine gs_iconst (x := 0) rfl (by decide) ?_
                              obtain rfl := injl e
                              exact gs_iret rfl rfl (by decide) rfl rfl
                          · rw [if_neg c121] at e
                            by_cases c133 : ((f 0 z3.toNatClampNeg) &&& 31) = 10
                            · rw [if_pos c133] at e
                              refine gs_switch (t := 532) rfl (by rw [c133]; decide) ?_
                              refine gs_aload_n rfl rfl ?_
                              refine gs_aload_n rfl rfl ?_
                              refine gs_iload_n rfl rfl ?_
                              refine gs_iconst (x := 1) rfl (by decide) ?_
                              refine gs_iadd rfl ?_
                              by_cases hb134 : pa_in (z3 + 1) L = true
                              case neg => rw [if_neg hb134] at e; cases e
                              rw [if_pos hb134] at e
                              refine gs_iald rfl (gd_ia (j := (z3 + 1).toNatClampNeg) rfl hb134 rfl) ?_
                              refine gs_aload_n rfl rfl ?_
                              refine gs_iload_n rfl rfl ?_
                              refine gs_iconst (x := 2) rfl (by decide) ?_
                              refine gs_iadd rfl ?_
                              by_cases hb135 : pa_in (z3 + 2) L = true
                              case neg => rw [if_neg hb135] at e; cases e
                              rw [if_pos hb135] at e
                              refine gs_iald rfl (gd_ia (j := (z3 + 2).toNatClampNeg) rfl hb135 rfl) ?_
                              refine gs_aload_n rfl rfl ?_
                              refine gs_iload_n rfl rfl ?_
                              refine gs_iconst (x := 3) rfl (by decide) ?_
                              refine gs_iadd rfl ?_
                              by_cases hb136 : pa_in (z3 + 3) L = true
                              case neg => rw [if_neg hb136] at e; cases e
                              rw [if_pos hb136] at e
                              refine gs_iald rfl (gd_ia (j := (z3 + 3).toNatClampNeg) rfl hb136 rfl) ?_
                              obtain ⟨r137, ec138, e⟩ := ob1_some e
                              refine gs_callvI (st := []) rfl (pr_C_le (by decide) (th_X8_play L (f 0 (z3 + 1).toNatClampNeg) (f 0 (z3 + 2).toNatClampNeg) (f 0 (z3 + 3).toNatClampNeg) f r137 ec138)) rfl rfl rfl (by decide) rfl (Or.inr (by decide)) ?_
                              refine gs_aload_n rfl rfl ?_
                              refine gs_aload_n rfl rfl ?_
                              refine gs_iload_n rfl rfl ?_
                              refine gs_iconst (x := 1) rfl (by decide) ?_
                              refine gs_iadd rfl ?_
                              by_cases hb139 : pa_in (z3 + 1) L = true
                              case neg => rw [if_neg hb139] at e; cases e
                              rw [if_pos hb139] at e
                              refine gs_iald rfl (gd_ia (j := (z3 + 1).toNatClampNeg) rfl hb139 rfl) ?_
                              refine gs_aload_n rfl rfl ?_
                              refine gs_iload_n rfl rfl ?_
                              refine gs_iconst (x := 2) rfl (by decide) ?_
                              refine gs_iadd rfl ?_
                              by_cases hb140 : pa_in (z3 + 2) L = true
                              case neg => rw [if_neg hb140] at e; cases e
                              rw [if_pos hb140] at e
                              refine gs_iald rfl (gd_ia (j := (z3 + 2).toNatClampNeg) rfl hb140 rfl) ?_
                              refine gs_aload_n rfl rfl ?_
                              refine gs_iload_n rfl rfl ?_
                              refine gs_iconst (x := 3) rfl (by decide) ?_
                              refine gs_iadd rfl ?_
                              by_cases hb141 : pa_in (z3 + 3) L = true
                              case neg => rw [if_neg hb141] at e; cases e
                              rw [if_pos hb141] at e
                              refine gs_iald rfl (gd_ia (j := (z3 + 3).toNatClampNeg) rfl hb141 rfl) ?_
                              obtain ⟨r142, f143, ec144, e⟩ := ob2_some e
                              refine gs_callvI (st := [.int r137]) rfl (pr_C_le (by decide) (th_X9_play L (f 0 (z3 + 1).toNatClampNeg) (f 0 (z3 + 2).toNatClampNeg) (f 0 (z3 + 3).toNatClampNeg) f r142 f143 ec144)) rfl rfl rfl (by decide) rfl (Or.inr (by decide)) ?_
                              refine gs_eq2 rfl (fun c145 => ?_) (fun c145 => ?_)
                              · rw [if_pos c145] at e
                                obtain ⟨x146, hx146, e⟩ := pn_some e
                                refine gs_iinc1 (x1 := x146) (c := 7) (lv' := [(3, .int x146), (0, .ref 0), (1, .ref 17), (2, .ref 110)]) rfl rfl (by decide) hx146 rfl ?_
                                refine gs_goto rfl ?_
                                refine gs_drop [1, 2, 3, 0] rfl ?_
                                exact (ih x146 f143 _ e).1 _ rfl
                              · rw [if_neg c145] at e
                                refine gs_iconst (x := 0) rfl (by decide) ?_
                                obtain rfl := injl e
                                exact gs_iret rfl rfl (by decide) rfl rfl
                            · rw [if_neg c133] at e
                              by_cases c147 : ((f 0 z3.toNatClampNeg) &&& 31) = 11
                              · rw [if_pos c147] at e
                                refine gs_switch (t := 575) rfl (by rw [c147]; decide) ?_
                                refine gs_aload_n rfl rfl ?_
                                refine gs_aload_n rfl rfl ?_
                                refine gs_iload_n rfl rfl ?_
                                refine gs_iconst (x := 1) rfl (by decide) ?_
                                refine gs_iadd rfl ?_
                                by_cases hb148 : pa_in (z3 + 1) L = true
                                case neg => rw [if_neg hb148] at e; cases e
                                rw [if_pos hb148] at e
                                refine gs_iald rfl (gd_ia (j := (z3 + 1).toNatClampNeg) rfl hb148 rfl) ?_
                                refine gs_aload_n rfl rfl ?_
                                refine gs_iload_n rfl rfl ?_
                                refine gs_iconst (x := 2) rfl (by decide) ?_
                                refine gs_iadd rfl ?_
                                by_cases hb149 : pa_in (z3 + 2) L = true
                                case neg => rw [if_neg hb149] at e; cases e
                                rw [if_pos hb149] at e
                                refine gs_iald rfl (gd_ia (j := (z3 + 2).toNatClampNeg) rfl hb149 rfl) ?_
                                refine gs_aload_n rfl rfl ?_
                                refine gs_iload_n rfl rfl ?_
                                refine gs_iconst (x := 3) rfl (by decide) ?_
                                refine gs_iadd rfl ?_
                                by_cases hb150 : pa_in (z3 + 3) L = true
                                case neg => rw [if_neg hb150] at e; cases e
                                rw [if_pos hb150] at e
                                refine gs_iald rfl (gd_ia (j := (z3 + 3).toNatClampNeg) rfl hb150 rfl) ?_
                                refine gs_aload_n rfl rfl ?_
                                refine gs_iload_n rfl rfl ?_
                                refine gs_iconst (x := 4) rfl (by decide) ?_
                                refine gs_iadd rfl ?_
                                by_cases hb151 : pa_in (z3 + 4) L = true
                                case neg => rw [if_neg hb151] at e; cases e
                                rw [if_pos hb151] at e
                                refine gs_iald rfl (gd_ia (j := (z3 + 4).toNatClampNeg) rfl hb151 rfl) ?_
                                refine gs_aload_n rfl rfl ?_
                                refine gs_iload_n rfl rfl ?_
                                refine gs_iconst (x := 5) rfl (by decide) ?_
                                refine gs_iadd rfl ?_
                                by_cases hb152 : pa_in (z3 + 5) L = true
                                case neg => rw [if_neg hb152] at e; cases e
                                rw [if_pos hb152] at e
                                refine gs_iald rfl (gd_ia (j := (z3 + 5).toNatClampNeg) rfl hb152 rfl) ?_
                                refine gs_aload_n rfl rfl ?_
                                refine gs_iload_n rfl rfl ?_
                                refine gs_bipush (x := 6) rfl (by decide) ?_
                                refine gs_iadd rfl ?_
                                by_cases hb153 : pa_in (z3 + 6) L = true
                                case neg => rw [if_neg hb153] at e; cases e
                                rw [if_pos hb153] at e
                                refine gs_iald rfl (gd_ia (j := (z3 + 6).toNatClampNeg) rfl hb153 rfl) ?_
                                obtain ⟨r154, ec155, e⟩ := ob1_some e
                                refine gs_callvI (st := []) rfl (pr_C_le (by decide) (th_X8_standIn L (f 0 (z3 + 1).toNatClampNeg) (f 0 (z3 + 2).toNatClampNeg) (f 0 (z3 + 3).toNatClampNeg) (f 0 (z3 + 4).toNatClampNeg) (f 0 (z3 + 5).toNatClampNeg) (f 0 (z3 + 6).toNatClampNeg) f r154 ec155)) rfl rfl rfl (by decide) rfl (Or.inr (by decide)) ?_
                                refine gs_aload_n rfl rfl ?_
                                refine gs_aload_n rfl rfl ?_
                                refine gs_iload_n rfl rfl ?_
                                refine gs_iconst (x := 1) rfl (by decide) ?_
                                refine gs_iadd rfl ?_
                                by_cases hb156 : pa_in (z3 + 1) L = true
                                case neg => rw [if_neg hb156] at e; cases e
                                rw [if_pos hb156] at e
                                refine gs_iald rfl (gd_ia (j := (z3 + 1).toNatClampNeg) rfl hb156 rfl) ?_
                                refine gs_aload_n rfl rfl ?_
                                refine gs_iload_n rfl rfl ?_
                                refine gs_iconst (x := 2) rfl (by decide) ?_
                                refine gs_iadd rfl ?_
                                by_cases hb157 : pa_in (z3 + 2) L = true
                                case neg => rw [if_neg hb157] at e; cases e
                                rw [if_pos hb157] at e
                                refine gs_iald rfl (gd_ia (j := (z3 + 2).toNatClampNeg) rfl hb157 rfl) ?_
                                refine gs_aload_n rfl rfl ?_
                                refine gs_iload_n rfl rfl ?_
                                refine gs_iconst (x := 3) rfl (by decide) ?_
                                refine gs_iadd rfl ?_
                                by_cases hb158 : pa_in (z3 + 3) L = true
                                case neg => rw [if_neg hb158] at e; cases e
                                rw [if_pos hb158] at e
                                refine gs_iald rfl (gd_ia (j := (z3 + 3).toNatClampNeg) rfl hb158 rfl) ?_
                                refine gs_aload_n rfl rfl ?_
                                refine gs_iload_n rfl rfl ?_
                                refine gs_iconst (x := 4) rfl (by decide) ?_
                                refine gs_iadd rfl ?_
                                by_cases hb159 : pa_in (z3 + 4) L = true
                                case neg => rw [if_neg hb159] at e; cases e
                                rw [if_pos hb159] at e
                                refine gs_iald rfl (gd_ia (j := (z3 + 4).toNatClampNeg) rfl hb159 rfl) ?_
                                refine gs_aload_n rfl rfl ?_
                                refine gs_iload_n rfl rfl ?_
                                refine gs_iconst (x := 5) rfl (by decide) ?_
                                refine gs_iadd rfl ?_
                                by_cases hb160 : pa_in (z3 + 5) L = true
                                case neg => rw [if_neg hb160] at e; cases e
                                rw [if_pos hb160] at e
                                refine gs_iald rfl (gd_ia (j := (z3 + 5).toNatClampNeg) rfl hb160 rfl) ?_
                                refine gs_aload_n rfl rfl ?_
                                refine gs_iload_n rfl rfl ?_
                                refine gs_bipush (x := 6) rfl (by decide) ?_
                                refine gs_iadd rfl ?_
                                by_cases hb161 : pa_in (z3 + 6) L = true
                                case neg => rw [if_neg hb161] at e; cases e
                                rw [if_pos hb161] at e
                                refine gs_iald rfl (gd_ia (j := (z3 + 6).toNatClampNeg) rfl hb161 rfl) ?_
                                obtain ⟨r162, f163, ec164, e⟩ := ob2_some e
                                refine gs_callvI (st := [.int r154]) rfl (pr_C_le (by decide) (th_X9_standIn L (f 0 (z3 + 1).toNatClampNeg) (f 0 (z3 + 2).toNatClampNeg) (f 0 (z3 + 3).toNatClampNeg) (f 0 (z3 + 4).toNatClampNeg) (f 0 (z3 + 5).toNatClampNeg) (f 0 (z3 + 6).toNatClampNeg) f r162 f163 ec164)) rfl rfl rfl (by decide) rfl (Or.inr (by decide)) ?_
                                refine gs_eq2 rfl (fun c165 => ?_) (fun c165 => ?_)
                                · rw [if_pos c165] at e
                                  obtain ⟨x166, hx166, e⟩ := pn_some e
                                  refine gs_iinc1 (x1 := x166) (c := 7) (lv' := [(3, .int x166), (0, .ref 0), (1, .ref 17), (2, .ref 110)]) rfl rfl (by decide) hx166 rfl ?_
                                  refine gs_goto rfl ?_
                                  refine gs_drop [1, 2, 3, 0] rfl ?_
                                  exact (ih x166 f163 _ e).1 _ rfl
                                · rw [if_neg c165] at e
                                  refine gs_iconst (x := 0) rfl (by decide) ?_
                                  obtain rfl := injl e
                                  exact gs_iret rfl rfl (by decide) rfl rfl
                              · rw [if_neg c147] at e
                                by_cases c167 : ((f 0 z3.toNatClampNeg) &&& 31) = 12
                                · rw [if_pos c167] at e
                                  refine gs_switch (t := 650) rfl (by rw [c167]; decide) ?_
                                  refine gs_aload_n rfl rfl ?_
                                  refine gs_aload_n rfl rfl ?_
                                  refine gs_iload_n rfl rfl ?_
                                  refine gs_iconst (x := 1) rfl (by decide) ?_
                                  refine gs_iadd rfl ?_
                                  by_cases hb168 : pa_in (z3 + 1) L = true
                                  case neg => rw [if_neg hb168] at e; cases e
                                  rw [if_pos hb168] at e
                                  refine gs_iald rfl (gd_ia (j := (z3 + 1).toNatClampNeg) rfl hb168 rfl) ?_
                                  refine gs_aload_n rfl rfl ?_
                                  refine gs_iload_n rfl rfl ?_
                                  refine gs_iconst (x := 2) rfl (by decide) ?_
                                  refine gs_iadd rfl ?_
                                  by_cases hb169 : pa_in (z3 + 2) L = true
                                  case neg => rw [if_neg hb169] at e; cases e
                                  rw [if_pos hb169] at e
                                  refine gs_iald rfl (gd_ia (j := (z3 + 2).toNatClampNeg) rfl hb169 rfl) ?_
                                  refine gs_aload_n rfl rfl ?_
                                  refine gs_iload_n rfl rfl ?_
                                  refine gs_iconst (x := 3) rfl (by decide) ?_
                                  refine gs_iadd rfl ?_
                                  by_cases hb170 : pa_in (z3 + 3) L = true
                                  case neg => rw [if_neg hb170] at e; cases e
                                  rw [if_pos hb170] at e
                                  refine gs_iald rfl (gd_ia (j := (z3 + 3).toNatClampNeg) rfl hb170 rfl) ?_
                                  refine gs_aload_n rfl rfl ?_
                                  refine gs_iload_n rfl rfl ?_
                                  refine gs_iconst (x := 4) rfl (by decide) ?_
                                  refine gs_iadd rfl ?_
                                  by_cases hb171 : pa_in (z3 + 4) L = true
                                  case neg => rw [if_neg hb171] at e; cases e
                                  rw [if_pos hb171] at e
                                  refine gs_iald rfl (gd_ia (j := (z3 + 4).toNatClampNeg) rfl hb171 rfl) ?_
                                  obtain ⟨r172, f173, ec174, e⟩ := ob2_some e
                                  refine gs_callvI (st := []) rfl (pr_C_le (by decide) (th_X8_allows L (f 0 (z3 + 1).toNatClampNeg) (f 0 (z3 + 2).toNatClampNeg) (f 0 (z3 + 3).toNatClampNeg) (f 0 (z3 + 4).toNatClampNeg) f r172 f173 ec174)) rfl rfl rfl (by decide) rfl (Or.inr (by decide)) ?_
                                  refine gs_aload_n rfl rfl ?_
                                  refine gs_aload_n rfl rfl ?_
                                  refine gs_iload_n rfl rfl ?_
                                  refine gs_iconst (x := 1) rfl (by decide) ?_
                                  refine gs_iadd rfl ?_
                                  by_cases hb175 : pa_in (z3 + 1) L = true
                                  case neg => rw [if_neg hb175] at e; cases e
                                  rw [if_pos hb175] at e
                                  refine gs_iald rfl (gd_ia (j := (z3 + 1).toNatClampNeg) rfl hb175 rfl) ?_
                                  refine gs_aload_n rfl rfl ?_
                                  refine gs_iload_n rfl rfl ?_
                                  refine gs_iconst (x := 2) rfl (by decide) ?_
                                  refine gs_iadd rfl ?_
                                  by_cases hb176 : pa_in (z3 + 2) L = true
                                  case neg => rw [if_neg hb176] at e; cases e
                                  rw [if_pos hb176] at e
                                  refine gs_iald rfl (gd_ia (j := (z3 + 2).toNatClampNeg) rfl hb176 rfl) ?_
                                  refine gs_aload_n rfl rfl ?_
                                  refine gs_iload_n rfl rfl ?_
                                  refine gs_iconst (x := 3) rfl (by decide) ?_
                                  refine gs_iadd rfl ?_
                                  by_cases hb177 : pa_in (z3 + 3) L = true
                                  case neg => rw [if_neg hb177] at e; cases e
                                  rw [if_pos hb177] at e
                                  refine gs_iald rfl (gd_ia (j := (z3 + 3).toNatClampNeg) rfl hb177 rfl) ?_
                                  refine gs_aload_n rfl rfl ?_
                                  refine gs_iload_n rfl rfl ?_
                                  refine gs_iconst (x := 4) rfl (by decide) ?_
                                  refine gs_iadd rfl ?_
                                  by_cases hb178 : pa_in (z3 + 4) L = true
                                  case neg => rw [if_neg hb178] at e; cases e
                                  rw [if_pos hb178] at e
                                  refine gs_iald rfl (gd_ia (j := (z3 + 4).toNatClampNeg) rfl hb178 rfl) ?_
                                  obtain ⟨r179, f180, ec181, e⟩ := ob2_some e
                                  refine gs_callvI (st := [.int r172]) rfl (pr_C_le (by decide) (th_X9_allows L (f173 0 (z3 + 1).toNatClampNeg) (f173 0 (z3 + 2).toNatClampNeg) (f173 0 (z3 + 3).toNatClampNeg) (f173 0 (z3 + 4).toNatClampNeg) f173 r179 f180 ec181)) rfl rfl rfl (by decide) rfl (Or.inr (by decide)) ?_
                                  refine gs_eq2 rfl (fun c182 => ?_) (fun c182 => ?_)
                                  · rw [if_pos c182] at e
                                    obtain ⟨x183, hx183, e⟩ := pn_some e
                                    refine gs_iinc1 (x1 := x183) (c := 7) (lv' := [(3, .int x183), (0, .ref 0), (1, .ref 17), (2, .ref 110)]) rfl rfl (by decide) hx183 rfl ?_
                                    refine gs_goto rfl ?_
                                    refine gs_drop [1, 2, 3, 0] rfl ?_
                                    exact (ih x183 f180 _ e).1 _ rfl
                                  · rw [if_neg c182] at e
                                    refine gs_iconst (x := 0) rfl (by decide) ?_
                                    obtain rfl := injl e
                                    exact gs_iret rfl rfl (by decide) rfl rfl
                                · rw [if_neg c167] at e
                                  by_cases c184 : ((f 0 z3.toNatClampNeg) &&& 31) = 13
                                  · rw [if_pos c184] at e
                                    refine gs_switch (t := 703) rfl (by rw [c184]; decide) ?_
                                    refine gs_aload_n rfl rfl ?_
                                    refine gs_aload_n rfl rfl ?_
                                    refine gs_iload_n rfl rfl ?_
                                    refine gs_iconst (x := 1) rfl (by decide) ?_
                                    refine gs_iadd rfl ?_
                                    by_cases hb185 : pa_in (z3 + 1) L = true
                                    case neg => rw [if_neg hb185] at e; cases e
                                    rw [if_pos hb185] at e
                                    refine gs_iald rfl (gd_ia (j := (z3 + 1).toNatClampNeg) rfl hb185 rfl) ?_
                                    refine gs_aload_n rfl rfl ?_
                                    refine gs_iload_n rfl rfl ?_
                                    refine gs_iconst (x := 2) rfl (by decide) ?_
                                    refine gs_iadd rfl ?_
                                    by_cases hb186 : pa_in (z3 + 2) L = true
                                    case neg => rw [if_neg hb186] at e; cases e
                                    rw [if_pos hb186] at e
                                    refine gs_iald rfl (gd_ia (j := (z3 + 2).toNatClampNeg) rfl hb186 rfl) ?_
                                    obtain ⟨r187, ec188, e⟩ := ob1_some e
                                    refine gs_callvI (st := []) rfl (pr_C_le (by decide) (th_X8_noMore L (f 0 (z3 + 1).toNatClampNeg) (f 0 (z3 + 2).toNatClampNeg) f r187 ec188)) rfl rfl rfl (by decide) rfl (Or.inr (by decide)) ?_
                                    refine gs_aload_n rfl rfl ?_
                                    refine gs_aload_n rfl rfl ?_
                                    refine gs_iload_n rfl rfl ?_
                                    refine gs_iconst (x := 1) rfl (by decide) ?_
                                    refine gs_iadd rfl ?_
                                    by_cases hb189 : pa_in (z3 + 1) L = true
                                    case neg => rw [if_neg hb189] at e; cases e
                                    rw [if_pos hb189] at e
                                    refine gs_iald rfl (gd_ia (j := (z3 + 1).toNatClampNeg) rfl hb189 rfl) ?_
                                    refine gs_aload_n rfl rfl ?_
                                    refine gs_iload_n rfl rfl ?_
                                    refine gs_iconst (x := 2) rfl (by decide) ?_
                                    refine gs_iadd rfl ?_
                                    by_cases hb190 : pa_in (z3 + 2) L = true
                                    case neg => rw [if_neg hb190] at e; cases e
                                    rw [if_pos hb190] at e
                                    refine gs_iald rfl (gd_ia (j := (z3 + 2).toNatClampNeg) rfl hb190 rfl) ?_
                                    obtain ⟨r191, f192, ec193, e⟩ := ob2_some e
                                    refine gs_callvI (st := [.int r187]) rfl (pr_C_le (by decide) (th_X9_noMore L (f 0 (z3 + 1).toNatClampNeg) (f 0 (z3 + 2).toNatClampNeg) f r191 f192 ec193)) rfl rfl rfl (by decide) rfl (Or.inr (by decide)) ?_
                                    refine gs_eq2 rfl (fun c194 => ?_) (fun c194 => ?_)
                                    · rw [if_pos c194] at e
                                      obtain ⟨x195, hx195, e⟩ := pn_some e
                                      refine gs_iinc1 (x1 := x195) (c := 7) (lv' := [(3, .int x195), (0, .ref 0), (1, .ref 17), (2, .ref 110)]) rfl rfl (by decide) hx195 rfl ?_
                                      refine gs_goto rfl ?_
                                      refine gs_drop [1, 2, 3, 0] rfl ?_
                                      exact (ih x195 f192 _ e).1 _ rfl
                                    · rw [if_neg c194] at e
                                      refine gs_iconst (x := 0) rfl (by decide) ?_
                                      obtain rfl := injl e
                                      exact gs_iret rfl rfl (by decide) rfl rfl
                                  · rw [if_neg c184] at e
                                    by_cases c196 : ((f 0 z3.toNatClampNeg) &&& 31) = 14
                                    · rw [if_pos c196] at e
                                      refine gs_switch (t := 736) rfl (by rw [c196]; decide) ?_
                                      refine gs_aload_n rfl rfl ?_
                                      refine gs_aload_n rfl rfl ?_
                                      refine gs_iload_n rfl rfl ?_
                                      refine gs_iconst (x := 1) rfl (by decide) ?_
                                      refine gs_iadd rfl ?_
                                      by_cases hb197 : pa_in (z3 + 1) L = true
                                      case neg => rw [if_neg hb197] at e; cases e
                                      rw [if_pos hb197] at e
                                      refine gs_iald rfl (gd_ia (j := (z3 + 1).toNatClampNeg) rfl hb197 rfl) ?_
                                      obtain ⟨r198, ec199, e⟩ := ob1_some e
                                      refine gs_callvI (st := []) rfl (pr_C_le (by decide) (th_X8_quarrel L (f 0 (z3 + 1).toNatClampNeg) f r198 ec199)) rfl rfl rfl (by decide) rfl (Or.inr (by decide)) ?_
                                      refine gs_aload_n rfl rfl ?_
                                      refine gs_aload_n rfl rfl ?_
                                      refine gs_iload_n rfl rfl ?_
                                      refine gs_iconst (x := 1) rfl (by decide) ?_
                                      refine gs_iadd rfl ?_
                                      by_cases hb200 : pa_in (z3 + 1) L = true
                                      case neg => rw [if_neg hb200] at e; cases e
                                      rw [if_pos hb200] at e
                                      refine gs_iald rfl (gd_ia (j := (z3 + 1).toNatClampNeg) rfl hb200 rfl) ?_
                                      obtain ⟨r201, f202, ec203, e⟩ := ob2_some e
                                      refine gs_callvI (st := [.int r198]) rfl (pr_C_le (by decide) (th_X9_quarrel L (f 0 (z3 + 1).toNatClampNeg) f r201 f202 ec203)) rfl rfl rfl (by decide) rfl (Or.inr (by decide)) ?_
                                      refine gs_eq2 rfl (fun c204 => ?_) (fun c204 => ?_)
                                      · rw [if_pos c204] at e
                                        obtain ⟨x205, hx205, e⟩ := pn_some e
                                        refine gs_iinc1 (x1 := x205) (c := 7) (lv' := [(3, .int x205), (0, .ref 0), (1, .ref 17), (2, .ref 110)]) rfl rfl (by decide) hx205 rfl ?_
                                        refine gs_goto rfl ?_
                                        refine gs_drop [1, 2, 3, 0] rfl ?_
                                        exact (ih x205 f202 _ e).1 _ rfl
                                      · rw [if_neg c204] at e
                                        refine gs_iconst (x := 0) rfl (by decide) ?_
                                        obtain rfl := injl e
                                        exact gs_iret rfl rfl (by decide) rfl rfl
                                    · rw [if_neg c196] at e
                                      by_cases c206 : ((f 0 z3.toNatClampNeg) &&& 31) = 15
                                      · rw [if_pos c206] at e
                                        refine gs_switch (t := 759) rfl (by rw [c206]; decide) ?_
                                        refine gs_aload_n rfl rfl ?_
                                        refine gs_aload_n rfl rfl ?_
                                        refine gs_iload_n rfl rfl ?_
                                        refine gs_iconst (x := 1) rfl (by decide) ?_
                                        refine gs_iadd rfl ?_
                                        by_cases hb207 : pa_in (z3 + 1) L = true
                                        case neg => rw [if_neg hb207] at e; cases e
                                        rw [if_pos hb207] at e
                                        refine gs_iald rfl (gd_ia (j := (z3 + 1).toNatClampNeg) rfl hb207 rfl) ?_
                                        refine gs_aload_n rfl rfl ?_
                                        refine gs_iload_n rfl rfl ?_
                                        refine gs_iconst (x := 2) rfl (by decide) ?_
                                        refine gs_iadd rfl ?_
                                        by_cases hb208 : pa_in (z3 + 2) L = true
                                        case neg => rw [if_neg hb208] at e; cases e
                                        rw [if_pos hb208] at e
                                        refine gs_iald rfl (gd_ia (j := (z3 + 2).toNatClampNeg) rfl hb208 rfl) ?_
                                        refine gs_aload_n rfl rfl ?_
                                        refine gs_iload_n rfl rfl ?_
                                        refine gs_iconst (x := 3) rfl (by decide) ?_
                                        refine gs_iadd rfl ?_
                                        by_cases hb209 : pa_in (z3 + 3) L = true
                                        case neg => rw [if_neg hb209] at e; cases e
                                        rw [if_pos hb209] at e
                                        refine gs_iald rfl (gd_ia (j := (z3 + 3).toNatClampNeg) rfl hb209 rfl) ?_
                                        obtain ⟨r210, ec211, e⟩ := ob1_some e
                                        refine gs_callvI (st := []) rfl (pr_C_le (by decide) (th_X8_change L (f 0 (z3 + 1).toNatClampNeg) (f 0 (z3 + 2).toNatClampNeg) (f 0 (z3 + 3).toNatClampNeg) f r210 ec211)) rfl rfl rfl (by decide) rfl (Or.inr (by decide)) ?_
                                        refine gs_aload_n rfl rfl ?_
                                        refine gs_aload_n rfl rfl ?_
                                        refine gs_iload_n rfl rfl ?_
                                        refine gs_iconst (x := 1) rfl (by decide) ?_
                                        refine gs_iadd rfl ?_
                                        by_cases hb212 : pa_in (z3 + 1) L = true
                                        case neg => rw [if_neg hb212] at e; cases e
                                        rw [if_pos hb212] at e
                                        refine gs_iald rfl (gd_ia (j := (z3 + 1).toNatClampNeg) rfl hb212 rfl) ?_
                                        refine gs_aload_n rfl rfl ?_
                                        refine gs_iload_n rfl rfl ?_
                                        refine gs_iconst (x := 2) rfl (by decide) ?_
                                        refine gs_iadd rfl ?_
                                        by_cases hb213 : pa_in (z3 + 2) L = true
                                        case neg => rw [if_neg hb213] at e; cases e
                                        rw [if_pos hb213] at e
                                        refine gs_iald rfl (gd_ia (j := (z3 + 2).toNatClampNeg) rfl hb213 rfl) ?_
                                        refine gs_aload_n rfl rfl ?_
                                        refine gs_iload_n rfl rfl ?_
                                        refine gs_iconst (x := 3) rfl (by decide) ?_
                                        refine gs_iadd rfl ?_
                                        by_cases hb214 : pa_in (z3 + 3) L = true
                                        case neg => rw [if_neg hb214] at e; cases e
                                        rw [if_pos hb214] at e
                                        refine gs_iald rfl (gd_ia (j := (z3 + 3).toNatClampNeg) rfl hb214 rfl) ?_
                                        obtain ⟨r215, f216, ec217, e⟩ := ob2_some e
                                        refine gs_callvI (st := [.int r210]) rfl (pr_C_le (by decide) (th_X9_change L (f 0 (z3 + 1).toNatClampNeg) (f 0 (z3 + 2).toNatClampNeg) (f 0 (z3 + 3).toNatClampNeg) f r215 f216 ec217)) rfl rfl rfl (by decide) rfl (Or.inr (by decide)) ?_
                                        refine gs_eq2 rfl (fun c218 => ?_) (fun c218 => ?_)
                                        · rw [if_pos c218] at e
                                          obtain ⟨x219, hx219, e⟩ := pn_some e
                                          refine gs_iinc1 (x1 := x219) (c := 7) (lv' := [(3, .int x219), (0, .ref 0), (1, .ref 17), (2, .ref 110)]) rfl rfl (by decide) hx219 rfl ?_
                                          refine gs_goto rfl ?_
                                          refine gs_drop [1, 2, 3, 0] rfl ?_
                                          exact (ih x219 f216 _ e).1 _ rfl
                                        · rw [if_neg c218] at e
                                          refine gs_iconst (x := 0) rfl (by decide) ?_
                                          obtain rfl := injl e
                                          exact gs_iret rfl rfl (by decide) rfl rfl
                                      · rw [if_neg c206] at e
                                        by_cases c220 : ((f 0 z3.toNatClampNeg) &&& 31) = 16
                                        · rw [if_pos c220] at e
                                          refine gs_switch (t := 802) rfl (by rw [c220]; decide) ?_
                                          refine gs_aload_n rfl rfl ?_
                                          refine gs_aload_n rfl rfl ?_
                                          refine gs_iload_n rfl rfl ?_
                                          refine gs_iconst (x := 1) rfl (by decide) ?_
                                          refine gs_iadd rfl ?_
                                          by_cases hb221 : pa_in (z3 + 1) L = true
                                          case neg => rw [if_neg hb221] at e; cases e
                                          rw [if_pos hb221] at e
                                          refine gs_iald rfl (gd_ia (j := (z3 + 1).toNatClampNeg) rfl hb221 rfl) ?_
                                          obtain ⟨r222, ec223, e⟩ := ob1_some e
                                          refine gs_callvI (st := []) rfl (pr_C_le (by decide) (th_X8_right L (f 0 (z3 + 1).toNatClampNeg) f r222 ec223)) rfl rfl rfl (by decide) rfl (Or.inr (by decide)) ?_
                                          refine gs_aload_n rfl rfl ?_
                                          refine gs_aload_n rfl rfl ?_
                                          refine gs_iload_n rfl rfl ?_
                                          refine gs_iconst (x := 1) rfl (by decide) ?_
                                          refine gs_iadd rfl ?_
                                          by_cases hb224 : pa_in (z3 + 1) L = true
                                          case neg => rw [if_neg hb224] at e; cases e
                                          rw [if_pos hb224] at e
                                          refine gs_iald rfl (gd_ia (j := (z3 + 1).toNatClampNeg) rfl hb224 rfl) ?_
                                          obtain ⟨r225, f226, ec227, e⟩ := ob2_some e
                                          refine gs_callvI (st := [.int r222]) rfl (pr_C_le (by decide) (th_X9_right L (f 0 (z3 + 1).toNatClampNeg) f r225 f226 ec227)) rfl rfl rfl (by decide) rfl (Or.inr (by decide)) ?_
                                          refine gs_eq2 rfl (fun c228 => ?_) (fun c228 => ?_)
                                          · rw [if_pos c228] at e
                                            obtain ⟨x229, hx229, e⟩ := pn_some e
                                            refine gs_iinc1 (x1 := x229) (c := 7) (lv' := [(3, .int x229), (0, .ref 0), (1, .ref 17), (2, .ref 110)]) rfl rfl (by decide) hx229 rfl ?_
                                            refine gs_goto rfl ?_
                                            refine gs_drop [1, 2, 3, 0] rfl ?_
                                            exact (ih x229 f226 _ e).1 _ rfl
                                          · rw [if_neg c228] at e
                                            refine gs_iconst (x := 0) rfl (by decide) ?_
                                            obtain rfl := injl e
                                            exact gs_iret rfl rfl (by decide) rfl rfl
                                        · rw [if_neg c220] at e
                                          by_cases c230 : ((f 0 z3.toNatClampNeg) &&& 31) = 17
                                          · rw [if_pos c230] at e
                                            refine gs_switch (t := 825) rfl (by rw [c230]; decide) ?_
                                            refine gs_aload_n rfl rfl ?_
                                            refine gs_aload_n rfl rfl ?_
                                            refine gs_iload_n rfl rfl ?_
                                            refine gs_iconst (x := 1) rfl (by decide) ?_
                                            refine gs_iadd rfl ?_
                                            by_cases hb231 : pa_in (z3 + 1) L = true
                                            case neg => rw [if_neg hb231] at e; cases e
                                            rw [if_pos hb231] at e
                                            refine gs_iald rfl (gd_ia (j := (z3 + 1).toNatClampNeg) rfl hb231 rfl) ?_
                                            refine gs_aload_n rfl rfl ?_
                                            refine gs_iload_n rfl rfl ?_
                                            refine gs_iconst (x := 2) rfl (by decide) ?_
                                            refine gs_iadd rfl ?_
                                            by_cases hb232 : pa_in (z3 + 2) L = true
                                            case neg => rw [if_neg hb232] at e; cases e
                                            rw [if_pos hb232] at e
                                            refine gs_iald rfl (gd_ia (j := (z3 + 2).toNatClampNeg) rfl hb232 rfl) ?_
                                            obtain ⟨r233, ec234, e⟩ := ob1_some e
                                            refine gs_callvI (st := []) rfl (pr_C_le (by decide) (th_X8_house L (f 0 (z3 + 1).toNatClampNeg) (f 0 (z3 + 2).toNatClampNeg) f r233 ec234)) rfl rfl rfl (by decide) rfl (Or.inr (by decide)) ?_
                                            refine gs_aload_n rfl rfl ?_
                                            refine gs_aload_n rfl rfl ?_
                                            refine gs_iload_n rfl rfl ?_
                                            refine gs_iconst (x := 1) rfl (by decide) ?_
                                            refine gs_iadd rfl ?_
                                            by_cases hb235 : pa_in (z3 + 1) L = true
                                            case neg => rw [if_neg hb235] at e; cases e
                                            rw [if_pos hb235] at e
                                            refine gs_iald rfl (gd_ia (j := (z3 + 1).toNatClampNeg) rfl hb235 rfl) ?_
                                            refine gs_aload_n rfl rfl ?_
                                            refine gs_iload_n rfl rfl ?_
                                            refine gs_iconst (x := 2) rfl (by decide) ?_
                                            refine gs_iadd rfl ?_
                                            by_cases hb236 : pa_in (z3 + 2) L = true
                                            case neg => rw [if_neg hb236] at e; cases e
                                            rw [if_pos hb236] at e
                                            refine gs_iald rfl (gd_ia (j := (z3 + 2).toNatClampNeg) rfl hb236 rfl) ?_
                                            obtain ⟨r237, f238, ec239, e⟩ := ob2_some e
                                            refine gs_callvI (st := [.int r233]) rfl (pr_C_le (by decide) (th_X9_house L (f 0 (z3 + 1).toNatClampNeg) (f 0 (z3 + 2).toNatClampNeg) f r237 f238 ec239)) rfl rfl rfl (by decide) rfl (Or.inr (by decide)) ?_
                                            refine gs_eq2 rfl (fun c240 => ?_) (fun c240 => ?_)
                                            · rw [if_pos c240] at e
                                              obtain ⟨x241, hx241, e⟩ := pn_some e
                                              refine gs_iinc1 (x1 := x241) (c := 7) (lv' := [(3, .int x241), (0, .ref 0), (1, .ref 17), (2, .ref 110)]) rfl rfl (by decide) hx241 rfl ?_
                                              refine gs_goto rfl ?_
                                              refine gs_drop [1, 2, 3, 0] rfl ?_
                                              exact (ih x241 f238 _ e).1 _ rfl
                                            · rw [if_neg c240] at e
                                              refine gs_iconst (x := 0) rfl (by decide) ?_
                                              obtain rfl := injl e
                                              exact gs_iret rfl rfl (by decide) rfl rfl
                                          · rw [if_neg c230] at e
                                            by_cases c242 : ((f 0 z3.toNatClampNeg) &&& 31) = 18
                                            · rw [if_pos c242] at e
                                              refine gs_switch (t := 858) rfl (by rw [c242]; decide) ?_
                                              refine gs_aload_n rfl rfl ?_
                                              refine gs_aload_n rfl rfl ?_
                                              refine gs_iload_n rfl rfl ?_
                                              refine gs_iconst (x := 1) rfl (by decide) ?_
                                              refine gs_iadd rfl ?_
                                              by_cases hb243 : pa_in (z3 + 1) L = true
                                              case neg => rw [if_neg hb243] at e; cases e
                                              rw [if_pos hb243] at e
                                              refine gs_iald rfl (gd_ia (j := (z3 + 1).toNatClampNeg) rfl hb243 rfl) ?_
                                              refine gs_aload_n rfl rfl ?_
                                              refine gs_iload_n rfl rfl ?_
                                              refine gs_iconst (x := 2) rfl (by decide) ?_
                                              refine gs_iadd rfl ?_
                                              by_cases hb244 : pa_in (z3 + 2) L = true
                                              case neg => rw [if_neg hb244] at e; cases e
                                              rw [if_pos hb244] at e
                                              refine gs_iald rfl (gd_ia (j := (z3 + 2).toNatClampNeg) rfl hb244 rfl) ?_
                                              refine gs_aload_n rfl rfl ?_
                                              refine gs_iload_n rfl rfl ?_
                                              refine gs_iconst (x := 3) rfl (by decide) ?_
                                              refine gs_iadd rfl ?_
                                              by_cases hb245 : pa_in (z3 + 3) L = true
                                              case neg => rw [if_neg hb245] at e; cases e
                                              rw [if_pos hb245] at e
                                              refine gs_iald rfl (gd_ia (j := (z3 + 3).toNatClampNeg) rfl hb245 rfl) ?_
                                              obtain ⟨r246, f247, ec248, e⟩ := ob2_some e
                                              refine gs_callvI (st := []) rfl (pr_C_le (by decide) (th_X8_letOut L (f 0 (z3 + 1).toNatClampNeg) (f 0 (z3 + 2).toNatClampNeg) (f 0 (z3 + 3).toNatClampNeg) f r246 f247 ec248)) rfl rfl rfl (by decide) rfl (Or.inr (by decide)) ?_
                                              refine gs_aload_n rfl rfl ?_
                                              refine gs_aload_n rfl rfl ?_
                                              refine gs_iload_n rfl rfl ?_
                                              refine gs_iconst (x := 1) rfl (by decide) ?_
                                              refine gs_iadd rfl ?_
                                              by_cases hb249 : pa_in (z3 + 1) L = true
                                              case neg => rw [if_neg hb249] at e; cases e
                                              rw [if_pos hb249] at e
                                              refine gs_iald rfl (gd_ia (j := (z3 + 1).toNatClampNeg) rfl hb249 rfl) ?_
                                              refine gs_aload_n rfl rfl ?_
                                              refine gs_iload_n rfl rfl ?_
                                              refine gs_iconst (x := 2) rfl (by decide) ?_
                                              refine gs_iadd rfl ?_
                                              by_cases hb250 : pa_in (z3 + 2) L = true
                                              case neg => rw [if_neg hb250] at e; cases e
                                              rw [if_pos hb250] at e
                                              refine gs_iald rfl (gd_ia (j := (z3 + 2).toNatClampNeg) rfl hb250 rfl) ?_
                                              refine gs_aload_n rfl rfl ?_
                                              refine gs_iload_n rfl rfl ?_
                                              refine gs_iconst (x := 3) rfl (by decide) ?_
                                              refine gs_iadd rfl ?_
                                              by_cases hb251 : pa_in (z3 + 3) L = true
                                              case neg => rw [if_neg hb251] at e; cases e
                                              rw [if_pos hb251] at e
                                              refine gs_iald rfl (gd_ia (j := (z3 + 3).toNatClampNeg) rfl hb251 rfl) ?_
                                              obtain ⟨r252, f253, ec254, e⟩ := ob2_some e
                                              refine gs_callvI (st := [.int r246]) rfl (pr_C_le (by decide) (th_X9_letOut L (f247 0 (z3 + 1).toNatClampNeg) (f247 0 (z3 + 2).toNatClampNeg) (f247 0 (z3 + 3).toNatClampNeg) f247 r252 f253 ec254)) rfl rfl rfl (by decide) rfl (Or.inr (by decide)) ?_
                                              refine gs_eq2 rfl (fun c255 => ?_) (fun c255 => ?_)
                                              · rw [if_pos c255] at e
                                                obtain ⟨x256, hx256, e⟩ := pn_some e
                                                refine gs_iinc1 (x1 := x256) (c := 7) (lv' := [(3, .int x256), (0, .ref 0), (1, .ref 17), (2, .ref 110)]) rfl rfl (by decide) hx256 rfl ?_
                                                refine gs_goto rfl ?_
                                                refine gs_drop [1, 2, 3, 0] rfl ?_
                                                exact (ih x256 f253 _ e).1 _ rfl
                                              · rw [if_neg c255] at e
                                                refine gs_iconst (x := 0) rfl (by decide) ?_
                                                obtain rfl := injl e
                                                exact gs_iret rfl rfl (by decide) rfl rfl
                                            · rw [if_neg c242] at e
                                              by_cases c257 : ((f 0 z3.toNatClampNeg) &&& 31) = 19
                                              · rw [if_pos c257] at e
                                                refine gs_switch (t := 901) rfl (by rw [c257]; decide) ?_
                                                refine gs_aload_n rfl rfl ?_
                                                refine gs_aload_n rfl rfl ?_
                                                refine gs_iload_n rfl rfl ?_
                                                refine gs_iconst (x := 1) rfl (by decide) ?_
                                                refine gs_iadd rfl ?_
                                                by_cases hb258 : pa_in (z3 + 1) L = true
                                                case neg => rw [if_neg hb258] at e; cases e
                                                rw [if_pos hb258] at e
                                                refine gs_iald rfl (gd_ia (j := (z3 + 1).toNatClampNeg) rfl hb258 rfl) ?_
                                                obtain ⟨r259, ec260, e⟩ := ob1_some e
                                                refine gs_callvI (st := []) rfl (pr_C_le (by decide) (th_X8_hours L (f 0 (z3 + 1).toNatClampNeg) f r259 ec260)) rfl rfl rfl (by decide) rfl (Or.inr (by decide)) ?_
                                                refine gs_aload_n rfl rfl ?_
                                                refine gs_aload_n rfl rfl ?_
                                                refine gs_iload_n rfl rfl ?_
                                                refine gs_iconst (x := 1) rfl (by decide) ?_
                                                refine gs_iadd rfl ?_
                                                by_cases hb261 : pa_in (z3 + 1) L = true
                                                case neg => rw [if_neg hb261] at e; cases e
                                                rw [if_pos hb261] at e
                                                refine gs_iald rfl (gd_ia (j := (z3 + 1).toNatClampNeg) rfl hb261 rfl) ?_
                                                obtain ⟨r262, f263, ec264, e⟩ := ob2_some e
                                                refine gs_callvI (st := [.int r259]) rfl (pr_C_le (by decide) (th_X9_hours L (f 0 (z3 + 1).toNatClampNeg) f r262 f263 ec264)) rfl rfl rfl (by decide) rfl (Or.inr (by decide)) ?_
                                                refine gs_eq2 rfl (fun c265 => ?_) (fun c265 => ?_)
                                                · rw [if_pos c265] at e
                                                  obtain ⟨x266, hx266, e⟩ := pn_some e
                                                  refine gs_iinc1 (x1 := x266) (c := 7) (lv' := [(3, .int x266), (0, .ref 0), (1, .ref 17), (2, .ref 110)]) rfl rfl (by decide) hx266 rfl ?_
                                                  refine gs_goto rfl ?_
                                                  refine gs_drop [1, 2, 3, 0] rfl ?_
                                                  exact (ih x266 f263 _ e).1 _ rfl
                                                · rw [if_neg c265] at e
                                                  refine gs_iconst (x := 0) rfl (by decide) ?_
                                                  obtain rfl := injl e
                                                  exact gs_iret rfl rfl (by decide) rfl rfl
                                              · rw [if_neg c257] at e
                                                by_cases c267 : ((f 0 z3.toNatClampNeg) &&& 31) = 20
                                                · rw [if_pos c267] at e
                                                  refine gs_switch (t := 924) rfl (by rw [c267]; decide) ?_
                                                  refine gs_aload_n rfl rfl ?_
                                                  refine gs_aload_n rfl rfl ?_
                                                  refine gs_iload_n rfl rfl ?_
                                                  refine gs_iconst (x := 1) rfl (by decide) ?_
                                                  refine gs_iadd rfl ?_
                                                  by_cases hb268 : pa_in (z3 + 1) L = true
                                                  case neg => rw [if_neg hb268] at e; cases e
                                                  rw [if_pos hb268] at e
                                                  refine gs_iald rfl (gd_ia (j := (z3 + 1).toNatClampNeg) rfl hb268 rfl) ?_
                                                  obtain ⟨r269, ec270, e⟩ := ob1_some e
                                                  refine gs_callvI (st := []) rfl (pr_C_le (by decide) (th_X8_kind L (f 0 (z3 + 1).toNatClampNeg) f r269 ec270)) rfl rfl rfl (by decide) rfl (Or.inr (by decide)) ?_
                                                  refine gs_aload_n rfl rfl ?_
                                                  refine gs_aload_n rfl rfl ?_
                                                  refine gs_iload_n rfl rfl ?_
                                                  refine gs_iconst (x := 1) rfl (by decide) ?_
                                                  refine gs_iadd rfl ?_
                                                  by_cases hb271 : pa_in (z3 + 1) L = true
                                                  case neg => rw [if_neg hb271] at e; cases e
                                                  rw [if_pos hb271] at e
                                                  refine gs_iald rfl (gd_ia (j := (z3 + 1).toNatClampNeg) rfl hb271 rfl) ?_
                                                  obtain ⟨r272, f273, ec274, e⟩ := ob2_some e
                                                  refine gs_callvI (st := [.int r269]) rfl (pr_C_le (by decide) (th_X9_kind L (f 0 (z3 + 1).toNatClampNeg) f r272 f273 ec274)) rfl rfl rfl (by decide) rfl (Or.inr (by decide)) ?_
                                                  refine gs_eq2 rfl (fun c275 => ?_) (fun c275 => ?_)
                                                  · rw [if_pos c275] at e
                                                    obtain ⟨x276, hx276, e⟩ := pn_some e
                                                    refine gs_iinc1 (x1 := x276) (c := 7) (lv' := [(3, .int x276), (0, .ref 0), (1, .ref 17), (2, .ref 110)]) rfl rfl (by decide) hx276 rfl ?_
                                                    refine gs_goto rfl ?_
                                                    refine gs_drop [1, 2, 3, 0] rfl ?_
                                                    exact (ih x276 f273 _ e).1 _ rfl
                                                  · rw [if_neg c275] at e
                                                    refine gs_iconst (x := 0) rfl (by decide) ?_
                                                    obtain rfl := injl e
                                                    exact gs_iret rfl rfl (by decide) rfl rfl
                                                · rw [if_neg c267] at e
                                                  by_cases c277 : ((f 0 z3.toNatClampNeg) &&& 31) = 21
                                                  · rw [if_pos c277] at e
                                                    refine gs_switch (t := 947) rfl (by rw [c277]; decide) ?_
                                                    refine gs_aload_n rfl rfl ?_
                                                    refine gs_aload_n rfl rfl ?_
                                                    refine gs_iload_n rfl rfl ?_
                                                    refine gs_iconst (x := 1) rfl (by decide) ?_
                                                    refine gs_iadd rfl ?_
                                                    by_cases hb278 : pa_in (z3 + 1) L = true
                                                    case neg => rw [if_neg hb278] at e; cases e
                                                    rw [if_pos hb278] at e
                                                    refine gs_iald rfl (gd_ia (j := (z3 + 1).toNatClampNeg) rfl hb278 rfl) ?_
                                                    refine gs_aload_n rfl rfl ?_
                                                    refine gs_iload_n rfl rfl ?_
                                                    refine gs_iconst (x := 2) rfl (by decide) ?_
                                                    refine gs_iadd rfl ?_
                                                    by_cases hb279 : pa_in (z3 + 2) L = true
                                                    case neg => rw [if_neg hb279] at e; cases e
                                                    rw [if_pos hb279] at e
                                                    refine gs_iald rfl (gd_ia (j := (z3 + 2).toNatClampNeg) rfl hb279 rfl) ?_
                                                    obtain ⟨r280, f281, ec282, e⟩ := ob2_some e
                                                    refine gs_callvI (st := []) rfl (pr_C_le (by decide) (th_X8_as L (f 0 (z3 + 1).toNatClampNeg) (f 0 (z3 + 2).toNatClampNeg) f r280 f281 ec282)) rfl rfl rfl (by decide) rfl (Or.inr (by decide)) ?_
                                                    refine gs_aload_n rfl rfl ?_
                                                    refine gs_aload_n rfl rfl ?_
                                                    refine gs_iload_n rfl rfl ?_
                                                    refine gs_iconst (x := 1) rfl (by decide) ?_
                                                    refine gs_iadd rfl ?_
                                                    by_cases hb283 : pa_in (z3 + 1) L = true
                                                    case neg => rw [if_neg hb283] at e; cases e
                                                    rw [if_pos hb283] at e
                                                    refine gs_iald rfl (gd_ia (j := (z3 + 1).toNatClampNeg) rfl hb283 rfl) ?_
                                                    refine gs_aload_n rfl rfl ?_
                                                    refine gs_iload_n rfl rfl ?_
                                                    refine gs_iconst (x := 2) rfl (by decide) ?_
                                                    refine gs_iadd rfl ?_
                                                    by_cases hb284 : pa_in (z3 + 2) L = true
                                                    case neg => rw [if_neg hb284] at e; cases e
                                                    rw [if_pos hb284] at e
                                                    refine gs_iald rfl (gd_ia (j := (z3 + 2).toNatClampNeg) rfl hb284 rfl) ?_
                                                    obtain ⟨r285, f286, ec287, e⟩ := ob2_some e
                                                    refine gs_callvI (st := [.int r280]) rfl (pr_C_le (by decide) (th_X9_as L (f281 0 (z3 + 1).toNatClampNeg) (f281 0 (z3 + 2).toNatClampNeg) f281 r285 f286 ec287)) rfl rfl rfl (by decide) rfl (Or.inr (by decide)) ?_
                                                    refine gs_eq2 rfl (fun c288 => ?_) (fun c288 => ?_)
                                                    · rw [if_pos c288] at e
                                                      obtain ⟨x289, hx289, e⟩ := pn_some e
                                                      refine gs_iinc1 (x1 := x289) (c := 7) (lv' := [(3, .int x289), (0, .ref 0), (1, .ref 17), (2, .ref 110)]) rfl rfl (by decide) hx289 rfl ?_
                                                      refine gs_goto rfl ?_
                                                      refine gs_drop [1, 2, 3, 0] rfl ?_
                                                      exact (ih x289 f286 _ e).1 _ rfl
                                                    · rw [if_neg c288] at e
                                                      refine gs_iconst (x := 0) rfl (by decide) ?_
                                                      obtain rfl := injl e
                                                      exact gs_iret rfl rfl (by decide) rfl rfl
                                                  · rw [if_neg c277] at e
                                                    by_cases c290 : ((f 0 z3.toNatClampNeg) &&& 31) = 22
                                                    · rw [if_pos c290] at e
                                                      refine gs_switch (t := 980) rfl (by rw [c290]; decide) ?_
                                                      refine gs_aload_n rfl rfl ?_
                                                      refine gs_aload_n rfl rfl ?_
                                                      refine gs_iload_n rfl rfl ?_
                                                      refine gs_iconst (x := 1) rfl (by decide) ?_
                                                      refine gs_iadd rfl ?_
                                                      by_cases hb291 : pa_in (z3 + 1) L = true
                                                      case neg => rw [if_neg hb291] at e; cases e
                                                      rw [if_pos hb291] at e
                                                      refine gs_iald rfl (gd_ia (j := (z3 + 1).toNatClampNeg) rfl hb291 rfl) ?_
                                                      refine gs_aload_n rfl rfl ?_
                                                      refine gs_iload_n rfl rfl ?_
                                                      refine gs_iconst (x := 2) rfl (by decide) ?_
                                                      refine gs_iadd rfl ?_
                                                      by_cases hb292 : pa_in (z3 + 2) L = true
                                                      case neg => rw [if_neg hb292] at e; cases e
                                                      rw [if_pos hb292] at e
                                                      refine gs_iald rfl (gd_ia (j := (z3 + 2).toNatClampNeg) rfl hb292 rfl) ?_
                                                      obtain ⟨r293, f294, ec295, e⟩ := ob2_some e
                                                      refine gs_callvI (st := []) rfl (pr_C_le (by decide) (th_X8_ask L (f 0 (z3 + 1).toNatClampNeg) (f 0 (z3 + 2).toNatClampNeg) f r293 f294 ec295)) rfl rfl rfl (by decide) rfl (Or.inr (by decide)) ?_
                                                      refine gs_aload_n rfl rfl ?_
                                                      refine gs_aload_n rfl rfl ?_
                                                      refine gs_iload_n rfl rfl ?_
                                                      refine gs_iconst (x := 1) rfl (by decide) ?_
                                                      refine gs_iadd rfl ?_
                                                      by_cases hb296 : pa_in (z3 + 1) L = true
                                                      case neg => rw [if_neg hb296] at e; cases e
                                                      rw [if_pos hb296] at e
                                                      refine gs_iald rfl (gd_ia (j := (z3 + 1).toNatClampNeg) rfl hb296 rfl) ?_
                                                      refine gs_aload_n rfl rfl ?_
                                                      refine gs_iload_n rfl rfl ?_
                                                      refine gs_iconst (x := 2) rfl (by decide) ?_
                                                      refine gs_iadd rfl ?_
                                                      by_cases hb297 : pa_in (z3 + 2) L = true
                                                      case neg => rw [if_neg hb297] at e; cases e
                                                      rw [if_pos hb297] at e
                                                      refine gs_iald rfl (gd_ia (j := (z3 + 2).toNatClampNeg) rfl hb297 rfl) ?_
                                                      obtain ⟨r298, f299, ec300, e⟩ := ob2_some e
                                                      refine gs_callvI (st := [.int r293]) rfl (pr_C_le (by decide) (th_X9_ask L (f294 0 (z3 + 1).toNatClampNeg) (f294 0 (z3 + 2).toNatClampNeg) f294 r298 f299 ec300)) rfl rfl rfl (by decide) rfl (Or.inr (by decide)) ?_
                                                      refine gs_eq2 rfl (fun c301 => ?_) (fun c301 => ?_)
                                                      · rw [if_pos c301] at e
                                                        obtain ⟨x302, hx302, e⟩ := pn_some e
                                                        refine gs_iinc1 (x1 := x302) (c := 7) (lv' := [(3, .int x302), (0, .ref 0), (1, .ref 17), (2, .ref 110)]) rfl rfl (by decide) hx302 rfl ?_
                                                        refine gs_goto rfl ?_
                                                        refine gs_drop [1, 2, 3, 0] rfl ?_
                                                        exact (ih x302 f299 _ e).1 _ rfl
                                                      · rw [if_neg c301] at e
                                                        refine gs_iconst (x := 0) rfl (by decide) ?_
                                                        obtain rfl := injl e
                                                        exact gs_iret rfl rfl (by decide) rfl rfl
                                                    · rw [if_neg c290] at e
                                                      by_cases c303 : ((f 0 z3.toNatClampNeg) &&& 31) = 23
                                                      · rw [if_pos c303] at e
                                                        refine gs_switch (t := 1013) rfl (by rw [c303]; decide) ?_
                                                        refine gs_aload_n rfl rfl ?_
                                                        refine gs_aload_n rfl rfl ?_
                                                        refine gs_iload_n rfl rfl ?_
                                                        refine gs_iconst (x := 1) rfl (by decide) ?_
                                                        refine gs_iadd rfl ?_
                                                        by_cases hb304 : pa_in (z3 + 1) L = true
                                                        case neg => rw [if_neg hb304] at e; cases e
                                                        rw [if_pos hb304] at e
                                                        refine gs_iald rfl (gd_ia (j := (z3 + 1).toNatClampNeg) rfl hb304 rfl) ?_
                                                        obtain ⟨r305, ec306, e⟩ := ob1_some e
                                                        refine gs_callvI (st := []) rfl (pr_C_le (by decide) (th_X8_trace L (f 0 (z3 + 1).toNatClampNeg) f r305 ec306)) rfl rfl rfl (by decide) rfl (Or.inr (by decide)) ?_
                                                        refine gs_aload_n rfl rfl ?_
                                                        refine gs_aload_n rfl rfl ?_
                                                        refine gs_iload_n rfl rfl ?_
                                                        refine gs_iconst (x := 1) rfl (by decide) ?_
                                                        refine gs_iadd rfl ?_
                                                        by_cases hb307 : pa_in (z3 + 1) L = true
                                                        case neg => rw [if_neg hb307] at e; cases e
                                                        rw [if_pos hb307] at e
                                                        refine gs_iald rfl (gd_ia (j := (z3 + 1).toNatClampNeg) rfl hb307 rfl) ?_
                                                        obtain ⟨r308, f309, ec310, e⟩ := ob2_some e
                                                        refine gs_callvI (st := [.int r305]) rfl (pr_C_le (by decide) (th_X9_trace L (f 0 (z3 + 1).toNatClampNeg) f r308 f309 ec310)) rfl rfl rfl (by decide) rfl (Or.inr (by decide)) ?_
                                                        refine gs_eq2 rfl (fun c311 => ?_) (fun c311 => ?_)
                                                        · rw [if_pos c311] at e
                                                          obtain ⟨x312, hx312, e⟩ := pn_some e
                                                          refine gs_iinc1 (x1 := x312) (c := 7) (lv' := [(3, .int x312), (0, .ref 0), (1, .ref 17), (2, .ref 110)]) rfl rfl (by decide) hx312 rfl ?_
                                                          refine gs_goto rfl ?_
                                                          refine gs_drop [1, 2, 3, 0] rfl ?_
                                                          exact (ih x312 f309 _ e).1 _ rfl
                                                        · rw [if_neg c311] at e
                                                          refine gs_iconst (x := 0) rfl (by decide) ?_
                                                          obtain rfl := injl e
                                                          exact gs_iret rfl rfl (by decide) rfl rfl
                                                      · rw [if_neg c303] at e
                                                        by_cases c313 : ((f 0 z3.toNatClampNeg) &&& 31) = 24
                                                        · rw [if_pos c313] at e
                                                          refine gs_switch (t := 1036) rfl (by rw [c313]; decide) ?_
                                                          refine gs_aload_n rfl rfl ?_
                                                          refine gs_aload_n rfl rfl ?_
                                                          refine gs_iload_n rfl rfl ?_
                                                          refine gs_iconst (x := 1) rfl (by decide) ?_
                                                          refine gs_iadd rfl ?_
                                                          by_cases hb314 : pa_in (z3 + 1) L = true
                                                          case neg => rw [if_neg hb314] at e; cases e
                                                          rw [if_pos hb314] at e
                                                          refine gs_iald rfl (gd_ia (j := (z3 + 1).toNatClampNeg) rfl hb314 rfl) ?_
                                                          obtain ⟨r315, ec316, e⟩ := ob1_some e
                                                          refine gs_callvI (st := []) rfl (pr_C_le (by decide) (th_X8_count L (f 0 (z3 + 1).toNatClampNeg) f r315 ec316)) rfl rfl rfl (by decide) rfl (Or.inr (by decide)) ?_
                                                          refine gs_aload_n rfl rfl ?_
                                                          refine gs_aload_n rfl rfl ?_
                                                          refine gs_iload_n rfl rfl ?_
                                                          refine gs_iconst (x := 1) rfl (by decide) ?_
                                                          refine gs_iadd rfl ?_
                                                          by_cases hb317 : pa_in (z3 + 1) L = true
                                                          case neg => rw [if_neg hb317] at e; cases e
                                                          rw [if_pos hb317] at e
                                                          refine gs_iald rfl (gd_ia (j := (z3 + 1).toNatClampNeg) rfl hb317 rfl) ?_
                                                          obtain ⟨r318, f319, ec320, e⟩ := ob2_some e
                                                          refine gs_callvI (st := [.int r315]) rfl (pr_C_le (by decide) (th_X9_count L (f 0 (z3 + 1).toNatClampNeg) f r318 f319 ec320)) rfl rfl rfl (by decide) rfl (Or.inr (by decide)) ?_
                                                          refine gs_eq2 rfl (fun c321 => ?_) (fun c321 => ?_)
                                                          · rw [if_pos c321] at e
                                                            obtain ⟨x322, hx322, e⟩ := pn_some e
                                                            refine gs_iinc1 (x1 := x322) (c := 7) (lv' := [(3, .int x322), (0, .ref 0), (1, .ref 17), (2, .ref 110)]) rfl rfl (by decide) hx322 rfl ?_
                                                            refine gs_goto rfl ?_
                                                            refine gs_drop [1, 2, 3, 0] rfl ?_
                                                            exact (ih x322 f319 _ e).1 _ rfl
                                                          · rw [if_neg c321] at e
                                                            refine gs_iconst (x := 0) rfl (by decide) ?_
                                                            obtain rfl := injl e
                                                            exact gs_iret rfl rfl (by decide) rfl rfl
                                                        · rw [if_neg c313] at e
                                                          by_cases c323 : ((f 0 z3.toNatClampNeg) &&& 31) = 25
                                                          · rw [if_pos c323] at e
                                                            refine gs_switch (t := 1059) rfl (by rw [c323]; decide) ?_
                                                            refine gs_aload_n rfl rfl ?_
                                                            refine gs_callvI (st := []) rfl (pr_C_le (by decide) (th_X8_status L f _ rfl)) rfl rfl rfl (by decide) rfl (Or.inr (by decide)) ?_
                                                            refine gs_aload_n rfl rfl ?_
                                                            obtain ⟨r324, f325, ec326, e⟩ := ob2_some e
                                                            refine gs_callvI (st := [.int (fn_X8_status f)]) rfl (pr_C_le (by decide) (th_X9_status L f r324 f325 ec326)) rfl rfl rfl (by decide) rfl (Or.inr (by decide)) ?_
                                                            refine gs_eq2 rfl (fun c327 => ?_) (fun c327 => ?_)
                                                            · rw [if_pos c327] at e
                                                              obtain ⟨x328, hx328, e⟩ := pn_some e
                                                              refine gs_iinc1 (x1 := x328) (c := 7) (lv' := [(3, .int x328), (0, .ref 0), (1, .ref 17), (2, .ref 110)]) rfl rfl (by decide) hx328 rfl ?_
                                                              refine gs_goto rfl ?_
                                                              refine gs_drop [1, 2, 3, 0] rfl ?_
                                                              exact (ih x328 f325 _ e).1 _ rfl
                                                            · rw [if_neg c327] at e
                                                              refine gs_iconst (x := 0) rfl (by decide) ?_
                                                              obtain rfl := injl e
                                                              exact gs_iret rfl rfl (by decide) rfl rfl
                                                          · rw [if_neg c323] at e
                                                            refine gs_switch (t := 1072) rfl (sw_out (lo := 0) (hi := 25) (by decide) (fun k hk => by
                                                              rcases (by omega : k = 0 ∨ k = 1 ∨ k = 2 ∨ k = 3 ∨ k = 4 ∨ k = 5 ∨ k = 6 ∨ k = 7 ∨ k = 8 ∨ k = 9 ∨ k = 10 ∨ k = 11 ∨ k = 12 ∨ k = 13 ∨ k = 14 ∨ k = 15 ∨ k = 16 ∨ k = 17 ∨ k = 18 ∨ k = 19 ∨ k = 20 ∨ k = 21 ∨ k = 22 ∨ k = 23 ∨ k = 24 ∨ k = 25) with rfl | rfl | rfl | rfl | rfl | rfl | rfl | rfl | rfl | rfl | rfl | rfl | rfl | rfl | rfl | rfl | rfl | rfl | rfl | rfl | rfl | rfl | rfl | rfl | rfl | rfl
                                                              · exact fun z => c3 (z.trans (by decide))
                                                              · exact fun z => c18 (z.trans (by decide))
                                                              · exact fun z => c33 (z.trans (by decide))
                                                              · exact fun z => c52 (z.trans (by decide))
                                                              · exact fun z => c63 (z.trans (by decide))
                                                              · exact fun z => c78 (z.trans (by decide))
                                                              · exact fun z => c87 (z.trans (by decide))
                                                              · exact fun z => c93 (z.trans (by decide))
                                                              · exact fun z => c103 (z.trans (by decide))
                                                              · exact fun z => c121 (z.trans (by decide))
                                                              · exact fun z => c133 (z.trans (by decide))
                                                              · exact fun z => c147 (z.trans (by decide))
                                                              · exact fun z => c167 (z.trans (by decide))
                                                              · exact fun z => c184 (z.trans (by decide))
                                                              · exact fun z => c196 (z.trans (by decide))
                                                              · exact fun z => c206 (z.trans (by decide))
                                                              · exact fun z => c220 (z.trans (by decide))
                                                              · exact fun z => c230 (z.trans (by decide))
                                                              · exact fun z => c242 (z.trans (by decide))
                                                              · exact fun z => c257 (z.trans (by decide))
                                                              · exact fun z => c267 (z.trans (by decide))
                                                              · exact fun z => c277 (z.trans (by decide))
                                                              · exact fun z => c290 (z.trans (by decide))
                                                              · exact fun z => c303 (z.trans (by decide))
                                                              · exact fun z => c313 (z.trans (by decide))
                                                              · exact fun z => c323 (z.trans (by decide))) (by decide)) ?_
                                                            obtain ⟨x329, hx329, e⟩ := pn_some e
                                                            refine gs_iinc1 (x1 := x329) (c := 7) (lv' := [(3, .int x329), (0, .ref 0), (1, .ref 17), (2, .ref 110)]) rfl rfl (by decide) hx329 rfl ?_
                                                            refine gs_goto rfl ?_
                                                            refine gs_drop [1, 2, 3, 0] rfl ?_
                                                            exact (ih x329 f _ e).1 _ rfl
    · subst hq
      unfold lp_law at e
      refine gs_iload_n rfl rfl ?_
      refine gs_aload_n rfl rfl ?_
      refine gs_alen rfl (gd_len (x := (Int32.ofNat L)) rfl rfl (by rfl)) ?_
      refine gs_bipush (x := 7) rfl (by decide) ?_
      refine gs_isub rfl ?_
      refine gs_gt2 rfl (fun c1 => ?_) (fun c1 => ?_)
      · rw [if_pos c1] at e
        obtain rfl := injr1 e
        refine gs_drop [] rfl ?_
        exact K
      · rw [if_neg c1] at e
        refine gs_aload_n rfl rfl ?_
        refine gs_iload_n rfl rfl ?_
        by_cases hb2 : pa_in z3 L = true
        case neg => rw [if_neg hb2] at e; cases e
        rw [if_pos hb2] at e
        refine gs_iald rfl (gd_ia (j := z3.toNatClampNeg) rfl hb2 rfl) ?_
        refine gs_bipush (x := 31) rfl (by decide) ?_
        refine gs_iand rfl ?_
        by_cases c3 : ((f 0 z3.toNatClampNeg) &&& 31) = 0
        · rw [if_pos c3] at e
          refine gs_switch (t := 152) rfl (by rw [c3]; decide) ?_
          refine gs_aload_n rfl rfl ?_
          refine gs_aload_n rfl rfl ?_
          refine gs_iload_n rfl rfl ?_
          refine gs_iconst (x := 1) rfl (by decide) ?_
          refine gs_iadd rfl ?_
          by_cases hb4 : pa_in (z3 + 1) L = true
          case neg => rw [if_neg hb4] at e; cases e
          rw [if_pos hb4] at e
          refine gs_iald rfl (gd_ia (j := (z3 + 1).toNatClampNeg) rfl hb4 rfl) ?_
          refine gs_aload_n rfl rfl ?_
          refine gs_iload_n rfl rfl ?_
          refine gs_iconst (x := 2) rfl (by decide) ?_
          refine gs_iadd rfl ?_
          by_cases hb5 : pa_in (z3 + 2) L = true
          case neg => rw [if_neg hb5] at e; cases e
          rw [if_pos hb5] at e
          refine gs_iald rfl (gd_ia (j := (z3 + 2).toNatClampNeg) rfl hb5 rfl) ?_
          refine gs_aload_n rfl rfl ?_
          refine gs_iload_n rfl rfl ?_
          refine gs_iconst (x := 3) rfl (by decide) ?_
          refine gs_iadd rfl ?_
          by_cases hb6 : pa_in (z3 + 3) L = true
          case neg => rw [if_neg hb6] at e; cases e
          rw [if_pos hb6] at e
          refine gs_iald rfl (gd_ia (j := (z3 + 3).toNatClampNeg) rfl hb6 rfl) ?_
          obtain ⟨r7, f8, ec9, e⟩ := ob2_some e
          refine gs_callvI (st := []) rfl (pr_C_le (by decide) (th_X8_sheet L (f 0 (z3 + 1).toNatClampNeg) (f 0 (z3 + 2).toNatClampNeg) (f 0 (z3 + 3).toNatClampNeg) f r7 f8 ec9)) rfl rfl rfl (by decide) rfl (Or.inr (by decide)) ?_
          refine gs_aload_n rfl rfl ?_
          refine gs_aload_n rfl rfl ?_
          refine gs_iload_n rfl rfl ?_
          refine gs_iconst (x := 1) rfl (by decide) ?_
          refine gs_iadd rfl ?_
          by_cases hb10 : pa_in (z3 + 1) L = true
          case neg => rw [if_neg hb10] at e; cases e
          rw [if_pos hb10] at e
          refine gs_iald rfl (gd_ia (j := (z3 + 1).toNatClampNeg) rfl hb10 rfl) ?_
          refine gs_aload_n rfl rfl ?_
          refine gs_iload_n rfl rfl ?_
          refine gs_iconst (x := 2) rfl (by decide) ?_
          refine gs_iadd rfl ?_
          by_cases hb11 : pa_in (z3 + 2) L = true
          case neg => rw [if_neg hb11] at e; cases e
          rw [if_pos hb11] at e
          refine gs_iald rfl (gd_ia (j := (z3 + 2).toNatClampNeg) rfl hb11 rfl) ?_
          refine gs_aload_n rfl rfl ?_
          refine gs_iload_n rfl rfl ?_
          refine gs_iconst (x := 3) rfl (by decide) ?_
          refine gs_iadd rfl ?_
          by_cases hb12 : pa_in (z3 + 3) L = true
          case neg => rw [if_neg hb12] at e; cases e
          rw [if_pos hb12] at e
          refine gs_iald rfl (gd_ia (j := (z3 + 3).toNatClampNeg) rfl hb12 rfl) ?_
          obtain ⟨r13, f14, ec15, e⟩ := ob2_some e
          refine gs_callvI (st := [.int r7]) rfl (pr_C_le (by decide) (th_X9_sheet L (f8 0 (z3 + 1).toNatClampNeg) (f8 0 (z3 + 2).toNatClampNeg) (f8 0 (z3 + 3).toNatClampNeg) f8 r13 f14 ec15)) rfl rfl rfl (by decide) rfl (Or.inr (by decide)) ?_
          refine gs_eq2 rfl (fun c16 => ?_) (fun c16 => ?_)
          · rw [if_pos c16] at e
            obtain ⟨x17, hx17, e⟩ := pn_some e
            refine gs_iinc1 (x1 := x17) (c := 7) (lv' := [(3, .int x17), (0, .ref 0), (1, .ref 17), (2, .ref 110)]) rfl rfl (by decide) hx17 rfl ?_
            refine gs_goto rfl ?_
            refine gs_drop [1, 2, 3, 0] rfl ?_
            exact (ih x17 f14 _ e).2 w0 rfl _ _ K
          · rw [if_neg c16] at e
            refine gs_iconst (x := 0) rfl (by decide) ?_
            cases e
        · rw [if_neg c3] at e
          by_cases c18 : ((f 0 z3.toNatClampNeg) &&& 31) = 1
          · rw [if_pos c18] at e
            refine gs_switch (t := 195) rfl (by rw [c18]; decide) ?_
            refine gs_aload_n rfl rfl ?_
            refine gs_aload_n rfl rfl ?_
            refine gs_iload_n rfl rfl ?_
            refine gs_iconst (x := 1) rfl (by decide) ?_
            refine gs_iadd rfl ?_
            by_cases hb19 : pa_in (z3 + 1) L = true
            case neg => rw [if_neg hb19] at e; cases e
            rw [if_pos hb19] at e
            refine gs_iald rfl (gd_ia (j := (z3 + 1).toNatClampNeg) rfl hb19 rfl) ?_
            refine gs_aload_n rfl rfl ?_
            refine gs_iload_n rfl rfl ?_
            refine gs_iconst (x := 2) rfl (by decide) ?_
            refine gs_iadd rfl ?_
            by_cases hb20 : pa_in (z3 + 2) L = true
            case neg => rw [if_neg hb20] at e; cases e
            rw [if_pos hb20] at e
            refine gs_iald rfl (gd_ia (j := (z3 + 2).toNatClampNeg) rfl hb20 rfl) ?_
            refine gs_aload_n rfl rfl ?_
            refine gs_iload_n rfl rfl ?_
            refine gs_iconst (x := 3) rfl (by decide) ?_
            refine gs_iadd rfl ?_
            by_cases hb21 : pa_in (z3 + 3) L = true
            case neg => rw [if_neg hb21] at e; cases e
            rw [if_pos hb21] at e
            refine gs_iald rfl (gd_ia (j := (z3 + 3).toNatClampNeg) rfl hb21 rfl) ?_
            obtain ⟨r22, f23, ec24, e⟩ := ob2_some e
            refine gs_callvI (st := []) rfl (pr_C_le (by decide) (th_X8_set L (f 0 (z3 + 1).toNatClampNeg) (f 0 (z3 + 2).toNatClampNeg) (f 0 (z3 + 3).toNatClampNeg) f r22 f23 ec24)) rfl rfl rfl (by decide) rfl (Or.inr (by decide)) ?_
            refine gs_aload_n rfl rfl ?_
            refine gs_aload_n rfl rfl ?_
            refine gs_iload_n rfl rfl ?_
            refine gs_iconst (x := 1) rfl (by decide) ?_
            refine gs_iadd rfl ?_
            by_cases hb25 : pa_in (z3 + 1) L = true
            case neg => rw [if_neg hb25] at e; cases e
            rw [if_pos hb25] at e
            refine gs_iald rfl (gd_ia (j := (z3 + 1).toNatClampNeg) rfl hb25 rfl) ?_
            refine gs_aload_n rfl rfl ?_
            refine gs_iload_n rfl rfl ?_
            refine gs_iconst (x := 2) rfl (by decide) ?_
            refine gs_iadd rfl ?_
            by_cases hb26 : pa_in (z3 + 2) L = true
            case neg => rw [if_neg hb26] at e; cases e
            rw [if_pos hb26] at e
            refine gs_iald rfl (gd_ia (j := (z3 + 2).toNatClampNeg) rfl hb26 rfl) ?_
            refine gs_aload_n rfl rfl ?_
            refine gs_iload_n rfl rfl ?_
            refine gs_iconst (x := 3) rfl (by decide) ?_
            refine gs_iadd rfl ?_
            by_cases hb27 : pa_in (z3 + 3) L = true
            case neg => rw [if_neg hb27] at e; cases e
            rw [if_pos hb27] at e
            refine gs_iald rfl (gd_ia (j := (z3 + 3).toNatClampNeg) rfl hb27 rfl) ?_
            obtain ⟨r28, f29, ec30, e⟩ := ob2_some e
            refine gs_callvI (st := [.int r22]) rfl (pr_C_le (by decide) (th_X9_set L (f23 0 (z3 + 1).toNatClampNeg) (f23 0 (z3 + 2).toNatClampNeg) (f23 0 (z3 + 3).toNatClampNeg) f23 r28 f29 ec30)) rfl rfl rfl (by decide) rfl (Or.inr (by decide)) ?_
            refine gs_eq2 rfl (fun c31 => ?_) (fun c31 => ?_)
            · rw [if_pos c31] at e
              obtain ⟨x32, hx32, e⟩ := pn_some e
              refine gs_iinc1 (x1 := x32) (c := 7) (lv' := [(3, .int x32), (0, .ref 0), (1, .ref 17), (2, .ref 110)]) rfl rfl (by decide) hx32 rfl ?_
              refine gs_goto rfl ?_
              refine gs_drop [1, 2, 3, 0] rfl ?_
              exact (ih x32 f29 _ e).2 w0 rfl _ _ K
            · rw [if_neg c31] at e
              refine gs_iconst (x := 0) rfl (by decide) ?_
              cases e
          · rw [if_neg c18] at e
            by_cases c33 : ((f 0 z3.toNatClampNeg) &&& 31) = 2
            · rw [if_pos c33] at e
              refine gs_switch (t := 238) rfl (by rw [c33]; decide) ?_
              refine gs_aload_n rfl rfl ?_
              refine gs_aload_n rfl rfl ?_
              refine gs_iload_n rfl rfl ?_
              refine gs_iconst (x := 1) rfl (by decide) ?_
              refine gs_iadd rfl ?_
              by_cases hb34 : pa_in (z3 + 1) L = true
              case neg => rw [if_neg hb34] at e; cases e
              rw [if_pos hb34] at e
              refine gs_iald rfl (gd_ia (j := (z3 + 1).toNatClampNeg) rfl hb34 rfl) ?_
              refine gs_aload_n rfl rfl ?_
              refine gs_iload_n rfl rfl ?_
              refine gs_iconst (x := 2) rfl (by decide) ?_
              refine gs_iadd rfl ?_
              by_cases hb35 : pa_in (z3 + 2) L = true
              case neg => rw [if_neg hb35] at e; cases e
              rw [if_pos hb35] at e
              refine gs_iald rfl (gd_ia (j := (z3 + 2).toNatClampNeg) rfl hb35 rfl) ?_
              refine gs_aload_n rfl rfl ?_
              refine gs_iload_n rfl rfl ?_
              refine gs_iconst (x := 3) rfl (by decide) ?_
              refine gs_iadd rfl ?_
              by_cases hb36 : pa_in (z3 + 3) L = true
              case neg => rw [if_neg hb36] at e; cases e
              rw [if_pos hb36] at e
              refine gs_iald rfl (gd_ia (j := (z3 + 3).toNatClampNeg) rfl hb36 rfl) ?_
              refine gs_aload_n rfl rfl ?_
              refine gs_iload_n rfl rfl ?_
              refine gs_iconst (x := 4) rfl (by decide) ?_
              refine gs_iadd rfl ?_
              by_cases hb37 : pa_in (z3 + 4) L = true
              case neg => rw [if_neg hb37] at e; cases e
              rw [if_pos hb37] at e
              refine gs_iald rfl (gd_ia (j := (z3 + 4).toNatClampNeg) rfl hb37 rfl) ?_
              refine gs_aload_n rfl rfl ?_
              refine gs_iload_n rfl rfl ?_
              refine gs_iconst (x := 5) rfl (by decide) ?_
              refine gs_iadd rfl ?_
              by_cases hb38 : pa_in (z3 + 5) L = true
              case neg => rw [if_neg hb38] at e; cases e
              rw [if_pos hb38] at e
              refine gs_iald rfl (gd_ia (j := (z3 + 5).toNatClampNeg) rfl hb38 rfl) ?_
              obtain ⟨r39, f40, ec41, e⟩ := ob2_some e
              refine gs_callvI (st := []) rfl (pr_C_le (by decide) (th_X8_copy L (f 0 (z3 + 1).toNatClampNeg) (f 0 (z3 + 2).toNatClampNeg) (f 0 (z3 + 3).toNatClampNeg) (f 0 (z3 + 4).toNatClampNeg) (f 0 (z3 + 5).toNatClampNeg) f r39 f40 ec41)) rfl rfl rfl (by decide) rfl (Or.inr (by decide)) ?_
              refine gs_aload_n rfl rfl ?_
              refine gs_aload_n rfl rfl ?_
              refine gs_iload_n rfl rfl ?_
              refine gs_iconst (x := 1) rfl (by decide) ?_
              refine gs_iadd rfl ?_
              by_cases hb42 : pa_in (z3 + 1) L = true
              case neg => rw [if_neg hb42] at e; cases e
              rw [if_pos hb42] at e
              refine gs_iald rfl (gd_ia (j := (z3 + 1).toNatClampNeg) rfl hb42 rfl) ?_
              refine gs_aload_n rfl rfl ?_
              refine gs_iload_n rfl rfl ?_
              refine gs_iconst (x := 2) rfl (by decide) ?_
              refine gs_iadd rfl ?_
              by_cases hb43 : pa_in (z3 + 2) L = true
              case neg => rw [if_neg hb43] at e; cases e
              rw [if_pos hb43] at e
              refine gs_iald rfl (gd_ia (j := (z3 + 2).toNatClampNeg) rfl hb43 rfl) ?_
              refine gs_aload_n rfl rfl ?_
              refine gs_iload_n rfl rfl ?_
              refine gs_iconst (x := 3) rfl (by decide) ?_
              refine gs_iadd rfl ?_
              by_cases hb44 : pa_in (z3 + 3) L = true
              case neg => rw [if_neg hb44] at e; cases e
              rw [if_pos hb44] at e
              refine gs_iald rfl (gd_ia (j := (z3 + 3).toNatClampNeg) rfl hb44 rfl) ?_
              refine gs_aload_n rfl rfl ?_
              refine gs_iload_n rfl rfl ?_
              refine gs_iconst (x := 4) rfl (by decide) ?_
              refine gs_iadd rfl ?_
              by_cases hb45 : pa_in (z3 + 4) L = true
              case neg => rw [if_neg hb45] at e; cases e
              rw [if_pos hb45] at e
              refine gs_iald rfl (gd_ia (j := (z3 + 4).toNatClampNeg) rfl hb45 rfl) ?_
              refine gs_aload_n rfl rfl ?_
              refine gs_iload_n rfl rfl ?_
              refine gs_iconst (x := 5) rfl (by decide) ?_
              refine gs_iadd rfl ?_
              by_cases hb46 : pa_in (z3 + 5) L = true
              case neg => rw [if_neg hb46] at e; cases e
              rw [if_pos hb46] at e
              refine gs_iald rfl (gd_ia (j := (z3 + 5).toNatClampNeg) rfl hb46 rfl) ?_
              obtain ⟨r47, f48, ec49, e⟩ := ob2_some e
              refine gs_callvI (st := [.int r39]) rfl (pr_C_le (by decide) (th_X9_copy L (f40 0 (z3 + 1).toNatClampNeg) (f40 0 (z3 + 2).toNatClampNeg) (f40 0 (z3 + 3).toNatClampNeg) (f40 0 (z3 + 4).toNatClampNeg) (f40 0 (z3 + 5).toNatClampNeg) f40 r47 f48 ec49)) rfl rfl rfl (by decide) rfl (Or.inr (by decide)) ?_
              refine gs_eq2 rfl (fun c50 => ?_) (fun c50 => ?_)
              · rw [if_pos c50] at e
                obtain ⟨x51, hx51, e⟩ := pn_some e
                refine gs_iinc1 (x1 := x51) (c := 7) (lv' := [(3, .int x51), (0, .ref 0), (1, .ref 17), (2, .ref 110)]) rfl rfl (by decide) hx51 rfl ?_
                refine gs_goto rfl ?_
                refine gs_drop [1, 2, 3, 0] rfl ?_
                exact (ih x51 f48 _ e).2 w0 rfl _ _ K
              · rw [if_neg c50] at e
                refine gs_iconst (x := 0) rfl (by decide) ?_
                cases e
            · rw [if_neg c33] at e
              by_cases c52 : ((f 0 z3.toNatClampNeg) &&& 31) = 3
              · rw [if_pos c52] at e
                refine gs_switch (t := 301) rfl (by rw [c52]; decide) ?_
                refine gs_aload_n rfl rfl ?_
                refine gs_aload_n rfl rfl ?_
                refine gs_iload_n rfl rfl ?_
                refine gs_iconst (x := 1) rfl (by decide) ?_
                refine gs_iadd rfl ?_
                by_cases hb53 : pa_in (z3 + 1) L = true
                case neg => rw [if_neg hb53] at e; cases e
                rw [if_pos hb53] at e
                refine gs_iald rfl (gd_ia (j := (z3 + 1).toNatClampNeg) rfl hb53 rfl) ?_
                obtain ⟨r54, f55, ec56, e⟩ := ob2_some e
                refine gs_callvI (st := []) rfl (pr_C_le (by decide) (th_X8_drop L (f 0 (z3 + 1).toNatClampNeg) f r54 f55 ec56)) rfl rfl rfl (by decide) rfl (Or.inr (by decide)) ?_
                refine gs_aload_n rfl rfl ?_
                refine gs_aload_n rfl rfl ?_
                refine gs_iload_n rfl rfl ?_
                refine gs_iconst (x := 1) rfl (by decide) ?_
                refine gs_iadd rfl ?_
                by_cases hb57 : pa_in (z3 + 1) L = true
                case neg => rw [if_neg hb57] at e; cases e
                rw [if_pos hb57] at e
                refine gs_iald rfl (gd_ia (j := (z3 + 1).toNatClampNeg) rfl hb57 rfl) ?_
                obtain ⟨r58, f59, ec60, e⟩ := ob2_some e
                refine gs_callvI (st := [.int r54]) rfl (pr_C_le (by decide) (th_X9_drop L (f55 0 (z3 + 1).toNatClampNeg) f55 r58 f59 ec60)) rfl rfl rfl (by decide) rfl (Or.inr (by decide)) ?_
                refine gs_eq2 rfl (fun c61 => ?_) (fun c61 => ?_)
                · rw [if_pos c61] at e
                  obtain ⟨x62, hx62, e⟩ := pn_some e
                  refine gs_iinc1 (x1 := x62) (c := 7) (lv' := [(3, .int x62), (0, .ref 0), (1, .ref 17), (2, .ref 110)]) rfl rfl (by decide) hx62 rfl ?_
                  refine gs_goto rfl ?_
                  refine gs_drop [1, 2, 3, 0] rfl ?_
                  exact (ih x62 f59 _ e).2 w0 rfl _ _ K
                · rw [if_neg c61] at e
                  refine gs_iconst (x := 0) rfl (by decide) ?_
                  cases e
              · rw [if_neg c52] at e
                by_cases c63 : ((f 0 z3.toNatClampNeg) &&& 31) = 4
                · rw [if_pos c63] at e
                  refine gs_switch (t := 324) rfl (by rw [c63]; decide) ?_
                  refine gs_aload_n rfl rfl ?_
                  refine gs_aload_n rfl rfl ?_
                  refine gs_iload_n rfl rfl ?_
                  refine gs_iconst (x := 1) rfl (by decide) ?_
                  refine gs_iadd rfl ?_
                  by_cases hb64 : pa_in (z3 + 1) L = true
                  case neg => rw [if_neg hb64] at e; cases e
                  rw [if_pos hb64] at e
                  refine gs_iald rfl (gd_ia (j := (z3 + 1).toNatClampNeg) rfl hb64 rfl) ?_
                  refine gs_i2l rfl ?_
                  refine gs_bipush (x := 32) rfl (by decide) ?_
                  refine gs_lshl rfl ?_
                  refine gs_aload_n rfl rfl ?_
                  refine gs_iload_n rfl rfl ?_
                  refine gs_iconst (x := 2) rfl (by decide) ?_
                  refine gs_iadd rfl ?_
                  by_cases hb65 : pa_in (z3 + 2) L = true
                  case neg => rw [if_neg hb65] at e; cases e
                  rw [if_pos hb65] at e
                  refine gs_iald rfl (gd_ia (j := (z3 + 2).toNatClampNeg) rfl hb65 rfl) ?_
                  refine gs_i2l rfl ?_
                  refine gs_ldc2 (w := 4294967295) rfl (by decide) ?_
                  refine gs_land rfl ?_
                  refine gs_lor rfl ?_
                  refine gs_aload_n rfl rfl ?_
                  refine gs_iload_n rfl rfl ?_
                  refine gs_iconst (x := 3) rfl (by decide) ?_
                  refine gs_iadd rfl ?_
                  by_cases hb66 : pa_in (z3 + 3) L = true
                  case neg => rw [if_neg hb66] at e; cases e
                  rw [if_pos hb66] at e
                  refine gs_iald rfl (gd_ia (j := (z3 + 3).toNatClampNeg) rfl hb66 rfl) ?_
                  obtain ⟨r67, f68, ec69, e⟩ := ob2_some e
                  refine gs_callvI (st := []) rfl (pr_C_le (by decide) (th_X8_feed L (((f 0 (z3 + 1).toNatClampNeg).toInt64 <<< ((32 : Int32).toInt64 &&& 63)) ||| ((f 0 (z3 + 2).toNatClampNeg).toInt64 &&& 4294967295)) (f 0 (z3 + 3).toNatClampNeg) f r67 f68 ec69)) rfl rfl rfl (by decide) rfl (Or.inr (by decide)) ?_
                  refine gs_aload_n rfl rfl ?_
                  refine gs_aload_n rfl rfl ?_
                  refine gs_iload_n rfl rfl ?_
                  refine gs_iconst (x := 1) rfl (by decide) ?_
                  refine gs_iadd rfl ?_
                  by_cases hb70 : pa_in (z3 + 1) L = true
                  case neg => rw [if_neg hb70] at e; cases e
                  rw [if_pos hb70] at e
                  refine gs_iald rfl (gd_ia (j := (z3 + 1).toNatClampNeg) rfl hb70 rfl) ?_
                  refine gs_i2l rfl ?_
                  refine gs_bipush (x := 32) rfl (by decide) ?_
                  refine gs_lshl rfl ?_
                  refine gs_aload_n rfl rfl ?_
                  refine gs_iload_n rfl rfl ?_
                  refine gs_iconst (x := 2) rfl (by decide) ?_
                  refine gs_iadd rfl ?_
                  by_cases hb71 : pa_in (z3 + 2) L = true
                  case neg => rw [if_neg hb71] at e; cases e
                  rw [if_pos hb71] at e
                  refine gs_iald rfl (gd_ia (j := (z3 + 2).toNatClampNeg) rfl hb71 rfl) ?_
                  refine gs_i2l rfl ?_
                  refine gs_ldc2 (w := 4294967295) rfl (by decide) ?_
                  refine gs_land rfl ?_
                  refine gs_lor rfl ?_
                  refine gs_aload_n rfl rfl ?_
                  refine gs_iload_n rfl rfl ?_
                  refine gs_iconst (x := 3) rfl (by decide) ?_
                  refine gs_iadd rfl ?_
                  by_cases hb72 : pa_in (z3 + 3) L = true
                  case neg => rw [if_neg hb72] at e; cases e
                  rw [if_pos hb72] at e
                  refine gs_iald rfl (gd_ia (j := (z3 + 3).toNatClampNeg) rfl hb72 rfl) ?_
                  obtain ⟨r73, f74, ec75, e⟩ := ob2_some e
                  refine gs_callvI (st := [.int r67]) rfl (pr_C_le (by decide) (th_X9_feed L (((f68 0 (z3 + 1).toNatClampNeg).toInt64 <<< ((32 : Int32).toInt64 &&& 63)) ||| ((f68 0 (z3 + 2).toNatClampNeg).toInt64 &&& 4294967295)) (f68 0 (z3 + 3).toNatClampNeg) f68 r73 f74 ec75)) rfl rfl rfl (by decide) rfl (Or.inr (by decide)) ?_
                  refine gs_eq2 rfl (fun c76 => ?_) (fun c76 => ?_)
                  · rw [if_pos c76] at e
                    obtain ⟨x77, hx77, e⟩ := pn_some e
                    refine gs_iinc1 (x1 := x77) (c := 7) (lv' := [(3, .int x77), (0, .ref 0), (1, .ref 17), (2, .ref 110)]) rfl rfl (by decide) hx77 rfl ?_
                    refine gs_goto rfl ?_
                    refine gs_drop [1, 2, 3, 0] rfl ?_
                    exact (ih x77 f74 _ e).2 w0 rfl _ _ K
                  · rw [if_neg c76] at e
                    refine gs_iconst (x := 0) rfl (by decide) ?_
                    cases e
                · rw [if_neg c63] at e
                  by_cases c78 : ((f 0 z3.toNatClampNeg) &&& 31) = 5
                  · rw [if_pos c78] at e
                    refine gs_switch (t := 387) rfl (by rw [c78]; decide) ?_
                    refine gs_aload_n rfl rfl ?_
                    obtain ⟨r79, f80, ec81, e⟩ := ob2_some e
                    refine gs_callvI (st := []) rfl (pr_C_le (by decide) (th_X8_laws L f r79 f80 ec81)) rfl rfl rfl (by decide) rfl (Or.inr (by decide)) ?_
                    refine gs_aload_n rfl rfl ?_
                    obtain ⟨r82, f83, ec84, e⟩ := ob2_some e
                    refine gs_callvI (st := [.int r79]) rfl (pr_C_le (by decide) (th_X9_laws L f80 r82 f83 ec84)) rfl rfl rfl (by decide) rfl (Or.inr (by decide)) ?_
                    refine gs_eq2 rfl (fun c85 => ?_) (fun c85 => ?_)
                    · rw [if_pos c85] at e
                      obtain ⟨x86, hx86, e⟩ := pn_some e
                      refine gs_iinc1 (x1 := x86) (c := 7) (lv' := [(3, .int x86), (0, .ref 0), (1, .ref 17), (2, .ref 110)]) rfl rfl (by decide) hx86 rfl ?_
                      refine gs_goto rfl ?_
                      refine gs_drop [1, 2, 3, 0] rfl ?_
                      exact (ih x86 f83 _ e).2 w0 rfl _ _ K
                    · rw [if_neg c85] at e
                      refine gs_iconst (x := 0) rfl (by decide) ?_
                      cases e
                  · rw [if_neg c78] at e
                    by_cases c87 : ((f 0 z3.toNatClampNeg) &&& 31) = 6
                    · rw [if_pos c87] at e
                      refine gs_switch (t := 400) rfl (by rw [c87]; decide) ?_
                      refine gs_aload_n rfl rfl ?_
                      refine gs_callvI (st := []) rfl (pr_C_le (by decide) (th_X8_fault L f _ rfl)) rfl rfl rfl (by decide) rfl (Or.inr (by decide)) ?_
                      refine gs_aload_n rfl rfl ?_
                      obtain ⟨r88, f89, ec90, e⟩ := ob2_some e
                      refine gs_callvI (st := [.int (fn_X8_fault f)]) rfl (pr_C_le (by decide) (th_X9_fault L f r88 f89 ec90)) rfl rfl rfl (by decide) rfl (Or.inr (by decide)) ?_
                      refine gs_eq2 rfl (fun c91 => ?_) (fun c91 => ?_)
                      · rw [if_pos c91] at e
                        obtain ⟨x92, hx92, e⟩ := pn_some e
                        refine gs_iinc1 (x1 := x92) (c := 7) (lv' := [(3, .int x92), (0, .ref 0), (1, .ref 17), (2, .ref 110)]) rfl rfl (by decide) hx92 rfl ?_
                        refine gs_goto rfl ?_
                        refine gs_drop [1, 2, 3, 0] rfl ?_
                        exact (ih x92 f89 _ e).2 w0 rfl _ _ K
                      · rw [if_neg c91] at e
                        refine gs_iconst (x := 0) rfl (by decide) ?_
                        cases e
                    · rw [if_neg c87] at e
                      by_cases c93 : ((f 0 z3.toNatClampNeg) &&& 31) = 7
                      · rw [if_pos c93] at e
                        refine gs_switch (t := 413) rfl (by rw [c93]; decide) ?_
                        refine gs_aload_n rfl rfl ?_
                        refine gs_aload_n rfl rfl ?_
                        refine gs_iload_n rfl rfl ?_
                        refine gs_iconst (x := 1) rfl (by decide) ?_
                        refine gs_iadd rfl ?_
                        by_cases hb94 : pa_in (z3 + 1) L = true
                        case neg => rw [if_neg hb94] at e; cases e
                        rw [if_pos hb94] at e
                        refine gs_iald rfl (gd_ia (j := (z3 + 1).toNatClampNeg) rfl hb94 rfl) ?_
                        obtain ⟨r95, ec96, e⟩ := ob1_some e
                        refine gs_callvI (st := []) rfl (pr_C_le (by decide) (th_X8_editions L (f 0 (z3 + 1).toNatClampNeg) f r95 ec96)) rfl rfl rfl (by decide) rfl (Or.inr (by decide)) ?_
                        refine gs_aload_n rfl rfl ?_
                        refine gs_aload_n rfl rfl ?_
                        refine gs_iload_n rfl rfl ?_
                        refine gs_iconst (x := 1) rfl (by decide) ?_
                        refine gs_iadd rfl ?_
                        by_cases hb97 : pa_in (z3 + 1) L = true
                        case neg => rw [if_neg hb97] at e; cases e
                        rw [if_pos hb97] at e
                        refine gs_iald rfl (gd_ia (j := (z3 + 1).toNatClampNeg) rfl hb97 rfl) ?_
                        obtain ⟨r98, f99, ec100, e⟩ := ob2_some e
                        refine gs_callvI (st := [.int r95]) rfl (pr_C_le (by decide) (th_X9_editions L (f 0 (z3 + 1).toNatClampNeg) f r98 f99 ec100)) rfl rfl rfl (by decide) rfl (Or.inr (by decide)) ?_
                        refine gs_eq2 rfl (fun c101 => ?_) (fun c101 => ?_)
                        · rw [if_pos c101] at e
                          obtain ⟨x102, hx102, e⟩ := pn_some e
                          refine gs_iinc1 (x1 := x102) (c := 7) (lv' := [(3, .int x102), (0, .ref 0), (1, .ref 17), (2, .ref 110)]) rfl rfl (by decide) hx102 rfl ?_
                          refine gs_goto rfl ?_
                          refine gs_drop [1, 2, 3, 0] rfl ?_
                          exact (ih x102 f99 _ e).2 w0 rfl _ _ K
                        · rw [if_neg c101] at e
                          refine gs_iconst (x := 0) rfl (by decide) ?_
                          cases e
                      · rw [if_neg c93] at e
                        by_cases c103 : ((f 0 z3.toNatClampNeg) &&& 31) = 8
                        · rw [if_pos c103] at e
                          refine gs_switch (t := 436) rfl (by rw [c103]; decide) ?_
                          refine gs_aload_n rfl rfl ?_
                          refine gs_aload_n rfl rfl ?_
                          refine gs_iload_n rfl rfl ?_
                          refine gs_iconst (x := 1) rfl (by decide) ?_
                          refine gs_iadd rfl ?_
                          by_cases hb104 : pa_in (z3 + 1) L = true
                          case neg => rw [if_neg hb104] at e; cases e
                          rw [if_pos hb104] at e
                          refine gs_iald rfl (gd_ia (j := (z3 + 1).toNatClampNeg) rfl hb104 rfl) ?_
                          refine gs_aload_n rfl rfl ?_
                          refine gs_iload_n rfl rfl ?_
                          refine gs_iconst (x := 2) rfl (by decide) ?_
                          refine gs_iadd rfl ?_
                          by_cases hb105 : pa_in (z3 + 2) L = true
                          case neg => rw [if_neg hb105] at e; cases e
                          rw [if_pos hb105] at e
                          refine gs_iald rfl (gd_ia (j := (z3 + 2).toNatClampNeg) rfl hb105 rfl) ?_
                          refine gs_aload_n rfl rfl ?_
                          refine gs_iload_n rfl rfl ?_
                          refine gs_iconst (x := 3) rfl (by decide) ?_
                          refine gs_iadd rfl ?_
                          by_cases hb106 : pa_in (z3 + 3) L = true
                          case neg => rw [if_neg hb106] at e; cases e
                          rw [if_pos hb106] at e
                          refine gs_iald rfl (gd_ia (j := (z3 + 3).toNatClampNeg) rfl hb106 rfl) ?_
                          refine gs_aload_n rfl rfl ?_
                          refine gs_iload_n rfl rfl ?_
                          refine gs_iconst (x := 4) rfl (by decide) ?_
                          refine gs_iadd rfl ?_
                          by_cases hb107 : pa_in (z3 + 4) L = true
                          case neg => rw [if_neg hb107] at e; cases e
                          rw [if_pos hb107] at e
                          refine gs_iald rfl (gd_ia (j := (z3 + 4).toNatClampNeg) rfl hb107 rfl) ?_
                          refine gs_aload_n rfl rfl ?_
                          refine gs_iload_n rfl rfl ?_
                          refine gs_iconst (x := 5) rfl (by decide) ?_
                          refine gs_iadd rfl ?_
                          by_cases hb108 : pa_in (z3 + 5) L = true
                          case neg => rw [if_neg hb108] at e; cases e
                          rw [if_pos hb108] at e
                          refine gs_iald rfl (gd_ia (j := (z3 + 5).toNatClampNeg) rfl hb108 rfl) ?_
                          obtain ⟨r109, ec110, e⟩ := ob1_some e
                          refine gs_callvI (st := []) rfl (pr_C_le (by decide) (th_X8_answer L (f 0 (z3 + 1).toNatClampNeg) (f 0 (z3 + 2).toNatClampNeg) (f 0 (z3 + 3).toNatClampNeg) (f 0 (z3 + 4).toNatClampNeg) (f 0 (z3 + 5).toNatClampNeg) f r109 ec110)) rfl rfl rfl (by decide) rfl (Or.inr (by decide)) ?_
                          refine gs_aload_n rfl rfl ?_
                          refine gs_aload_n rfl rfl ?_
                          refine gs_iload_n rfl rfl ?_
                          refine gs_iconst (x := 1) rfl (by decide) ?_
                          refine gs_iadd rfl ?_
                          by_cases hb111 : pa_in (z3 + 1) L = true
                          case neg => rw [if_neg hb111] at e; cases e
                          rw [if_pos hb111] at e
                          refine gs_iald rfl (gd_ia (j := (z3 + 1).toNatClampNeg) rfl hb111 rfl) ?_
                          refine gs_aload_n rfl rfl ?_
                          refine gs_iload_n rfl rfl ?_
                          refine gs_iconst (x := 2) rfl (by decide) ?_
                          refine gs_iadd rfl ?_
                          by_cases hb112 : pa_in (z3 + 2) L = true
                          case neg => rw [if_neg hb112] at e; cases e
                          rw [if_pos hb112] at e
                          refine gs_iald rfl (gd_ia (j := (z3 + 2).toNatClampNeg) rfl hb112 rfl) ?_
                          refine gs_aload_n rfl rfl ?_
                          refine gs_iload_n rfl rfl ?_
                          refine gs_iconst (x := 3) rfl (by decide) ?_
                          refine gs_iadd rfl ?_
                          by_cases hb113 : pa_in (z3 + 3) L = true
                          case neg => rw [if_neg hb113] at e; cases e
                          rw [if_pos hb113] at e
                          refine gs_iald rfl (gd_ia (j := (z3 + 3).toNatClampNeg) rfl hb113 rfl) ?_
                          refine gs_aload_n rfl rfl ?_
                          refine gs_iload_n rfl rfl ?_
                          refine gs_iconst (x := 4) rfl (by decide) ?_
                          refine gs_iadd rfl ?_
                          by_cases hb114 : pa_in (z3 + 4) L = true
                          case neg => rw [if_neg hb114] at e; cases e
                          rw [if_pos hb114] at e
                          refine gs_iald rfl (gd_ia (j := (z3 + 4).toNatClampNeg) rfl hb114 rfl) ?_
                          refine gs_aload_n rfl rfl ?_
                          refine gs_iload_n rfl rfl ?_
                          refine gs_iconst (x := 5) rfl (by decide) ?_
                          refine gs_iadd rfl ?_
                          by_cases hb115 : pa_in (z3 + 5) L = true
                          case neg => rw [if_neg hb115] at e; cases e
                          rw [if_pos hb115] at e
                          refine gs_iald rfl (gd_ia (j := (z3 + 5).toNatClampNeg) rfl hb115 rfl) ?_
                          obtain ⟨r116, f117, ec118, e⟩ := ob2_some e
                          refine gs_callvI (st := [.int r109]) rfl (pr_C_le (by decide) (th_X9_answer L (f 0 (z3 + 1).toNatClampNeg) (f 0 (z3 + 2).toNatClampNeg) (f 0 (z3 + 3).toNatClampNeg) (f 0 (z3 + 4).toNatClampNeg) (f 0 (z3 + 5).toNatClampNeg) f r116 f117 ec118)) rfl rfl rfl (by decide) rfl (Or.inr (by decide)) ?_
                          refine gs_eq2 rfl (fun c119 => ?_) (fun c119 => ?_)
                          · rw [if_pos c119] at e
                            obtain ⟨x120, hx120, e⟩ := pn_some e
                            refine gs_iinc1 (x1 := x120) (c := 7) (lv' := [(3, .int x120), (0, .ref 0), (1, .ref 17), (2, .ref 110)]) rfl rfl (by decide) hx120 rfl ?_
                            refine gs_goto rfl ?_
                            refine gs_drop [1, 2, 3, 0] rfl ?_
                            exact (ih x120 f117 _ e).2 w0 rfl _ _ K
                          · rw [if_neg c119] at e
                            refine gs_iconst (x := 0) rfl (by decide) ?_
                            cases e
                        · rw [if_neg c103] at e
                          by_cases c121 : ((f 0 z3.toNatClampNeg) &&& 31) = 9
                          · rw [if_pos c121] at e
                            refine gs_switch (t := 499) rfl (by rw [c121]; decide) ?_
                            refine gs_aload_n rfl rfl ?_
                            refine gs_aload_n rfl rfl ?_
                            refine gs_iload_n rfl rfl ?_
                            refine gs_iconst (x := 1) rfl (by decide) ?_
                            refine gs_iadd rfl ?_
                            by_cases hb122 : pa_in (z3 + 1) L = true
                            case neg => rw [if_neg hb122] at e; cases e
                            rw [if_pos hb122] at e
                            refine gs_iald rfl (gd_ia (j := (z3 + 1).toNatClampNeg) rfl hb122 rfl) ?_
                            refine gs_aload_n rfl rfl ?_
                            refine gs_iload_n rfl rfl ?_
                            refine gs_iconst (x := 2) rfl (by decide) ?_
                            refine gs_iadd rfl ?_
                            by_cases hb123 : pa_in (z3 + 2) L = true
                            case neg => rw [if_neg hb123] at e; cases e
                            rw [if_pos hb123] at e
                            refine gs_iald rfl (gd_ia (j := (z3 + 2).toNatClampNeg) rfl hb123 rfl) ?_
                            obtain ⟨r124, ec125, e⟩ := ob1_some e
                            refine gs_callvI (st := []) rfl (pr_C_le (by decide) (th_X8_saying L (f 0 (z3 + 1).toNatClampNeg) (f 0 (z3 + 2).toNatClampNeg) f r124 ec125)) rfl rfl rfl (by decide) rfl (Or.inr (by decide)) ?_
                            refine gs_aload_n rfl rfl ?_
                            refine gs_aload_n rfl rfl ?_
                            refine gs_iload_n rfl rfl ?_
                            refine gs_iconst (x := 1) rfl (by decide) ?_
                            refine gs_iadd rfl ?_
                            by_cases hb126 : pa_in (z3 + 1) L = true
                            case neg => rw [if_neg hb126] at e; cases e
                            rw [if_pos hb126] at e
                            refine gs_iald rfl (gd_ia (j := (z3 + 1).toNatClampNeg) rfl hb126 rfl) ?_
                            refine gs_aload_n rfl rfl ?_
                            refine gs_iload_n rfl rfl ?_
                            refine gs_iconst (x := 2) rfl (by decide) ?_
                            refine gs_iadd rfl ?_
                            by_cases hb127 : pa_in (z3 + 2) L = true
                            case neg => rw [if_neg hb127] at e; cases e
                            rw [if_pos hb127] at e
                            refine gs_iald rfl (gd_ia (j := (z3 + 2).toNatClampNeg) rfl hb127 rfl) ?_
                            obtain ⟨r128, f129, ec130, e⟩ := ob2_some e
                            refine gs_callvI (st := [.int r124]) rfl (pr_C_le (by decide) (th_X9_saying L (f 0 (z3 + 1).toNatClampNeg) (f 0 (z3 + 2).toNatClampNeg) f r128 f129 ec130)) rfl rfl rfl (by decide) rfl (Or.inr (by decide)) ?_
                            refine gs_eq2 rfl (fun c131 => ?_) (fun c131 => ?_)
                            · rw [if_pos c131] at e
                              obtain ⟨x132, hx132, e⟩ := pn_some e
                              refine gs_iinc1 (x1 := x132) (c := 7) (lv' := [(3, .int x132), (0, .ref 0), (1, .ref 17), (2, .ref 110)]) rfl rfl (by decide) hx132 rfl ?_
                              refine gs_goto rfl ?_
                              refine gs_drop [1, 2, 3, 0] rfl ?_
                              exact (ih x132 f129 _ e).2 w0 rfl _ _ K
                            · rw [if_neg c131] at e
                              refine gs_iconst (x := 0) rfl (by decide) ?_
                              cases e
                          · rw [if_neg c121] at e
                            by_cases c133 : ((f 0 z3.toNatClampNeg) &&& 31) = 10
                            · rw [if_pos c133] at e
                              refine gs_switch (t := 532) rfl (by rw [c133]; decide) ?_
                              refine gs_aload_n rfl rfl ?_
                              refine gs_aload_n rfl rfl ?_
                              refine gs_iload_n rfl rfl ?_
                              refine gs_iconst (x := 1) rfl (by decide) ?_
                              refine gs_iadd rfl ?_
                              by_cases hb134 : pa_in (z3 + 1) L = true
                              case neg => rw [if_neg hb134] at e; cases e
                              rw [if_pos hb134] at e
                              refine gs_iald rfl (gd_ia (j := (z3 + 1).toNatClampNeg) rfl hb134 rfl) ?_
                              refine gs_aload_n rfl rfl ?_
                              refine gs_iload_n rfl rfl ?_
                              refine gs_iconst (x := 2) rfl (by decide) ?_
                              refine gs_iadd rfl ?_
                              by_cases hb135 : pa_in (z3 + 2) L = true
                              case neg => rw [if_neg hb135] at e; cases e
                              rw [if_pos hb135] at e
                              refine gs_iald rfl (gd_ia (j := (z3 + 2).toNatClampNeg) rfl hb135 rfl) ?_
                              refine gs_aload_n rfl rfl ?_
                              refine gs_iload_n rfl rfl ?_
                              refine gs_iconst (x := 3) rfl (by decide) ?_
                              refine gs_iadd rfl ?_
                              by_cases hb136 : pa_in (z3 + 3) L = true
                              case neg => rw [if_neg hb136] at e; cases e
                              rw [if_pos hb136] at e
                              refine gs_iald rfl (gd_ia (j := (z3 + 3).toNatClampNeg) rfl hb136 rfl) ?_
                              obtain ⟨r137, ec138, e⟩ := ob1_some e
                              refine gs_callvI (st := []) rfl (pr_C_le (by decide) (th_X8_play L (f 0 (z3 + 1).toNatClampNeg) (f 0 (z3 + 2).toNatClampNeg) (f 0 (z3 + 3).toNatClampNeg) f r137 ec138)) rfl rfl rfl (by decide) rfl (Or.inr (by decide)) ?_
                              refine gs_aload_n rfl rfl ?_
                              refine gs_aload_n rfl rfl ?_
                              refine gs_iload_n rfl rfl ?_
                              refine gs_iconst (x := 1) rfl (by decide) ?_
                              refine gs_iadd rfl ?_
                              by_cases hb139 : pa_in (z3 + 1) L = true
                              case neg => rw [if_neg hb139] at e; cases e
                              rw [if_pos hb139] at e
                              refine gs_iald rfl (gd_ia (j := (z3 + 1).toNatClampNeg) rfl hb139 rfl) ?_
                              refine gs_aload_n rfl rfl ?_
                              refine gs_iload_n rfl rfl ?_
                              refine gs_iconst (x := 2) rfl (by decide) ?_
                              refine gs_iadd rfl ?_
                              by_cases hb140 : pa_in (z3 + 2) L = true
                              case neg => rw [if_neg hb140] at e; cases e
                              rw [if_pos hb140] at e
                              refine gs_iald rfl (gd_ia (j := (z3 + 2).toNatClampNeg) rfl hb140 rfl) ?_
                              refine gs_aload_n rfl rfl ?_
                              refine gs_iload_n rfl rfl ?_
                              refine gs_iconst (x := 3) rfl (by decide) ?_
                              refine gs_iadd rfl ?_
                              by_cases hb141 : pa_in (z3 + 3) L = true
                              case neg => rw [if_neg hb141] at e; cases e
                              rw [if_pos hb141] at e
                              refine gs_iald rfl (gd_ia (j := (z3 + 3).toNatClampNeg) rfl hb141 rfl) ?_
                              obtain ⟨r142, f143, ec144, e⟩ := ob2_some e
                              refine gs_callvI (st := [.int r137]) rfl (pr_C_le (by decide) (th_X9_play L (f 0 (z3 + 1).toNatClampNeg) (f 0 (z3 + 2).toNatClampNeg) (f 0 (z3 + 3).toNatClampNeg) f r142 f143 ec144)) rfl rfl rfl (by decide) rfl (Or.inr (by decide)) ?_
                              refine gs_eq2 rfl (fun c145 => ?_) (fun c145 => ?_)
                              · rw [if_pos c145] at e
                                obtain ⟨x146, hx146, e⟩ := pn_some e
                                refine gs_iinc1 (x1 := x146) (c := 7) (lv' := [(3, .int x146), (0, .ref 0), (1, .ref 17), (2, .ref 110)]) rfl rfl (by decide) hx146 rfl ?_
                                refine gs_goto rfl ?_
                                refine gs_drop [1, 2, 3, 0] rfl ?_
                                exact (ih x146 f143 _ e).2 w0 rfl _ _ K
                              · rw [if_neg c145] at e
                                refine gs_iconst (x := 0) rfl (by decide) ?_
                                cases e
                            · rw [if_neg c133] at e
                              by_cases c147 : ((f 0 z3.toNatClampNeg) &&& 31) = 11
                              · rw [if_pos c147] at e
                                refine gs_switch (t := 575) rfl (by rw [c147]; decide) ?_
                                refine gs_aload_n rfl rfl ?_
                                refine gs_aload_n rfl rfl ?_
                                refine gs_iload_n rfl rfl ?_
                                refine gs_iconst (x := 1) rfl (by decide) ?_
                                refine gs_iadd rfl ?_
                                by_cases hb148 : pa_in (z3 + 1) L = true
                                case neg => rw [if_neg hb148] at e; cases e
                                rw [if_pos hb148] at e
                                refine gs_iald rfl (gd_ia (j := (z3 + 1).toNatClampNeg) rfl hb148 rfl) ?_
                                refine gs_aload_n rfl rfl ?_
                                refine gs_iload_n rfl rfl ?_
                                refine gs_iconst (x := 2) rfl (by decide) ?_
                                refine gs_iadd rfl ?_
                                by_cases hb149 : pa_in (z3 + 2) L = true
                                case neg => rw [if_neg hb149] at e; cases e
                                rw [if_pos hb149] at e
                                refine gs_iald rfl (gd_ia (j := (z3 + 2).toNatClampNeg) rfl hb149 rfl) ?_
                                refine gs_aload_n rfl rfl ?_
                                refine gs_iload_n rfl rfl ?_
                                refine gs_iconst (x := 3) rfl (by decide) ?_
                                refine gs_iadd rfl ?_
                                by_cases hb150 : pa_in (z3 + 3) L = true
                                case neg => rw [if_neg hb150] at e; cases e
                                rw [if_pos hb150] at e
                                refine gs_iald rfl (gd_ia (j := (z3 + 3).toNatClampNeg) rfl hb150 rfl) ?_
                                refine gs_aload_n rfl rfl ?_
                                refine gs_iload_n rfl rfl ?_
                                refine gs_iconst (x := 4) rfl (by decide) ?_
                                refine gs_iadd rfl ?_
                                by_cases hb151 : pa_in (z3 + 4) L = true
                                case neg => rw [if_neg hb151] at e; cases e
                                rw [if_pos hb151] at e
                                refine gs_iald rfl (gd_ia (j := (z3 + 4).toNatClampNeg) rfl hb151 rfl) ?_
                                refine gs_aload_n rfl rfl ?_
                                refine gs_iload_n rfl rfl ?_
                                refine gs_iconst (x := 5) rfl (by decide) ?_
                                refine gs_iadd rfl ?_
                                by_cases hb152 : pa_in (z3 + 5) L = true
                                case neg => rw [if_neg hb152] at e; cases e
                                rw [if_pos hb152] at e
                                refine gs_iald rfl (gd_ia (j := (z3 + 5).toNatClampNeg) rfl hb152 rfl) ?_
                                refine gs_aload_n rfl rfl ?_
                                refine gs_iload_n rfl rfl ?_
                                refine gs_bipush (x := 6) rfl (by decide) ?_
                                refine gs_iadd rfl ?_
                                by_cases hb153 : pa_in (z3 + 6) L = true
                                case neg => rw [if_neg hb153] at e; cases e
                                rw [if_pos hb153] at e
                                refine gs_iald rfl (gd_ia (j := (z3 + 6).toNatClampNeg) rfl hb153 rfl) ?_
                                obtain ⟨r154, ec155, e⟩ := ob1_some e
                                refine gs_callvI (st := []) rfl (pr_C_le (by decide) (th_X8_standIn L (f 0 (z3 + 1).toNatClampNeg) (f 0 (z3 + 2).toNatClampNeg) (f 0 (z3 + 3).toNatClampNeg) (f 0 (z3 + 4).toNatClampNeg) (f 0 (z3 + 5).toNatClampNeg) (f 0 (z3 + 6).toNatClampNeg) f r154 ec155)) rfl rfl rfl (by decide) rfl (Or.inr (by decide)) ?_
                                refine gs_aload_n rfl rfl ?_
                                refine gs_aload_n rfl rfl ?_
                                refine gs_iload_n rfl rfl ?_
                                refine gs_iconst (x := 1) rfl (by decide) ?_
                                refine gs_iadd rfl ?_
                                by_cases hb156 : pa_in (z3 + 1) L = true
                                case neg => rw [if_neg hb156] at e; cases e
                                rw [if_pos hb156] at e
                                refine gs_iald rfl (gd_ia (j := (z3 + 1).toNatClampNeg) rfl hb156 rfl) ?_
                                refine gs_aload_n rfl rfl ?_
                                refine gs_iload_n rfl rfl ?_
                                refine gs_iconst (x := 2) rfl (by decide) ?_
                                refine gs_iadd rfl ?_
                                by_cases hb157 : pa_in (z3 + 2) L = true
                                case neg => rw [if_neg hb157] at e; cases e
                                rw [if_pos hb157] at e
                                refine gs_iald rfl (gd_ia (j := (z3 + 2).toNatClampNeg) rfl hb157 rfl) ?_
                                refine gs_aload_n rfl rfl ?_
                                refine gs_iload_n rfl rfl ?_
                                refine gs_iconst (x := 3) rfl (by decide) ?_
                                refine gs_iadd rfl ?_
                                by_cases hb158 : pa_in (z3 + 3) L = true
                                case neg => rw [if_neg hb158] at e; cases e
                                rw [if_pos hb158] at e
                                refine gs_iald rfl (gd_ia (j := (z3 + 3).toNatClampNeg) rfl hb158 rfl) ?_
                                refine gs_aload_n rfl rfl ?_
                                refine gs_iload_n rfl rfl ?_
                                refine gs_iconst (x := 4) rfl (by decide) ?_
                                refine gs_iadd rfl ?_
                                by_cases hb159 : pa_in (z3 + 4) L = true
                                case neg => rw [if_neg hb159] at e; cases e
                                rw [if_pos hb159] at e
                                refine gs_iald rfl (gd_ia (j := (z3 + 4).toNatClampNeg) rfl hb159 rfl) ?_
                                refine gs_aload_n rfl rfl ?_
                                refine gs_iload_n rfl rfl ?_
                                refine gs_iconst (x := 5) rfl (by decide) ?_
                                refine gs_iadd rfl ?_
                                by_cases hb160 : pa_in (z3 + 5) L = true
                                case neg => rw [if_neg hb160] at e; cases e
                                rw [if_pos hb160] at e
                                refine gs_iald rfl (gd_ia (j := (z3 + 5).toNatClampNeg) rfl hb160 rfl) ?_
                                refine gs_aload_n rfl rfl ?_
                                refine gs_iload_n rfl rfl ?_
                                refine gs_bipush (x := 6) rfl (by decide) ?_
                                refine gs_iadd rfl ?_
                                by_cases hb161 : pa_in (z3 + 6) L = true
                                case neg => rw [if_neg hb161] at e; cases e
                                rw [if_pos hb161] at e
                                refine gs_iald rfl (gd_ia (j := (z3 + 6).toNatClampNeg) rfl hb161 rfl) ?_
                                obtain ⟨r162, f163, ec164, e⟩ := ob2_some e
                                refine gs_callvI (st := [.int r154]) rfl (pr_C_le (by decide) (th_X9_standIn L (f 0 (z3 + 1).toNatClampNeg) (f 0 (z3 + 2).toNatClampNeg) (f 0 (z3 + 3).toNatClampNeg) (f 0 (z3 + 4).toNatClampNeg) (f 0 (z3 + 5).toNatClampNeg) (f 0 (z3 + 6).toNatClampNeg) f r162 f163 ec164)) rfl rfl rfl (by decide) rfl (Or.inr (by decide)) ?_
                                refine gs_eq2 rfl (fun c165 => ?_) (fun c165 => ?_)
                                · rw [if_pos c165] at e
                                  obtain ⟨x166, hx166, e⟩ := pn_some e
                                  refine gs_iinc1 (x1 := x166) (c := 7) (lv' := [(3, .int x166), (0, .ref 0), (1, .ref 17), (2, .ref 110)]) rfl rfl (by decide) hx166 rfl ?_
                                  refine gs_goto rfl ?_
                                  refine gs_drop [1, 2, 3, 0] rfl ?_
                                  exact (ih x166 f163 _ e).2 w0 rfl _ _ K
                                · rw [if_neg c165] at e
                                  refine gs_iconst (x := 0) rfl (by decide) ?_
                                  cases e
                              · rw [if_neg c147] at e
                                by_cases c167 : ((f 0 z3.toNatClampNeg) &&& 31) = 12
                                · rw [if_pos c167] at e
                                  refine gs_switch (t := 650) rfl (by rw [c167]; decide) ?_
                                  refine gs_aload_n rfl rfl ?_
                                  refine gs_aload_n rfl rfl ?_
                                  refine gs_iload_n rfl rfl ?_
                                  refine gs_iconst (x := 1) rfl (by decide) ?_
                                  refine gs_iadd rfl ?_
                                  by_cases hb168 : pa_in (z3 + 1) L = true
                                  case neg => rw [if_neg hb168] at e; cases e
                                  rw [if_pos hb168] at e
                                  refine gs_iald rfl (gd_ia (j := (z3 + 1).toNatClampNeg) rfl hb168 rfl) ?_
                                  refine gs_aload_n rfl rfl ?_
                                  refine gs_iload_n rfl rfl ?_
                                  refine gs_iconst (x := 2) rfl (by decide) ?_
                                  refine gs_iadd rfl ?_
                                  by_cases hb169 : pa_in (z3 + 2) L = true
                                  case neg => rw [if_neg hb169] at e; cases e
                                  rw [if_pos hb169] at e
                                  refine gs_iald rfl (gd_ia (j := (z3 + 2).toNatClampNeg) rfl hb169 rfl) ?_
                                  refine gs_aload_n rfl rfl ?_
                                  refine gs_iload_n rfl rfl ?_
                                  refine gs_iconst (x := 3) rfl (by decide) ?_
                                  refine gs_iadd rfl ?_
                                  by_cases hb170 : pa_in (z3 + 3) L = true
                                  case neg => rw [if_neg hb170] at e; cases e
                                  rw [if_pos hb170] at e
                                  refine gs_iald rfl (gd_ia (j := (z3 + 3).toNatClampNeg) rfl hb170 rfl) ?_
                                  refine gs_aload_n rfl rfl ?_
                                  refine gs_iload_n rfl rfl ?_
                                  refine gs_iconst (x := 4) rfl (by decide) ?_
                                  refine gs_iadd rfl ?_
                                  by_cases hb171 : pa_in (z3 + 4) L = true
                                  case neg => rw [if_neg hb171] at e; cases e
                                  rw [if_pos hb171] at e
                                  refine gs_iald rfl (gd_ia (j := (z3 + 4).toNatClampNeg) rfl hb171 rfl) ?_
                                  obtain ⟨r172, f173, ec174, e⟩ := ob2_some e
                                  refine gs_callvI (st := []) rfl (pr_C_le (by decide) (th_X8_allows L (f 0 (z3 + 1).toNatClampNeg) (f 0 (z3 + 2).toNatClampNeg) (f 0 (z3 + 3).toNatClampNeg) (f 0 (z3 + 4).toNatClampNeg) f r172 f173 ec174)) rfl rfl rfl (by decide) rfl (Or.inr (by decide)) ?_
                                  refine gs_aload_n rfl rfl ?_
                                  refine gs_aload_n rfl rfl ?_
                                  refine gs_iload_n rfl rfl ?_
                                  refine gs_iconst (x := 1) rfl (by decide) ?_
                                  refine gs_iadd rfl ?_
                                  by_cases hb175 : pa_in (z3 + 1) L = true
                                  case neg => rw [if_neg hb175] at e; cases e
                                  rw [if_pos hb175] at e
                                  refine gs_iald rfl (gd_ia (j := (z3 + 1).toNatClampNeg) rfl hb175 rfl) ?_
                                  refine gs_aload_n rfl rfl ?_
                                  refine gs_iload_n rfl rfl ?_
                                  refine gs_iconst (x := 2) rfl (by decide) ?_
                                  refine gs_iadd rfl ?_
                                  by_cases hb176 : pa_in (z3 + 2) L = true
                                  case neg => rw [if_neg hb176] at e; cases e
                                  rw [if_pos hb176] at e
                                  refine gs_iald rfl (gd_ia (j := (z3 + 2).toNatClampNeg) rfl hb176 rfl) ?_
                                  refine gs_aload_n rfl rfl ?_
                                  refine gs_iload_n rfl rfl ?_
                                  refine gs_iconst (x := 3) rfl (by decide) ?_
                                  refine gs_iadd rfl ?_
                                  by_cases hb177 : pa_in (z3 + 3) L = true
                                  case neg => rw [if_neg hb177] at e; cases e
                                  rw [if_pos hb177] at e
                                  refine gs_iald rfl (gd_ia (j := (z3 + 3).toNatClampNeg) rfl hb177 rfl) ?_
                                  refine gs_aload_n rfl rfl ?_
                                  refine gs_iload_n rfl rfl ?_
                                  refine gs_iconst (x := 4) rfl (by decide) ?_
                                  refine gs_iadd rfl ?_
                                  by_cases hb178 : pa_in (z3 + 4) L = true
                                  case neg => rw [if_neg hb178] at e; cases e
                                  rw [if_pos hb178] at e
                                  refine gs_iald rfl (gd_ia (j := (z3 + 4).toNatClampNeg) rfl hb178 rfl) ?_
                                  obtain ⟨r179, f180, ec181, e⟩ := ob2_some e
                                  refine gs_callvI (st := [.int r172]) rfl (pr_C_le (by decide) (th_X9_allows L (f173 0 (z3 + 1).toNatClampNeg) (f173 0 (z3 + 2).toNatClampNeg) (f173 0 (z3 + 3).toNatClampNeg) (f173 0 (z3 + 4).toNatClampNeg) f173 r179 f180 ec181)) rfl rfl rfl (by decide) rfl (Or.inr (by decide)) ?_
                                  refine gs_eq2 rfl (fun c182 => ?_) (fun c182 => ?_)
                                  · rw [if_pos c182] at e
                                    obtain ⟨x183, hx183, e⟩ := pn_some e
                                    refine gs_iinc1 (x1 := x183) (c := 7) (lv' := [(3, .int x183), (0, .ref 0), (1, .ref 17), (2, .ref 110)]) rfl rfl (by decide) hx183 rfl ?_
                                    refine gs_goto rfl ?_
                                    refine gs_drop [1, 2, 3, 0] rfl ?_
                                    exact (ih x183 f180 _ e).2 w0 rfl _ _ K
                                  · rw [if_neg c182] at e
                                    refine gs_iconst (x := 0) rfl (by decide) ?_
                                    cases e
                                · rw [if_neg c167] at e
                                  by_cases c184 : ((f 0 z3.toNatClampNeg) &&& 31) = 13
                                  · rw [if_pos c184] at e
                                    refine gs_switch (t := 703) rfl (by rw [c184]; decide) ?_
                                    refine gs_aload_n rfl rfl ?_
                                    refine gs_aload_n rfl rfl ?_
                                    refine gs_iload_n rfl rfl ?_
                                    refine gs_iconst (x := 1) rfl (by decide) ?_
                                    refine gs_iadd rfl ?_
                                    by_cases hb185 : pa_in (z3 + 1) L = true
                                    case neg => rw [if_neg hb185] at e; cases e
                                    rw [if_pos hb185] at e
                                    refine gs_iald rfl (gd_ia (j := (z3 + 1).toNatClampNeg) rfl hb185 rfl) ?_
                                    refine gs_aload_n rfl rfl ?_
                                    refine gs_iload_n rfl rfl ?_
                                    refine gs_iconst (x := 2) rfl (by decide) ?_
                                    refine gs_iadd rfl ?_
                                    by_cases hb186 : pa_in (z3 + 2) L = true
                                    case neg => rw [if_neg hb186] at e; cases e
                                    rw [if_pos hb186] at e
                                    refine gs_iald rfl (gd_ia (j := (z3 + 2).toNatClampNeg) rfl hb186 rfl) ?_
                                    obtain ⟨r187, ec188, e⟩ := ob1_some e
                                    refine gs_callvI (st := []) rfl (pr_C_le (by decide) (th_X8_noMore L (f 0 (z3 + 1).toNatClampNeg) (f 0 (z3 + 2).toNatClampNeg) f r187 ec188)) rfl rfl rfl (by decide) rfl (Or.inr (by decide)) ?_
                                    refine gs_aload_n rfl rfl ?_
                                    refine gs_aload_n rfl rfl ?_
                                    refine gs_iload_n rfl rfl ?_
                                    refine gs_iconst (x := 1) rfl (by decide) ?_
                                    refine gs_iadd rfl ?_
                                    by_cases hb189 : pa_in (z3 + 1) L = true
                                    case neg => rw [if_neg hb189] at e; cases e
                                    rw [if_pos hb189] at e
                                    refine gs_iald rfl (gd_ia (j := (z3 + 1).toNatClampNeg) rfl hb189 rfl) ?_
                                    refine gs_aload_n rfl rfl ?_
                                    refine gs_iload_n rfl rfl ?_
                                    refine gs_iconst (x := 2) rfl (by decide) ?_
                                    refine gs_iadd rfl ?_
                                    by_cases hb190 : pa_in (z3 + 2) L = true
                                    case neg => rw [if_neg hb190] at e; cases e
                                    rw [if_pos hb190] at e
                                    refine gs_iald rfl (gd_ia (j := (z3 + 2).toNatClampNeg) rfl hb190 rfl) ?_
                                    obtain ⟨r191, f192, ec193, e⟩ := ob2_some e
                                    refine gs_callvI (st := [.int r187]) rfl (pr_C_le (by decide) (th_X9_noMore L (f 0 (z3 + 1).toNatClampNeg) (f 0 (z3 + 2).toNatClampNeg) f r191 f192 ec193)) rfl rfl rfl (by decide) rfl (Or.inr (by decide)) ?_
                                    refine gs_eq2 rfl (fun c194 => ?_) (fun c194 => ?_)
                                    · rw [if_pos c194] at e
                                      obtain ⟨x195, hx195, e⟩ := pn_some e
                                      refine gs_iinc1 (x1 := x195) (c := 7) (lv' := [(3, .int x195), (0, .ref 0), (1, .ref 17), (2, .ref 110)]) rfl rfl (by decide) hx195 rfl ?_
                                      refine gs_goto rfl ?_
                                      refine gs_drop [1, 2, 3, 0] rfl ?_
                                      exact (ih x195 f192 _ e).2 w0 rfl _ _ K
                                    · rw [if_neg c194] at e
                                      refine gs_iconst (x := 0) rfl (by decide) ?_
                                      cases e
                                  · rw [if_neg c184] at e
                                    by_cases c196 : ((f 0 z3.toNatClampNeg) &&& 31) = 14
                                    · rw [if_pos c196] at e
                                      refine gs_switch (t := 736) rfl (by rw [c196]; decide) ?_
                                      refine gs_aload_n rfl rfl ?_
                                      refine gs_aload_n rfl rfl ?_
                                      refine gs_iload_n rfl rfl ?_
                                      refine gs_iconst (x := 1) rfl (by decide) ?_
                                      refine gs_iadd rfl ?_
                                      by_cases hb197 : pa_in (z3 + 1) L = true
                                      case neg => rw [if_neg hb197] at e; cases e
                                      rw [if_pos hb197] at e
                                      refine gs_iald rfl (gd_ia (j := (z3 + 1).toNatClampNeg) rfl hb197 rfl) ?_
                                      obtain ⟨r198, ec199, e⟩ := ob1_some e
                                      refine gs_callvI (st := []) rfl (pr_C_le (by decide) (th_X8_quarrel L (f 0 (z3 + 1).toNatClampNeg) f r198 ec199)) rfl rfl rfl (by decide) rfl (Or.inr (by decide)) ?_
                                      refine gs_aload_n rfl rfl ?_
                                      refine gs_aload_n rfl rfl ?_
                                      refine gs_iload_n rfl rfl ?_
                                      refine gs_iconst (x := 1) rfl (by decide) ?_
                                      refine gs_iadd rfl ?_
                                      by_cases hb200 : pa_in (z3 + 1) L = true
                                      case neg => rw [if_neg hb200] at e; cases e
                                      rw [if_pos hb200] at e
                                      refine gs_iald rfl (gd_ia (j := (z3 + 1).toNatClampNeg) rfl hb200 rfl) ?_
                                      obtain ⟨r201, f202, ec203, e⟩ := ob2_some e
                                      refine gs_callvI (st := [.int r198]) rfl (pr_C_le (by decide) (th_X9_quarrel L (f 0 (z3 + 1).toNatClampNeg) f r201 f202 ec203)) rfl rfl rfl (by decide) rfl (Or.inr (by decide)) ?_
                                      refine gs_eq2 rfl (fun c204 => ?_) (fun c204 => ?_)
                                      · rw [if_pos c204] at e
                                        obtain ⟨x205, hx205, e⟩ := pn_some e
                                        refine gs_iinc1 (x1 := x205) (c := 7) (lv' := [(3, .int x205), (0, .ref 0), (1, .ref 17), (2, .ref 110)]) rfl rfl (by decide) hx205 rfl ?_
                                        refine gs_goto rfl ?_
                                        refine gs_drop [1, 2, 3, 0] rfl ?_
                                        exact (ih x205 f202 _ e).2 w0 rfl _ _ K
                                      · rw [if_neg c204] at e
                                        refine gs_iconst (x := 0) rfl (by decide) ?_
                                        cases e
                                    · rw [if_neg c196] at e
                                      by_cases c206 : ((f 0 z3.toNatClampNeg) &&& 31) = 15
                                      · rw [if_pos c206] at e
                                        refine gs_switch (t := 759) rfl (by rw [c206]; decide) ?_
                                        refine gs_aload_n rfl rfl ?_
                                        refine gs_aload_n rfl rfl ?_
                                        refine gs_iload_n rfl rfl ?_
                                        refine gs_iconst (x := 1) rfl (by decide) ?_
                                        refine gs_iadd rfl ?_
                                        by_cases hb207 : pa_in (z3 + 1) L = true
                                        case neg => rw [if_neg hb207] at e; cases e
                                        rw [if_pos hb207] at e
                                        refine gs_iald rfl (gd_ia (j := (z3 + 1).toNatClampNeg) rfl hb207 rfl) ?_
                                        refine gs_aload_n rfl rfl ?_
                                        refine gs_iload_n rfl rfl ?_
                                        refine gs_iconst (x := 2) rfl (by decide) ?_
                                        refine gs_iadd rfl ?_
                                        by_cases hb208 : pa_in (z3 + 2) L = true
                                        case neg => rw [if_neg hb208] at e; cases e
                                        rw [if_pos hb208] at e
                                        refine gs_iald rfl (gd_ia (j := (z3 + 2).toNatClampNeg) rfl hb208 rfl) ?_
                                        refine gs_aload_n rfl rfl ?_
                                        refine gs_iload_n rfl rfl ?_
                                        refine gs_iconst (x := 3) rfl (by decide) ?_
                                        refine gs_iadd rfl ?_
                                        by_cases hb209 : pa_in (z3 + 3) L = true
                                        case neg => rw [if_neg hb209] at e; cases e
                                        rw [if_pos hb209] at e
                                        refine gs_iald rfl (gd_ia (j := (z3 + 3).toNatClampNeg) rfl hb209 rfl) ?_
                                        obtain ⟨r210, ec211, e⟩ := ob1_some e
                                        refine gs_callvI (st := []) rfl (pr_C_le (by decide) (th_X8_change L (f 0 (z3 + 1).toNatClampNeg) (f 0 (z3 + 2).toNatClampNeg) (f 0 (z3 + 3).toNatClampNeg) f r210 ec211)) rfl rfl rfl (by decide) rfl (Or.inr (by decide)) ?_
                                        refine gs_aload_n rfl rfl ?_
                                        refine gs_aload_n rfl rfl ?_
                                        refine gs_iload_n rfl rfl ?_
                                        refine gs_iconst (x := 1) rfl (by decide) ?_
                                        refine gs_iadd rfl ?_
                                        by_cases hb212 : pa_in (z3 + 1) L = true
                                        case neg => rw [if_neg hb212] at e; cases e
                                        rw [if_pos hb212] at e
                                        refine gs_iald rfl (gd_ia (j := (z3 + 1).toNatClampNeg) rfl hb212 rfl) ?_
                                        refine gs_aload_n rfl rfl ?_
                                        refine gs_iload_n rfl rfl ?_
                                        refine gs_iconst (x := 2) rfl (by decide) ?_
                                        refine gs_iadd rfl ?_
                                        by_cases hb213 : pa_in (z3 + 2) L = true
                                        case neg => rw [if_neg hb213] at e; cases e
                                        rw [if_pos hb213] at e
                                        refine gs_iald rfl (gd_ia (j := (z3 + 2).toNatClampNeg) rfl hb213 rfl) ?_
                                        refine gs_aload_n rfl rfl ?_
                                        refine gs_iload_n rfl rfl ?_
                                        refine gs_iconst (x := 3) rfl (by decide) ?_
                                        refine gs_iadd rfl ?_
                                        by_cases hb214 : pa_in (z3 + 3) L = true
                                        case neg => rw [if_neg hb214] at e; cases e
                                        rw [if_pos hb214] at e
                                        refine gs_iald rfl (gd_ia (j := (z3 + 3).toNatClampNeg) rfl hb214 rfl) ?_
                                        obtain ⟨r215, f216, ec217, e⟩ := ob2_some e
                                        refine gs_callvI (st := [.int r210]) rfl (pr_C_le (by decide) (th_X9_change L (f 0 (z3 + 1).toNatClampNeg) (f 0 (z3 + 2).toNatClampNeg) (f 0 (z3 + 3).toNatClampNeg) f r215 f216 ec217)) rfl rfl rfl (by decide) rfl (Or.inr (by decide)) ?_
                                        refine gs_eq2 rfl (fun c218 => ?_) (fun c218 => ?_)
                                        · rw [if_pos c218] at e
                                          obtain ⟨x219, hx219, e⟩ := pn_some e
                                          refine gs_iinc1 (x1 := x219) (c := 7) (lv' := [(3, .int x219), (0, .ref 0), (1, .ref 17), (2, .ref 110)]) rfl rfl (by decide) hx219 rfl ?_
                                          refine gs_goto rfl ?_
                                          refine gs_drop [1, 2, 3, 0] rfl ?_
                                          exact (ih x219 f216 _ e).2 w0 rfl _ _ K
                                        · rw [if_neg c218] at e
                                          refine gs_iconst (x := 0) rfl (by decide) ?_
                                          cases e
                                      · rw [if_neg c206] at e
                                        by_cases c220 : ((f 0 z3.toNatClampNeg) &&& 31) = 16
                                        · rw [if_pos c220] at e
                                          refine gs_switch (t := 802) rfl (by rw [c220]; decide) ?_
                                          refine gs_aload_n rfl rfl ?_
                                          refine gs_aload_n rfl rfl ?_
                                          refine gs_iload_n rfl rfl ?_
                                          refine gs_iconst (x := 1) rfl (by decide) ?_
                                          refine gs_iadd rfl ?_
                                          by_cases hb221 : pa_in (z3 + 1) L = true
                                          case neg => rw [if_neg hb221] at e; cases e
                                          rw [if_pos hb221] at e
                                          refine gs_iald rfl (gd_ia (j := (z3 + 1).toNatClampNeg) rfl hb221 rfl) ?_
                                          obtain ⟨r222, ec223, e⟩ := ob1_some e
                                          refine gs_callvI (st := []) rfl (pr_C_le (by decide) (th_X8_right L (f 0 (z3 + 1).toNatClampNeg) f r222 ec223)) rfl rfl rfl (by decide) rfl (Or.inr (by decide)) ?_
                                          refine gs_aload_n rfl rfl ?_
                                          refine gs_aload_n rfl rfl ?_
                                          refine gs_iload_n rfl rfl ?_
                                          refine gs_iconst (x := 1) rfl (by decide) ?_
                                          refine gs_iadd rfl ?_
                                          by_cases hb224 : pa_in (z3 + 1) L = true
                                          case neg => rw [if_neg hb224] at e; cases e
                                          rw [if_pos hb224] at e
                                          refine gs_iald rfl (gd_ia (j := (z3 + 1).toNatClampNeg) rfl hb224 rfl) ?_
                                          obtain ⟨r225, f226, ec227, e⟩ := ob2_some e
                                          refine gs_callvI (st := [.int r222]) rfl (pr_C_le (by decide) (th_X9_right L (f 0 (z3 + 1).toNatClampNeg) f r225 f226 ec227)) rfl rfl rfl (by decide) rfl (Or.inr (by decide)) ?_
                                          refine gs_eq2 rfl (fun c228 => ?_) (fun c228 => ?_)
                                          · rw [if_pos c228] at e
                                            obtain ⟨x229, hx229, e⟩ := pn_some e
                                            refine gs_iinc1 (x1 := x229) (c := 7) (lv' := [(3, .int x229), (0, .ref 0), (1, .ref 17), (2, .ref 110)]) rfl rfl (by decide) hx229 rfl ?_
                                            refine gs_goto rfl ?_
                                            refine gs_drop [1, 2, 3, 0] rfl ?_
                                            exact (ih x229 f226 _ e).2 w0 rfl _ _ K
                                          · rw [if_neg c228] at e
                                            refine gs_iconst (x := 0) rfl (by decide) ?_
                                            cases e
                                        · rw [if_neg c220] at e
                                          by_cases c230 : ((f 0 z3.toNatClampNeg) &&& 31) = 17
                                          · rw [if_pos c230] at e
                                            refine gs_switch (t := 825) rfl (by rw [c230]; decide) ?_
                                            refine gs_aload_n rfl rfl ?_
                                            refine gs_aload_n rfl rfl ?_
                                            refine gs_iload_n rfl rfl ?_
                                            refine gs_iconst (x := 1) rfl (by decide) ?_
                                            refine gs_iadd rfl ?_
                                            by_cases hb231 : pa_in (z3 + 1) L = true
                                            case neg => rw [if_neg hb231] at e; cases e
                                            rw [if_pos hb231] at e
                                            refine gs_iald rfl (gd_ia (j := (z3 + 1).toNatClampNeg) rfl hb231 rfl) ?_
                                            refine gs_aload_n rfl rfl ?_
                                            refine gs_iload_n rfl rfl ?_
                                            refine gs_iconst (x := 2) rfl (by decide) ?_
                                            refine gs_iadd rfl ?_
                                            by_cases hb232 : pa_in (z3 + 2) L = true
                                            case neg => rw [if_neg hb232] at e; cases e
                                            rw [if_pos hb232] at e
                                            refine gs_iald rfl (gd_ia (j := (z3 + 2).toNatClampNeg) rfl hb232 rfl) ?_
                                            obtain ⟨r233, ec234, e⟩ := ob1_some e
                                            refine gs_callvI (st := []) rfl (pr_C_le (by decide) (th_X8_house L (f 0 (z3 + 1).toNatClampNeg) (f 0 (z3 + 2).toNatClampNeg) f r233 ec234)) rfl rfl rfl (by decide) rfl (Or.inr (by decide)) ?_
                                            refine gs_aload_n rfl rfl ?_
                                            refine gs_aload_n rfl rfl ?_
                                            refine gs_iload_n rfl rfl ?_
                                            refine gs_iconst (x := 1) rfl (by decide) ?_
                                            refine gs_iadd rfl ?_
                                            by_cases hb235 : pa_in (z3 + 1) L = true
                                            case neg => rw [if_neg hb235] at e; cases e
                                            rw [if_pos hb235] at e
                                            refine gs_iald rfl (gd_ia (j := (z3 + 1).toNatClampNeg) rfl hb235 rfl) ?_
                                            refine gs_aload_n rfl rfl ?_
                                            refine gs_iload_n rfl rfl ?_
                                            refine gs_iconst (x := 2) rfl (by decide) ?_
                                            refine gs_iadd rfl ?_
                                            by_cases hb236 : pa_in (z3 + 2) L = true
                                            case neg => rw [if_neg hb236] at e; cases e
                                            rw [if_pos hb236] at e
                                            refine gs_iald rfl (gd_ia (j := (z3 + 2).toNatClampNeg) rfl hb236 rfl) ?_
                                            obtain ⟨r237, f238, ec239, e⟩ := ob2_some e
                                            refine gs_callvI (st := [.int r233]) rfl (pr_C_le (by decide) (th_X9_house L (f 0 (z3 + 1).toNatClampNeg) (f 0 (z3 + 2).toNatClampNeg) f r237 f238 ec239)) rfl rfl rfl (by decide) rfl (Or.inr (by decide)) ?_
                                            refine gs_eq2 rfl (fun c240 => ?_) (fun c240 => ?_)
                                            · rw [if_pos c240] at e
                                              obtain ⟨x241, hx241, e⟩ := pn_some e
                                              refine gs_iinc1 (x1 := x241) (c := 7) (lv' := [(3, .int x241), (0, .ref 0), (1, .ref 17), (2, .ref 110)]) rfl rfl (by decide) hx241 rfl ?_
                                              refine gs_goto rfl ?_
                                              refine gs_drop [1, 2, 3, 0] rfl ?_
                                              exact (ih x241 f238 _ e).2 w0 rfl _ _ K
                                            · rw [if_neg c240] at e
                                              refine gs_iconst (x := 0) rfl (by decide) ?_
                                              cases e
                                          · rw [if_neg c230] at e
                                            by_cases c242 : ((f 0 z3.toNatClampNeg) &&& 31) = 18
                                            · rw [if_pos c242] at e
                                              refine gs_switch (t := 858) rfl (by rw [c242]; decide) ?_
                                              refine gs_aload_n rfl rfl ?_
                                              refine gs_aload_n rfl rfl ?_
                                              refine gs_iload_n rfl rfl ?_
                                              refine gs_iconst (x := 1) rfl (by decide) ?_
                                              refine gs_iadd rfl ?_
                                              by_cases hb243 : pa_in (z3 + 1) L = true
                                              case neg => rw [if_neg hb243] at e; cases e
                                              rw [if_pos hb243] at e
                                              refine gs_iald rfl (gd_ia (j := (z3 + 1).toNatClampNeg) rfl hb243 rfl) ?_
                                              refine gs_aload_n rfl rfl ?_
                                              refine gs_iload_n rfl rfl ?_
                                              refine gs_iconst (x := 2) rfl (by decide) ?_
                                              refine gs_iadd rfl ?_
                                              by_cases hb244 : pa_in (z3 + 2) L = true
                                              case neg => rw [if_neg hb244] at e; cases e
                                              rw [if_pos hb244] at e
                                              refine gs_iald rfl (gd_ia (j := (z3 + 2).toNatClampNeg) rfl hb244 rfl) ?_
                                              refine gs_aload_n rfl rfl ?_
                                              refine gs_iload_n rfl rfl ?_
                                              refine gs_iconst (x := 3) rfl (by decide) ?_
                                              refine gs_iadd rfl ?_
                                              by_cases hb245 : pa_in (z3 + 3) L = true
                                              case neg => rw [if_neg hb245] at e; cases e
                                              rw [if_pos hb245] at e
                                              refine gs_iald rfl (gd_ia (j := (z3 + 3).toNatClampNeg) rfl hb245 rfl) ?_
                                              obtain ⟨r246, f247, ec248, e⟩ := ob2_some e
                                              refine gs_callvI (st := []) rfl (pr_C_le (by decide) (th_X8_letOut L (f 0 (z3 + 1).toNatClampNeg) (f 0 (z3 + 2).toNatClampNeg) (f 0 (z3 + 3).toNatClampNeg) f r246 f247 ec248)) rfl rfl rfl (by decide) rfl (Or.inr (by decide)) ?_
                                              refine gs_aload_n rfl rfl ?_
                                              refine gs_aload_n rfl rfl ?_
                                              refine gs_iload_n rfl rfl ?_
                                              refine gs_iconst (x := 1) rfl (by decide) ?_
                                              refine gs_iadd rfl ?_
                                              by_cases hb249 : pa_in (z3 + 1) L = true
                                              case neg => rw [if_neg hb249] at e; cases e
                                              rw [if_pos hb249] at e
                                              refine gs_iald rfl (gd_ia (j := (z3 + 1).toNatClampNeg) rfl hb249 rfl) ?_
                                              refine gs_aload_n rfl rfl ?_
                                              refine gs_iload_n rfl rfl ?_
                                              refine gs_iconst (x := 2) rfl (by decide) ?_
                                              refine gs_iadd rfl ?_
                                              by_cases hb250 : pa_in (z3 + 2) L = true
                                              case neg => rw [if_neg hb250] at e; cases e
                                              rw [if_pos hb250] at e
                                              refine gs_iald rfl (gd_ia (j := (z3 + 2).toNatClampNeg) rfl hb250 rfl) ?_
                                              refine gs_aload_n rfl rfl ?_
                                              refine gs_iload_n rfl rfl ?_
                                              refine gs_iconst (x := 3) rfl (by decide) ?_
                                              refine gs_iadd rfl ?_
                                              by_cases hb251 : pa_in (z3 + 3) L = true
                                              case neg => rw [if_neg hb251] at e; cases e
                                              rw [if_pos hb251] at e
                                              refine gs_iald rfl (gd_ia (j := (z3 + 3).toNatClampNeg) rfl hb251 rfl) ?_
                                              obtain ⟨r252, f253, ec254, e⟩ := ob2_some e
                                              refine gs_callvI (st := [.int r246]) rfl (pr_C_le (by decide) (th_X9_letOut L (f247 0 (z3 + 1).toNatClampNeg) (f247 0 (z3 + 2).toNatClampNeg) (f247 0 (z3 + 3).toNatClampNeg) f247 r252 f253 ec254)) rfl rfl rfl (by decide) rfl (Or.inr (by decide)) ?_
                                              refine gs_eq2 rfl (fun c255 => ?_) (fun c255 => ?_)
                                              · rw [if_pos c255] at e
                                                obtain ⟨x256, hx256, e⟩ := pn_some e
                                                refine gs_iinc1 (x1 := x256) (c := 7) (lv' := [(3, .int x256), (0, .ref 0), (1, .ref 17), (2, .ref 110)]) rfl rfl (by decide) hx256 rfl ?_
                                                refine gs_goto rfl ?_
                                                refine gs_drop [1, 2, 3, 0] rfl ?_
                                                exact (ih x256 f253 _ e).2 w0 rfl _ _ K
                                              · rw [if_neg c255] at e
                                                refine gs_iconst (x := 0) rfl (by decide) ?_
                                                cases e
                                            · rw [if_neg c242] at e
                                              by_cases c257 : ((f 0 z3.toNatClampNeg) &&& 31) = 19
                                              · rw [if_pos c257] at e
                                                refine gs_switch (t := 901) rfl (by rw [c257]; decide) ?_
                                                refine gs_aload_n rfl rfl ?_
                                                refine gs_aload_n rfl rfl ?_
                                                refine gs_iload_n rfl rfl ?_
                                                refine gs_iconst (x := 1) rfl (by decide) ?_
                                                refine gs_iadd rfl ?_
                                                by_cases hb258 : pa_in (z3 + 1) L = true
                                                case neg => rw [if_neg hb258] at e; cases e
                                                rw [if_pos hb258] at e
                                                refine gs_iald rfl (gd_ia (j := (z3 + 1).toNatClampNeg) rfl hb258 rfl) ?_
                                                obtain ⟨r259, ec260, e⟩ := ob1_some e
                                                refine gs_callvI (st := []) rfl (pr_C_le (by decide) (th_X8_hours L (f 0 (z3 + 1).toNatClampNeg) f r259 ec260)) rfl rfl rfl (by decide) rfl (Or.inr (by decide)) ?_
                                                refine gs_aload_n rfl rfl ?_
                                                refine gs_aload_n rfl rfl ?_
                                                refine gs_iload_n rfl rfl ?_
                                                refine gs_iconst (x := 1) rfl (by decide) ?_
                                                refine gs_iadd rfl ?_
                                                by_cases hb261 : pa_in (z3 + 1) L = true
                                                case neg => rw [if_neg hb261] at e; cases e
                                                rw [if_pos hb261] at e
                                                refine gs_iald rfl (gd_ia (j := (z3 + 1).toNatClampNeg) rfl hb261 rfl) ?_
                                                obtain ⟨r262, f263, ec264, e⟩ := ob2_some e
                                                refine gs_callvI (st := [.int r259]) rfl (pr_C_le (by decide) (th_X9_hours L (f 0 (z3 + 1).toNatClampNeg) f r262 f263 ec264)) rfl rfl rfl (by decide) rfl (Or.inr (by decide)) ?_
                                                refine gs_eq2 rfl (fun c265 => ?_) (fun c265 => ?_)
                                                · rw [if_pos c265] at e
                                                  obtain ⟨x266, hx266, e⟩ := pn_some e
                                                  refine gs_iinc1 (x1 := x266) (c := 7) (lv' := [(3, .int x266), (0, .ref 0), (1, .ref 17), (2, .ref 110)]) rfl rfl (by decide) hx266 rfl ?_
                                                  refine gs_goto rfl ?_
                                                  refine gs_drop [1, 2, 3, 0] rfl ?_
                                                  exact (ih x266 f263 _ e).2 w0 rfl _ _ K
                                                · rw [if_neg c265] at e
                                                  refine gs_iconst (x := 0) rfl (by decide) ?_
                                                  cases e
                                              · rw [if_neg c257] at e
                                                by_cases c267 : ((f 0 z3.toNatClampNeg) &&& 31) = 20
                                                · rw [if_pos c267] at e
                                                  refine gs_switch (t := 924) rfl (by rw [c267]; decide) ?_
                                                  refine gs_aload_n rfl rfl ?_
                                                  refine gs_aload_n rfl rfl ?_
                                                  refine gs_iload_n rfl rfl ?_
                                                  refine gs_iconst (x := 1) rfl (by decide) ?_
                                                  refine gs_iadd rfl ?_
                                                  by_cases hb268 : pa_in (z3 + 1) L = true
                                                  case neg => rw [if_neg hb268] at e; cases e
                                                  rw [if_pos hb268] at e
                                                  refine gs_iald rfl (gd_ia (j := (z3 + 1).toNatClampNeg) rfl hb268 rfl) ?_
                                                  obtain ⟨r269, ec270, e⟩ := ob1_some e
                                                  refine gs_callvI (st := []) rfl (pr_C_le (by decide) (th_X8_kind L (f 0 (z3 + 1).toNatClampNeg) f r269 ec270)) rfl rfl rfl (by decide) rfl (Or.inr (by decide)) ?_
                                                  refine gs_aload_n rfl rfl ?_
                                                  refine gs_aload_n rfl rfl ?_
                                                  refine gs_iload_n rfl rfl ?_
                                                  refine gs_iconst (x := 1) rfl (by decide) ?_
                                                  refine gs_iadd rfl ?_
                                                  by_cases hb271 : pa_in (z3 + 1) L = true
                                                  case neg => rw [if_neg hb271] at e; cases e
                                                  rw [if_pos hb271] at e
                                                  refine gs_iald rfl (gd_ia (j := (z3 + 1).toNatClampNeg) rfl hb271 rfl) ?_
                                                  obtain ⟨r272, f273, ec274, e⟩ := ob2_some e
                                                  refine gs_callvI (st := [.int r269]) rfl (pr_C_le (by decide) (th_X9_kind L (f 0 (z3 + 1).toNatClampNeg) f r272 f273 ec274)) rfl rfl rfl (by decide) rfl (Or.inr (by decide)) ?_
                                                  refine gs_eq2 rfl (fun c275 => ?_) (fun c275 => ?_)
                                                  · rw [if_pos c275] at e
                                                    obtain ⟨x276, hx276, e⟩ := pn_some e
                                                    refine gs_iinc1 (x1 := x276) (c := 7) (lv' := [(3, .int x276), (0, .ref 0), (1, .ref 17), (2, .ref 110)]) rfl rfl (by decide) hx276 rfl ?_
                                                    refine gs_goto rfl ?_
                                                    refine gs_drop [1, 2, 3, 0] rfl ?_
                                                    exact (ih x276 f273 _ e).2 w0 rfl _ _ K
                                                  · rw [if_neg c275] at e
                                                    refine gs_iconst (x := 0) rfl (by decide) ?_
                                                    cases e
                                                · rw [if_neg c267] at e
                                                  by_cases c277 : ((f 0 z3.toNatClampNeg) &&& 31) = 21
                                                  · rw [if_pos c277] at e
                                                    refine gs_switch (t := 947) rfl (by rw [c277]; decide) ?_
                                                    refine gs_aload_n rfl rfl ?_
                                                    refine gs_aload_n rfl rfl ?_
                                                    refine gs_iload_n rfl rfl ?_
                                                    refine gs_iconst (x := 1) rfl (by decide) ?_
                                                    refine gs_iadd rfl ?_
                                                    by_cases hb278 : pa_in (z3 + 1) L = true
                                                    case neg => rw [if_neg hb278] at e; cases e
                                                    rw [if_pos hb278] at e
                                                    refine gs_iald rfl (gd_ia (j := (z3 + 1).toNatClampNeg) rfl hb278 rfl) ?_
                                                    refine gs_aload_n rfl rfl ?_
                                                    refine gs_iload_n rfl rfl ?_
                                                    refine gs_iconst (x := 2) rfl (by decide) ?_
                                                    refine gs_iadd rfl ?_
                                                    by_cases hb279 : pa_in (z3 + 2) L = true
                                                    case neg => rw [if_neg hb279] at e; cases e
                                                    rw [if_pos hb279] at e
                                                    refine gs_iald rfl (gd_ia (j := (z3 + 2).toNatClampNeg) rfl hb279 rfl) ?_
                                                    obtain ⟨r280, f281, ec282, e⟩ := ob2_some e
                                                    refine gs_callvI (st := []) rfl (pr_C_le (by decide) (th_X8_as L (f 0 (z3 + 1).toNatClampNeg) (f 0 (z3 + 2).toNatClampNeg) f r280 f281 ec282)) rfl rfl rfl (by decide) rfl (Or.inr (by decide)) ?_
                                                    refine gs_aload_n rfl rfl ?_
                                                    refine gs_aload_n rfl rfl ?_
                                                    refine gs_iload_n rfl rfl ?_
                                                    refine gs_iconst (x := 1) rfl (by decide) ?_
                                                    refine gs_iadd rfl ?_
                                                    by_cases hb283 : pa_in (z3 + 1) L = true
                                                    case neg => rw [if_neg hb283] at e; cases e
                                                    rw [if_pos hb283] at e
                                                    refine gs_iald rfl (gd_ia (j := (z3 + 1).toNatClampNeg) rfl hb283 rfl) ?_
                                                    refine gs_aload_n rfl rfl ?_
                                                    refine gs_iload_n rfl rfl ?_
                                                    refine gs_iconst (x := 2) rfl (by decide) ?_
                                                    refine gs_iadd rfl ?_
                                                    by_cases hb284 : pa_in (z3 + 2) L = true
                                                    case neg => rw [if_neg hb284] at e; cases e
                                                    rw [if_pos hb284] at e
                                                    refine gs_iald rfl (gd_ia (j := (z3 + 2).toNatClampNeg) rfl hb284 rfl) ?_
                                                    obtain ⟨r285, f286, ec287, e⟩ := ob2_some e
                                                    refine gs_callvI (st := [.int r280]) rfl (pr_C_le (by decide) (th_X9_as L (f281 0 (z3 + 1).toNatClampNeg) (f281 0 (z3 + 2).toNatClampNeg) f281 r285 f286 ec287)) rfl rfl rfl (by decide) rfl (Or.inr (by decide)) ?_
                                                    refine gs_eq2 rfl (fun c288 => ?_) (fun c288 => ?_)
                                                    · rw [if_pos c288] at e
                                                      obtain ⟨x289, hx289, e⟩ := pn_some e
                                                      refine gs_iinc1 (x1 := x289) (c := 7) (lv' := [(3, .int x289), (0, .ref 0), (1, .ref 17), (2, .ref 110)]) rfl rfl (by decide) hx289 rfl ?_
                                                      refine gs_goto rfl ?_
                                                      refine gs_drop [1, 2, 3, 0] rfl ?_
                                                      exact (ih x289 f286 _ e).2 w0 rfl _ _ K
                                                    · rw [if_neg c288] at e
                                                      refine gs_iconst (x := 0) rfl (by decide) ?_
                                                      cases e
                                                  · rw [if_neg c277] at e
                                                    by_cases c290 : ((f 0 z3.toNatClampNeg) &&& 31) = 22
                                                    · rw [if_pos c290] at e
                                                      refine gs_switch (t := 980) rfl (by rw [c290]; decide) ?_
                                                      refine gs_aload_n rfl rfl ?_
                                                      refine gs_aload_n rfl rfl ?_
                                                      refine gs_iload_n rfl rfl ?_
                                                      refine gs_iconst (x := 1) rfl (by decide) ?_
                                                      refine gs_iadd rfl ?_
                                                      by_cases hb291 : pa_in (z3 + 1) L = true
                                                      case neg => rw [if_neg hb291] at e; cases e
                                                      rw [if_pos hb291] at e
                                                      refine gs_iald rfl (gd_ia (j := (z3 + 1).toNatClampNeg) rfl hb291 rfl) ?_
                                                      refine gs_aload_n rfl rfl ?_
                                                      refine gs_iload_n rfl rfl ?_
                                                      refine gs_iconst (x := 2) rfl (by decide) ?_
                                                      refine gs_iadd rfl ?_
                                                      by_cases hb292 : pa_in (z3 + 2) L = true
                                                      case neg => rw [if_neg hb292] at e; cases e
                                                      rw [if_pos hb292] at e
                                                      refine gs_iald rfl (gd_ia (j := (z3 + 2).toNatClampNeg) rfl hb292 rfl) ?_
                                                      obtain ⟨r293, f294, ec295, e⟩ := ob2_some e
                                                      refine gs_callvI (st := []) rfl (pr_C_le (by decide) (th_X8_ask L (f 0 (z3 + 1).toNatClampNeg) (f 0 (z3 + 2).toNatClampNeg) f r293 f294 ec295)) rfl rfl rfl (by decide) rfl (Or.inr (by decide)) ?_
                                                      refine gs_aload_n rfl rfl ?_
                                                      refine gs_aload_n rfl rfl ?_
                                                      refine gs_iload_n rfl rfl ?_
                                                      refine gs_iconst (x := 1) rfl (by decide) ?_
                                                      refine gs_iadd rfl ?_
                                                      by_cases hb296 : pa_in (z3 + 1) L = true
                                                      case neg => rw [if_neg hb296] at e; cases e
                                                      rw [if_pos hb296] at e
                                                      refine gs_iald rfl (gd_ia (j := (z3 + 1).toNatClampNeg) rfl hb296 rfl) ?_
                                                      refine gs_aload_n rfl rfl ?_
                                                      refine gs_iload_n rfl rfl ?_
                                                      refine gs_iconst (x := 2) rfl (by decide) ?_
                                                      refine gs_iadd rfl ?_
                                                      by_cases hb297 : pa_in (z3 + 2) L = true
                                                      case neg => rw [if_neg hb297] at e; cases e
                                                      rw [if_pos hb297] at e
                                                      refine gs_iald rfl (gd_ia (j := (z3 + 2).toNatClampNeg) rfl hb297 rfl) ?_
                                                      obtain ⟨r298, f299, ec300, e⟩ := ob2_some e
                                                      refine gs_callvI (st := [.int r293]) rfl (pr_C_le (by decide) (th_X9_ask L (f294 0 (z3 + 1).toNatClampNeg) (f294 0 (z3 + 2).toNatClampNeg) f294 r298 f299 ec300)) rfl rfl rfl (by decide) rfl (Or.inr (by decide)) ?_
                                                      refine gs_eq2 rfl (fun c301 => ?_) (fun c301 => ?_)
                                                      · rw [if_pos c301] at e
                                                        obtain ⟨x302, hx302, e⟩ := pn_some e
                                                        refine gs_iinc1 (x1 := x302) (c := 7) (lv' := [(3, .int x302), (0, .ref 0), (1, .ref 17), (2, .ref 110)]) rfl rfl (by decide) hx302 rfl ?_
                                                        refine gs_goto rfl ?_
                                                        refine gs_drop [1, 2, 3, 0] rfl ?_
                                                        exact (ih x302 f299 _ e).2 w0 rfl _ _ K
                                                      · rw [if_neg c301] at e
                                                        refine gs_iconst (x := 0) rfl (by decide) ?_
                                                        cases e
                                                    · rw [if_neg c290] at e
                                                      by_cases c303 : ((f 0 z3.toNatClampNeg) &&& 31) = 23
                                                      · rw [if_pos c303] at e
                                                        refine gs_switch (t := 1013) rfl (by rw [c303]; decide) ?_
                                                        refine gs_aload_n rfl rfl ?_
                                                        refine gs_aload_n rfl rfl ?_
                                                        refine gs_iload_n rfl rfl ?_
                                                        refine gs_iconst (x := 1) rfl (by decide) ?_
                                                        refine gs_iadd rfl ?_
                                                        by_cases hb304 : pa_in (z3 + 1) L = true
                                                        case neg => rw [if_neg hb304] at e; cases e
                                                        rw [if_pos hb304] at e
                                                        refine gs_iald rfl (gd_ia (j := (z3 + 1).toNatClampNeg) rfl hb304 rfl) ?_
                                                        obtain ⟨r305, ec306, e⟩ := ob1_some e
                                                        refine gs_callvI (st := []) rfl (pr_C_le (by decide) (th_X8_trace L (f 0 (z3 + 1).toNatClampNeg) f r305 ec306)) rfl rfl rfl (by decide) rfl (Or.inr (by decide)) ?_
                                                        refine gs_aload_n rfl rfl ?_
                                                        refine gs_aload_n rfl rfl ?_
                                                        refine gs_iload_n rfl rfl ?_
                                                        refine gs_iconst (x := 1) rfl (by decide) ?_
                                                        refine gs_iadd rfl ?_
                                                        by_cases hb307 : pa_in (z3 + 1) L = true
                                                        case neg => rw [if_neg hb307] at e; cases e
                                                        rw [if_pos hb307] at e
                                                        refine gs_iald rfl (gd_ia (j := (z3 + 1).toNatClampNeg) rfl hb307 rfl) ?_
                                                        obtain ⟨r308, f309, ec310, e⟩ := ob2_some e
                                                        refine gs_callvI (st := [.int r305]) rfl (pr_C_le (by decide) (th_X9_trace L (f 0 (z3 + 1).toNatClampNeg) f r308 f309 ec310)) rfl rfl rfl (by decide) rfl (Or.inr (by decide)) ?_
                                                        refine gs_eq2 rfl (fun c311 => ?_) (fun c311 => ?_)
                                                        · rw [if_pos c311] at e
                                                          obtain ⟨x312, hx312, e⟩ := pn_some e
                                                          refine gs_iinc1 (x1 := x312) (c := 7) (lv' := [(3, .int x312), (0, .ref 0), (1, .ref 17), (2, .ref 110)]) rfl rfl (by decide) hx312 rfl ?_
                                                          refine gs_goto rfl ?_
                                                          refine gs_drop [1, 2, 3, 0] rfl ?_
                                                          exact (ih x312 f309 _ e).2 w0 rfl _ _ K
                                                        · rw [if_neg c311] at e
                                                          refine gs_iconst (x := 0) rfl (by decide) ?_
                                                          cases e
                                                      · rw [if_neg c303] at e
                                                        by_cases c313 : ((f 0 z3.toNatClampNeg) &&& 31) = 24
                                                        · rw [if_pos c313] at e
                                                          refine gs_switch (t := 1036) rfl (by rw [c313]; decide) ?_
                                                          refine gs_aload_n rfl rfl ?_
                                                          refine gs_aload_n rfl rfl ?_
                                                          refine gs_iload_n rfl rfl ?_
                                                          refine gs_iconst (x := 1) rfl (by decide) ?_
                                                          refine gs_iadd rfl ?_
                                                          by_cases hb314 : pa_in (z3 + 1) L = true
                                                          case neg => rw [if_neg hb314] at e; cases e
                                                          rw [if_pos hb314] at e
                                                          refine gs_iald rfl (gd_ia (j := (z3 + 1).toNatClampNeg) rfl hb314 rfl) ?_
                                                          obtain ⟨r315, ec316, e⟩ := ob1_some e
                                                          refine gs_callvI (st := []) rfl (pr_C_le (by decide) (th_X8_count L (f 0 (z3 + 1).toNatClampNeg) f r315 ec316)) rfl rfl rfl (by decide) rfl (Or.inr (by decide)) ?_
                                                          refine gs_aload_n rfl rfl ?_
                                                          refine gs_aload_n rfl rfl ?_
                                                          refine gs_iload_n rfl rfl ?_
                                                          refine gs_iconst (x := 1) rfl (by decide) ?_
                                                          refine gs_iadd rfl ?_
                                                          by_cases hb317 : pa_in (z3 + 1) L = true
                                                          case neg => rw [if_neg hb317] at e; cases e
                                                          rw [if_pos hb317] at e
                                                          refine gs_iald rfl (gd_ia (j := (z3 + 1).toNatClampNeg) rfl hb317 rfl) ?_
                                                          obtain ⟨r318, f319, ec320, e⟩ := ob2_some e
                                                          refine gs_callvI (st := [.int r315]) rfl (pr_C_le (by decide) (th_X9_count L (f 0 (z3 + 1).toNatClampNeg) f r318 f319 ec320)) rfl rfl rfl (by decide) rfl (Or.inr (by decide)) ?_
                                                          refine gs_eq2 rfl (fun c321 => ?_) (fun c321 => ?_)
                                                          · rw [if_pos c321] at e
                                                            obtain ⟨x322, hx322, e⟩ := pn_some e
                                                            refine gs_iinc1 (x1 := x322) (c := 7) (lv' := [(3, .int x322), (0, .ref 0), (1, .ref 17), (2, .ref 110)]) rfl rfl (by decide) hx322 rfl ?_
                                                            refine gs_goto rfl ?_
                                                            refine gs_drop [1, 2, 3, 0] rfl ?_
                                                            exact (ih x322 f319 _ e).2 w0 rfl _ _ K
                                                          · rw [if_neg c321] at e
                                                            refine gs_iconst (x := 0) rfl (by decide) ?_
                                                            cases e
                                                        · rw [if_neg c313] at e
                                                          by_cases c323 : ((f 0 z3.toNatClampNeg) &&& 31) = 25
                                                          · rw [if_pos c323] at e
                                                            refine gs_switch (t := 1059) rfl (by rw [c323]; decide) ?_
                                                            refine gs_aload_n rfl rfl ?_
                                                            refine gs_callvI (st := []) rfl (pr_C_le (by decide) (th_X8_status L f _ rfl)) rfl rfl rfl (by decide) rfl (Or.inr (by decide)) ?_
                                                            refine gs_aload_n rfl rfl ?_
                                                            obtain ⟨r324, f325, ec326, e⟩ := ob2_some e
                                                            refine gs_callvI (st := [.int (fn_X8_status f)]) rfl (pr_C_le (by decide) (th_X9_status L f r324 f325 ec326)) rfl rfl rfl (by decide) rfl (Or.inr (by decide)) ?_
                                                            refine gs_eq2 rfl (fun c327 => ?_) (fun c327 => ?_)
                                                            · rw [if_pos c327] at e
                                                              obtain ⟨x328, hx328, e⟩ := pn_some e
                                                              refine gs_iinc1 (x1 := x328) (c := 7) (lv' := [(3, .int x328), (0, .ref 0), (1, .ref 17), (2, .ref 110)]) rfl rfl (by decide) hx328 rfl ?_
                                                              refine gs_goto rfl ?_
                                                              refine gs_drop [1, 2, 3, 0] rfl ?_
                                                              exact (ih x328 f325 _ e).2 w0 rfl _ _ K
                                                            · rw [if_neg c327] at e
                                                              refine gs_iconst (x := 0) rfl (by decide) ?_
                                                              cases e
                                                          · rw [if_neg c323] at e
                                                            refine gs_switch (t := 1072) rfl (sw_out (lo := 0) (hi := 25) (by decide) (fun k hk => by
                                                              rcases (by omega : k = 0 ∨ k = 1 ∨ k = 2 ∨ k = 3 ∨ k = 4 ∨ k = 5 ∨ k = 6 ∨ k = 7 ∨ k = 8 ∨ k = 9 ∨ k = 10 ∨ k = 11 ∨ k = 12 ∨ k = 13 ∨ k = 14 ∨ k = 15 ∨ k = 16 ∨ k = 17 ∨ k = 18 ∨ k = 19 ∨ k = 20 ∨ k = 21 ∨ k = 22 ∨ k = 23 ∨ k = 24 ∨ k = 25) with rfl | rfl | rfl | rfl | rfl | rfl | rfl | rfl | rfl | rfl | rfl | rfl | rfl | rfl | rfl | rfl | rfl | rfl | rfl | rfl | rfl | rfl | rfl | rfl | rfl | rfl
                                                              · exact fun z => c3 (z.trans (by decide))
                                                              · exact fun z => c18 (z.trans (by decide))
                                                              · exact fun z => c33 (z.trans (by decide))
                                                              · exact fun z => c52 (z.trans (by decide))
                                                              · exact fun z => c63 (z.trans (by decide))
                                                              · exact fun z => c78 (z.trans (by decide))
                                                              · exact fun z => c87 (z.trans (by decide))
                                                              · exact fun z => c93 (z.trans (by decide))
                                                              · exact fun z => c103 (z.trans (by decide))
                                                              · exact fun z => c121 (z.trans (by decide))
                                                              · exact fun z => c133 (z.trans (by decide))
                                                              · exact fun z => c147 (z.trans (by decide))
                                                              · exact fun z => c167 (z.trans (by decide))
                                                              · exact fun z => c184 (z.trans (by decide))
                                                              · exact fun z => c196 (z.trans (by decide))
                                                              · exact fun z => c206 (z.trans (by decide))
                                                              · exact fun z => c220 (z.trans (by decide))
                                                              · exact fun z => c230 (z.trans (by decide))
                                                              · exact fun z => c242 (z.trans (by decide))
                                                              · exact fun z => c257 (z.trans (by decide))
                                                              · exact fun z => c267 (z.trans (by decide))
                                                              · exact fun z => c277 (z.trans (by decide))
                                                              · exact fun z => c290 (z.trans (by decide))
                                                              · exact fun z => c303 (z.trans (by decide))
                                                              · exact fun z => c313 (z.trans (by decide))
                                                              · exact fun z => c323 (z.trans (by decide))) (by decide)) ?_
                                                            obtain ⟨x329, hx329, e⟩ := pn_some e
                                                            refine gs_iinc1 (x1 := x329) (c := 7) (lv' := [(3, .int x329), (0, .ref 0), (1, .ref 17), (2, .ref 110)]) rfl rfl (by decide) hx329 rfl ?_
                                                            refine gs_goto rfl ?_
                                                            refine gs_drop [1, 2, 3, 0] rfl ?_
                                                            exact (ih x329 f _ e).2 w0 rfl _ _ K
