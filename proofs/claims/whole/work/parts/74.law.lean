/-! the law's cases, walked, 4 (written by wip/whole/gen/gen_law.py) -/
set_option maxHeartbeats 4000000 in
set_option maxRecDepth 100000 in
theorem cs_drops {p : Program} {l : Launch} {e : Env} {s : State} {m : MethodId} {args : Array Value} {below : List Frame} {meth : Method} {c : Code} {cells slots : Nat} {Q : State → Prop} {D : va_G} {cI : Nat → ClassId} {A : Nat → Prop} {b L i : Nat} {xs : Nat → Int32} {a am : Nat → Nat} {ao : Nat} {hadH hadL : Nat → Nat → Nat} {n t : kSt} {hs gs : Nat → kSt} {len hsz hnx mref msize macts mspot mout : Int32} {sg lk mtext mnow mtrial mdiary mkept misk mside mwas : kF} {out : Nat → Int64}
    (C0 : LC p l s m args c D cI A b L xs) (hcs : cells + 1 ≤ 601024 ∧ slots + 6 ≤ 7293034) (hi : i + 5 ≤ L) {o : Int32} (ho : fn_X7_drops n.2.2.2.1 n.2.2.2.2.2.2.1 n.2.2.2.2.2.2.2.2.2.2.2.2 = some o) {o' : (Int32 × Int32)} (ho' : fn_X8_drops mref mnow = some o') (e1 : o = o'.1)
    {H : Heap} {locs : List Loc} {ls : Array Slot} (hP : va_P D vwCl (lawP cI a am ao hadH hadL n t sg len hsz hnx lk out mref msize macts mspot mout mtext mnow mtrial mdiary mkept misk mside mwas ++ (famW cI 14 hadH hs ++ famW cI 2 hadL gs)) H) (hD : va_D A (lawP cI a am ao hadH hadL n t sg len hsz hnx lk out mref msize macts mspot mout mtext mnow mtrial mdiary mkept misk mside mwas ++ (famW cI 14 hadH hs ++ famW cI 2 hadL gs))) (hS : va_S A s.heap H locs) (hl : lv_has ls 7 (lawL a am ao b i))
    (kk : ∀ (H : Heap) (locs : List Loc) (ls : Array Slot), va_P D vwCl (lawP cI a am ao hadH hadL n t sg len hsz hnx lk out o'.2 msize macts mspot mout mtext mnow mtrial mdiary mkept misk mside mwas ++ (famW cI 14 hadH hs ++ famW cI 2 hadL gs)) H → va_D A (lawP cI a am ao hadH hadL n t sg len hsz hnx lk out o'.2 msize macts mspot mout mtext mnow mtrial mdiary mkept misk mside mwas ++ (famW cI 14 hadH hs ++ famW cI 2 hadL gs)) → va_S A s.heap H locs → lv_has ls 7 (lawL a am ao b i) → W p l e room_1 s m args below meth c H locs cells slots Q (F0 m 1417 ls [])) :
    W p l e room_1 s m args below meth c H locs cells slots Q (F0 m 1092 ls []) := by
  obtain ⟨hF, hK, hG, hA, hX, hbl, hbA, hst, hL⟩ := C0
  obtain ⟨hx, hb, hml, hown, hts⟩ := id hF
  have hc0 : cells ≤ room_1.cells ∧ slots ≤ room_1.slots := ⟨by show cells ≤ 601024; omega, by show slots ≤ 7293034; omega⟩
  have hc1 : cells + 1 ≤ room_1.cells ∧ slots + 6 ≤ room_1.slots := hcs
  refine lv_aload_n hx hb dL_law_1092 rfl (lv_at hl 1 rfl) ?_
  refine kd_Vi (av := []) (rest := []) hF hK hG hA (mk_X7_drops l D cI (a 0) (a 1) (a 3) (a 11) (a 19) (a 21) (a 4) (a 7) (a 10) (a 5) (a 6) H.size n.1 n.2.1 n.2.2.1 n.2.2.2.1 n.2.2.2.2.1 n.2.2.2.2.2.1 n.2.2.2.2.2.2.1 n.2.2.2.2.2.2.2.2.2.2.2.2 o ho) (cwV 0 hts gL_law_X7_drops rfl rfl rfl (by decide +kernel) ⟨Nat.le_of_ble_eq_true rfl, Nat.le_of_ble_eq_true rfl⟩) hP hD hS (kSub0 [0, 3, 4, 5, 10] (by decide) rfl rfl) 0 rfl rfl rfl hl.1 rfl (Nat.le_of_ble_eq_true rfl) hc0 dL_law_1093 (fun H locs hP hD hS => ?_)
  have hP : va_P D vwCl (lawP cI a am ao hadH hadL n t sg len hsz hnx lk out mref msize macts mspot mout mtext mnow mtrial mdiary mkept misk mside mwas ++ (famW cI 14 hadH hs ++ famW cI 2 hadL gs)) H := hP
  have hD : va_D A (lawP cI a am ao hadH hadL n t sg len hsz hnx lk out mref msize macts mspot mout mtext mnow mtrial mdiary mkept misk mside mwas ++ (famW cI 14 hadH hs ++ famW cI 2 hadL gs)) := hD
  refine lv_aload_n hx hb dL_law_1096 rfl (lv_at hl 2 rfl) ?_
  refine kd_Vi (av := []) (rest := [.int o]) hF hK hG hA (mk_X8_drops l D cI (am 0) (am 1) (am 2) (am 3) (am 4) (am 5) (am 6) (am 7) (am 8) H.size mref msize macts mspot mout mnow o' ho') (cwV 0 hts gL_law_X8_drops rfl rfl rfl (by decide +kernel) ⟨Nat.le_of_ble_eq_true rfl, Nat.le_of_ble_eq_true rfl⟩) hP hD hS (kSub0 [24, 26] (by decide) rfl rfl) 0 rfl rfl rfl hl.1 rfl (Nat.le_of_ble_eq_true rfl) hc0 dL_law_1097 (fun H locs hP hD hS => ?_)
  have hP : va_P D vwCl (lawP cI a am ao hadH hadL n t sg len hsz hnx lk out o'.2 msize macts mspot mout mtext mnow mtrial mdiary mkept misk mside mwas ++ (famW cI 14 hadH hs ++ famW cI 2 hadL gs)) H := hP
  have hD : va_D A (lawP cI a am ao hadH hadL n t sg len hsz hnx lk out o'.2 msize macts mspot mout mtext mnow mtrial mdiary mkept misk mside mwas ++ (famW cI 14 hadH hs ++ famW cI 2 hadL gs)) := hD
  refine lv_icmp_eq (tgt := 1417) hx hb dL_law_1100 (by decide) (fun _ => ?_) (fun c9 => absurd e1 c9)
  exact kk _ _ _ hP hD hS (lv_sub hl [0, 1, 2, 3, 4] rfl)
set_option maxHeartbeats 4000000 in
set_option maxRecDepth 100000 in
theorem cs_runScript {p : Program} {l : Launch} {e : Env} {s : State} {m : MethodId} {args : Array Value} {below : List Frame} {meth : Method} {c : Code} {cells slots : Nat} {Q : State → Prop} {D : va_G} {cI : Nat → ClassId} {A : Nat → Prop} {b L i : Nat} {xs : Nat → Int32} {a am : Nat → Nat} {ao : Nat} {hadH hadL : Nat → Nat → Nat} {n t : kSt} {hs gs : Nat → kSt} {len hsz hnx mref msize macts mspot mout : Int32} {sg lk mtext mnow mtrial mdiary mkept misk mside mwas : kF} {out : Nat → Int64}
    (C0 : LC p l s m args c D cI A b L xs) (hcs : cells + 1 ≤ 601024 ∧ slots + 6 ≤ 7293034) (hi : i + 5 ≤ L) {o : (Int32 × Int32 × Int32 × Int32 × Int32 × Int32 × Int32 × kF × kF × Int32 × Int32 × kF × kF × kF × (Nat → Int64))} (ho : fn_L_runScript n.1 n.2.1 n.2.2.1 n.2.2.2.1 n.2.2.2.2.2.2.1 n.2.2.2.2.2.2.2.1 n.2.2.2.2.2.2.2.2.1 n.2.2.2.2.2.2.2.2.2.1 n.2.2.2.2.2.2.2.2.2.2.1 n.2.2.2.2.2.2.2.2.2.2.2.1 n.2.2.2.2.2.2.2.2.2.2.2.2 t.1 t.2.1 t.2.2.1 t.2.2.2.1 t.2.2.2.2.1 t.2.2.2.2.2.1 t.2.2.2.2.2.2.1 t.2.2.2.2.2.2.2.1 t.2.2.2.2.2.2.2.2.1 t.2.2.2.2.2.2.2.2.2.1 t.2.2.2.2.2.2.2.2.2.2.1 t.2.2.2.2.2.2.2.2.2.2.2.1 t.2.2.2.2.2.2.2.2.2.2.2.2 out (xs (i + 1)) (((xs (i + 2)).toInt64 <<< (((32 : Int32)).toInt64 &&& 63)) ||| ((xs (i + 3)).toInt64 &&& (4294967295 : Int64))) = some o) {o' : (Int32 × Int32 × kF × kF × kF)} (ho' : fn_X8_runScript mref mnow mtrial mside mwas (xs (i + 1)) (((xs (i + 2)).toInt64 <<< (((32 : Int32)).toInt64 &&& 63)) ||| ((xs (i + 3)).toInt64 &&& (4294967295 : Int64))) = some o') (e1 : o'.2.1 = o.1) (e2 : o.1 = 0 → (o.2.2.2.2.2.2.2.2.2.2.2.2.2.2 0) = (o'.1).toInt64)
    {H : Heap} {locs : List Loc} {ls : Array Slot} (hP : va_P D vwCl (lawP cI a am ao hadH hadL n t sg len hsz hnx lk out mref msize macts mspot mout mtext mnow mtrial mdiary mkept misk mside mwas ++ (famW cI 14 hadH hs ++ famW cI 2 hadL gs)) H) (hD : va_D A (lawP cI a am ao hadH hadL n t sg len hsz hnx lk out mref msize macts mspot mout mtext mnow mtrial mdiary mkept misk mside mwas ++ (famW cI 14 hadH hs ++ famW cI 2 hadL gs))) (hS : va_S A s.heap H locs) (hl : lv_has ls 7 (lawL a am ao b i))
    (kk : ∀ (H : Heap) (locs : List Loc) (ls : Array Slot), va_P D vwCl (lawP cI a am ao hadH hadL n (o.2.1, o.2.2.1, o.2.2.2.1, o.2.2.2.2.1, o.2.2.2.2.2.1, o.2.2.2.2.2.2.1, o.2.2.2.2.2.2.2.1, o.2.2.2.2.2.2.2.2.1, o.2.2.2.2.2.2.2.2.2.1, o.2.2.2.2.2.2.2.2.2.2.1, o.2.2.2.2.2.2.2.2.2.2.2.1, o.2.2.2.2.2.2.2.2.2.2.2.2.1, o.2.2.2.2.2.2.2.2.2.2.2.2.2.1) sg len hsz hnx lk o.2.2.2.2.2.2.2.2.2.2.2.2.2.2 o'.2.1 msize macts mspot mout mtext mnow o'.2.2.1 mdiary mkept misk o'.2.2.2.1 o'.2.2.2.2 ++ (famW cI 14 hadH hs ++ famW cI 2 hadL gs)) H → va_D A (lawP cI a am ao hadH hadL n (o.2.1, o.2.2.1, o.2.2.2.1, o.2.2.2.2.1, o.2.2.2.2.2.1, o.2.2.2.2.2.2.1, o.2.2.2.2.2.2.2.1, o.2.2.2.2.2.2.2.2.1, o.2.2.2.2.2.2.2.2.2.1, o.2.2.2.2.2.2.2.2.2.2.1, o.2.2.2.2.2.2.2.2.2.2.2.1, o.2.2.2.2.2.2.2.2.2.2.2.2.1, o.2.2.2.2.2.2.2.2.2.2.2.2.2.1) sg len hsz hnx lk o.2.2.2.2.2.2.2.2.2.2.2.2.2.2 o'.2.1 msize macts mspot mout mtext mnow o'.2.2.1 mdiary mkept misk o'.2.2.2.1 o'.2.2.2.2 ++ (famW cI 14 hadH hs ++ famW cI 2 hadL gs)) → va_S A s.heap H locs → lv_has ls 7 (lawL a am ao b i) → W p l e room_1 s m args below meth c H locs (cells + 1) (slots + 6) Q (F0 m 1417 ls [])) :
    W p l e room_1 s m args below meth c H locs cells slots Q (F0 m 1105 ls []) := by
  obtain ⟨hF, hK, hG, hA, hX, hbl, hbA, hst, hL⟩ := C0
  obtain ⟨hx, hb, hml, hown, hts⟩ := id hF
  have hc0 : cells ≤ room_1.cells ∧ slots ≤ room_1.slots := ⟨by show cells ≤ 601024; omega, by show slots ≤ 7293034; omega⟩
  have hc1 : cells + 1 ≤ room_1.cells ∧ slots + 6 ≤ room_1.slots := hcs
  refine lv_aload_n hx hb dL_law_1105 rfl (lv_at hl 1 rfl) ?_
  refine lv_aload_n hx hb dL_law_1106 rfl (lv_at hl 0 rfl) ?_
  refine lv_iload hx hb dL_law_1107 (lv_at hl 4 rfl) ?_
  refine lv_iconst (v := 1) hx hb dL_law_1109 (by decide) ?_
  refine lv_iadd hx hb dL_law_1110 ?_
  refine k_sld (j := i + 1) hx hb hX hbl hbA hS (nI_add i 1) (by omega) (by omega) dL_law_1111 ?_
  refine lv_aload_n hx hb dL_law_1112 rfl (lv_at hl 0 rfl) ?_
  refine lv_iload hx hb dL_law_1113 (lv_at hl 4 rfl) ?_
  refine lv_iconst (v := 2) hx hb dL_law_1115 (by decide) ?_
  refine lv_iadd hx hb dL_law_1116 ?_
  refine k_sld (j := i + 2) hx hb hX hbl hbA hS (nI_add i 2) (by omega) (by omega) dL_law_1117 ?_
  refine lv_i2l (v := (xs (i + 2)).toInt64) hx hb dL_law_1118 rfl ?_
  refine lv_bipush (v := 32) hx hb dL_law_1119 (by decide) ?_
  refine lv_lshl (v := ((xs (i + 2)).toInt64 <<< (((32 : Int32)).toInt64 &&& 63))) hx hb dL_law_1121 rfl ?_
  refine lv_aload_n hx hb dL_law_1122 rfl (lv_at hl 0 rfl) ?_
  refine lv_iload hx hb dL_law_1123 (lv_at hl 4 rfl) ?_
  refine lv_iconst (v := 3) hx hb dL_law_1125 (by decide) ?_
  refine lv_iadd hx hb dL_law_1126 ?_
  refine k_sld (j := i + 3) hx hb hX hbl hbA hS (nI_add i 3) (by omega) (by omega) dL_law_1127 ?_
  refine lv_i2l (v := (xs (i + 3)).toInt64) hx hb dL_law_1128 rfl ?_
  refine lv_ldc2 (v := 4294967295) hx hb hown (hts (.constantLong RL 152 4294967295) (by decide +kernel)) dL_law_1129 ?_
  refine lv_land hx hb dL_law_1132 ?_
  refine lv_lor hx hb dL_law_1133 ?_
  refine lv_aload_n hx hb dL_law_1134 rfl (lv_at hl 3 rfl) ?_
  refine kw_Si (av := [.ref (a 0), .int (xs (i + 1)), .long (((xs (i + 2)).toInt64 <<< (((32 : Int32)).toInt64 &&& 63)) ||| ((xs (i + 3)).toInt64 &&& (4294967295 : Int64))), .ref ao]) (rest := []) hF hK hG hA (mk_L_runScript l hst D cI (a 0) (a 1) (a 3) (a 11) (a 19) (a 21) (a 4) (a 7) (a 10) (a 5) (a 6) (a 8) (a 9) (a 12) (a 15) (a 18) (a 13) (a 14) (a 16) (a 17) ao H.size n.1 n.2.1 n.2.2.1 n.2.2.2.1 n.2.2.2.2.1 n.2.2.2.2.2.1 n.2.2.2.2.2.2.1 n.2.2.2.2.2.2.2.1 n.2.2.2.2.2.2.2.2.1 n.2.2.2.2.2.2.2.2.2.1 n.2.2.2.2.2.2.2.2.2.2.1 n.2.2.2.2.2.2.2.2.2.2.2.1 n.2.2.2.2.2.2.2.2.2.2.2.2 t.1 t.2.1 t.2.2.1 t.2.2.2.1 t.2.2.2.2.1 t.2.2.2.2.2.1 t.2.2.2.2.2.2.1 t.2.2.2.2.2.2.2.1 t.2.2.2.2.2.2.2.2.1 t.2.2.2.2.2.2.2.2.2.1 t.2.2.2.2.2.2.2.2.2.2.1 t.2.2.2.2.2.2.2.2.2.2.2.1 t.2.2.2.2.2.2.2.2.2.2.2.2 out (xs (i + 1)) (((xs (i + 2)).toInt64 <<< (((32 : Int32)).toInt64 &&& 63)) ||| ((xs (i + 3)).toInt64 &&& (4294967295 : Int64))) o ho) (vx_cwSW 4 hts gL_law_L_runScript rfl rfl rfl (by decide +kernel) ⟨Nat.le_of_ble_eq_true rfl, Nat.le_of_ble_eq_true rfl⟩) hP hD hS (kSub0 [0, 3, 4, 5, 6, 7, 8, 9, 10, 11, 12, 13, 14, 15, 16, 17, 18, 33] (by decide) rfl rfl) rfl hl.1 rfl (Nat.le_of_ble_eq_true rfl) hcs dL_law_1135 (fun H locs hP hD hS => ?_)
  have hP : va_P D vwCl (lawP cI a am ao hadH hadL n (o.2.1, o.2.2.1, o.2.2.2.1, o.2.2.2.2.1, o.2.2.2.2.2.1, o.2.2.2.2.2.2.1, o.2.2.2.2.2.2.2.1, o.2.2.2.2.2.2.2.2.1, o.2.2.2.2.2.2.2.2.2.1, o.2.2.2.2.2.2.2.2.2.2.1, o.2.2.2.2.2.2.2.2.2.2.2.1, o.2.2.2.2.2.2.2.2.2.2.2.2.1, o.2.2.2.2.2.2.2.2.2.2.2.2.2.1) sg len hsz hnx lk o.2.2.2.2.2.2.2.2.2.2.2.2.2.2 mref msize macts mspot mout mtext mnow mtrial mdiary mkept misk mside mwas ++ (famW cI 14 hadH hs ++ famW cI 2 hadL gs)) H := hP
  have hD : va_D A (lawP cI a am ao hadH hadL n (o.2.1, o.2.2.1, o.2.2.2.1, o.2.2.2.2.1, o.2.2.2.2.2.1, o.2.2.2.2.2.2.1, o.2.2.2.2.2.2.2.1, o.2.2.2.2.2.2.2.2.1, o.2.2.2.2.2.2.2.2.2.1, o.2.2.2.2.2.2.2.2.2.2.1, o.2.2.2.2.2.2.2.2.2.2.2.1, o.2.2.2.2.2.2.2.2.2.2.2.2.1, o.2.2.2.2.2.2.2.2.2.2.2.2.2.1) sg len hsz hnx lk o.2.2.2.2.2.2.2.2.2.2.2.2.2.2 mref msize macts mspot mout mtext mnow mtrial mdiary mkept misk mside mwas ++ (famW cI 14 hadH hs ++ famW cI 2 hadL gs)) := hD
  refine lv_istore (lv' := [(5, .int o.1), (0, .ref b), (1, .ref (a 0)), (2, .ref (am 0)), (3, .ref ao), (4, .int (nI i))]) hx hb dL_law_1138 hl (by decide) rfl (fun ls hl => ?_)
  refine lv_aload_n hx hb dL_law_1140 rfl (lv_at hl 3 rfl) ?_
  refine lv_aload_n hx hb dL_law_1141 rfl (lv_at hl 1 rfl) ?_
  refine lv_iload hx hb dL_law_1142 (lv_at hl 5 rfl) ?_
  refine lv_iconst (v := 1) hx hb dL_law_1144 (by decide) ?_
  refine lv_iadd hx hb dL_law_1145 ?_
  refine k_sld (j := i + 1) hx hb hX hbl hbA hS (nI_add i 1) (by omega) (by omega) dL_law_1146 ?_
  refine lv_aload_n hx hb dL_law_1147 rfl (lv_at hl 1 rfl) ?_
  refine lv_iload hx hb dL_law_1148 (lv_at hl 5 rfl) ?_
  refine lv_iconst (v := 2) hx hb dL_law_1150 (by decide) ?_
  refine lv_iadd hx hb dL_law_1151 ?_
  refine k_sld (j := i + 2) hx hb hX hbl hbA hS (nI_add i 2) (by omega) (by omega) dL_law_1152 ?_
  refine lv_i2l (v := (xs (i + 2)).toInt64) hx hb dL_law_1153 rfl ?_
  refine lv_bipush (v := 32) hx hb dL_law_1154 (by decide) ?_
  refine lv_lshl (v := ((xs (i + 2)).toInt64 <<< (((32 : Int32)).toInt64 &&& 63))) hx hb dL_law_1156 rfl ?_
  refine lv_aload_n hx hb dL_law_1157 rfl (lv_at hl 1 rfl) ?_
  refine lv_iload hx hb dL_law_1158 (lv_at hl 5 rfl) ?_
  refine lv_iconst (v := 3) hx hb dL_law_1160 (by decide) ?_
  refine lv_iadd hx hb dL_law_1161 ?_
  refine k_sld (j := i + 3) hx hb hX hbl hbA hS (nI_add i 3) (by omega) (by omega) dL_law_1162 ?_
  refine lv_i2l (v := (xs (i + 3)).toInt64) hx hb dL_law_1163 rfl ?_
  refine lv_ldc2 (v := 4294967295) hx hb hown (hts (.constantLong RL 152 4294967295) (by decide +kernel)) dL_law_1164 ?_
  refine lv_land hx hb dL_law_1167 ?_
  refine lv_lor hx hb dL_law_1168 ?_
  refine kd_Vi (av := [.int (xs (i + 1)), .long (((xs (i + 2)).toInt64 <<< (((32 : Int32)).toInt64 &&& 63)) ||| ((xs (i + 3)).toInt64 &&& (4294967295 : Int64)))]) (rest := []) hF hK hG hA (mk_X8_runScript l D cI (am 0) (am 1) (am 2) (am 3) (am 4) (am 5) (am 6) (am 7) (am 8) H.size mref msize macts mspot mout mnow mtrial mside mwas (xs (i + 1)) (((xs (i + 2)).toInt64 <<< (((32 : Int32)).toInt64 &&& 63)) ||| ((xs (i + 3)).toInt64 &&& (4294967295 : Int64))) o' ho') (cwV 2 hts gL_law_X8_runScript rfl rfl rfl (by decide +kernel) ⟨Nat.le_of_ble_eq_true rfl, Nat.le_of_ble_eq_true rfl⟩) hP hD hS (kSub0 [24, 26, 27, 31, 32] (by decide) rfl rfl) 0 rfl rfl rfl hl.1 rfl (Nat.le_of_ble_eq_true rfl) hc1 dL_law_1169 (fun H locs hP hD hS => ?_)
  have hP : va_P D vwCl (lawP cI a am ao hadH hadL n (o.2.1, o.2.2.1, o.2.2.2.1, o.2.2.2.2.1, o.2.2.2.2.2.1, o.2.2.2.2.2.2.1, o.2.2.2.2.2.2.2.1, o.2.2.2.2.2.2.2.2.1, o.2.2.2.2.2.2.2.2.2.1, o.2.2.2.2.2.2.2.2.2.2.1, o.2.2.2.2.2.2.2.2.2.2.2.1, o.2.2.2.2.2.2.2.2.2.2.2.2.1, o.2.2.2.2.2.2.2.2.2.2.2.2.2.1) sg len hsz hnx lk o.2.2.2.2.2.2.2.2.2.2.2.2.2.2 o'.2.1 msize macts mspot mout mtext mnow o'.2.2.1 mdiary mkept misk o'.2.2.2.1 o'.2.2.2.2 ++ (famW cI 14 hadH hs ++ famW cI 2 hadL gs)) H := hP
  have hD : va_D A (lawP cI a am ao hadH hadL n (o.2.1, o.2.2.1, o.2.2.2.1, o.2.2.2.2.1, o.2.2.2.2.2.1, o.2.2.2.2.2.2.1, o.2.2.2.2.2.2.2.1, o.2.2.2.2.2.2.2.2.1, o.2.2.2.2.2.2.2.2.2.1, o.2.2.2.2.2.2.2.2.2.2.1, o.2.2.2.2.2.2.2.2.2.2.2.1, o.2.2.2.2.2.2.2.2.2.2.2.2.1, o.2.2.2.2.2.2.2.2.2.2.2.2.2.1) sg len hsz hnx lk o.2.2.2.2.2.2.2.2.2.2.2.2.2.2 o'.2.1 msize macts mspot mout mtext mnow o'.2.2.1 mdiary mkept misk o'.2.2.2.1 o'.2.2.2.2 ++ (famW cI 14 hadH hs ++ famW cI 2 hadL gs)) := hD
  refine lv_istore (lv' := [(6, .int o'.1), (5, .int o.1), (0, .ref b), (1, .ref (a 0)), (2, .ref (am 0)), (3, .ref ao), (4, .int (nI i))]) hx hb dL_law_1172 hl (by decide) rfl (fun ls hl => ?_)
  refine lv_aload_n hx hb dL_law_1174 rfl (lv_at hl 4 rfl) ?_
  refine kd_Vi (av := []) (rest := []) hF hK hG hA (mk_X8_thrown l D cI (am 0) (am 1) (am 2) (am 3) (am 4) (am 5) (am 6) (am 7) (am 8) H.size o'.2.1 msize macts mspot mout _ rfl) (cwV 0 hts gL_law_X8_thrown rfl rfl rfl (by decide +kernel) ⟨Nat.le_of_ble_eq_true rfl, Nat.le_of_ble_eq_true rfl⟩) hP hD hS (kSub0 [24] (by decide) rfl rfl) 0 rfl rfl rfl hl.1 rfl (Nat.le_of_ble_eq_true rfl) hc1 dL_law_1175 (fun H locs hP hD hS => ?_)
  have hP : va_P D vwCl (lawP cI a am ao hadH hadL n (o.2.1, o.2.2.1, o.2.2.2.1, o.2.2.2.2.1, o.2.2.2.2.2.1, o.2.2.2.2.2.2.1, o.2.2.2.2.2.2.2.1, o.2.2.2.2.2.2.2.2.1, o.2.2.2.2.2.2.2.2.2.1, o.2.2.2.2.2.2.2.2.2.2.1, o.2.2.2.2.2.2.2.2.2.2.2.1, o.2.2.2.2.2.2.2.2.2.2.2.2.1, o.2.2.2.2.2.2.2.2.2.2.2.2.2.1) sg len hsz hnx lk o.2.2.2.2.2.2.2.2.2.2.2.2.2.2 o'.2.1 msize macts mspot mout mtext mnow o'.2.2.1 mdiary mkept misk o'.2.2.2.1 o'.2.2.2.2 ++ (famW cI 14 hadH hs ++ famW cI 2 hadL gs)) H := hP
  have hD : va_D A (lawP cI a am ao hadH hadL n (o.2.1, o.2.2.1, o.2.2.2.1, o.2.2.2.2.1, o.2.2.2.2.2.1, o.2.2.2.2.2.2.1, o.2.2.2.2.2.2.2.1, o.2.2.2.2.2.2.2.2.1, o.2.2.2.2.2.2.2.2.2.1, o.2.2.2.2.2.2.2.2.2.2.1, o.2.2.2.2.2.2.2.2.2.2.2.1, o.2.2.2.2.2.2.2.2.2.2.2.2.1, o.2.2.2.2.2.2.2.2.2.2.2.2.2.1) sg len hsz hnx lk o.2.2.2.2.2.2.2.2.2.2.2.2.2.2 o'.2.1 msize macts mspot mout mtext mnow o'.2.2.1 mdiary mkept misk o'.2.2.2.1 o'.2.2.2.2 ++ (famW cI 14 hadH hs ++ famW cI 2 hadL gs)) := hD
  refine lv_iload hx hb dL_law_1178 (lv_at hl 1 rfl) ?_
  refine lv_icmp_eq (tgt := 1185) hx hb dL_law_1180 (by decide) (fun _ => ?_) (fun c9 => absurd e1 c9)
  refine lv_iload hx hb dL_law_1185 (lv_at hl 1 rfl) ?_
  have tl : W p l e room_1 s m args below meth c H locs (cells + 1) (slots + 6) Q (F0 m 1202 ls []) := by
    refine lv_goto (tgt := 1417) hx hb dL_law_1202 (by decide) ?_
    exact kk _ _ _ hP hD hS (lv_sub hl [2, 3, 4, 5, 6] rfl)
  refine lv_if_ne (tgt := 1202) hx hb dL_law_1187 (by decide) (fun _ => tl) (fun c9 => ?_)
  refine lv_aload_n hx hb dL_law_1190 rfl (lv_at hl 5 rfl) ?_
  refine lv_iconst (v := 0) hx hb dL_law_1191 (by decide) ?_
  refine k_lald (j := 0) hx hb hK.1 hP 33 3 rfl rfl (by decide) (by decide) dL_law_1192 ?_
  refine lv_iload hx hb dL_law_1193 (lv_at hl 0 rfl) ?_
  refine lv_i2l (v := (o'.1).toInt64) hx hb dL_law_1195 rfl ?_
  refine W.lcmp hx hb dL_law_1196 ?_
  exact lv_if_eq (tgt := 1202) hx hb dL_law_1197 (by decide) (fun _ => tl) (fun c8 => absurd ((lg_cmp_eq _ _).mpr (e2 c9)) c8)
set_option maxHeartbeats 4000000 in
set_option maxRecDepth 100000 in
theorem cs_simulate {p : Program} {l : Launch} {e : Env} {s : State} {m : MethodId} {args : Array Value} {below : List Frame} {meth : Method} {c : Code} {cells slots : Nat} {Q : State → Prop} {D : va_G} {cI : Nat → ClassId} {A : Nat → Prop} {b L i : Nat} {xs : Nat → Int32} {a am : Nat → Nat} {ao : Nat} {hadH hadL : Nat → Nat → Nat} {n t : kSt} {hs gs : Nat → kSt} {len hsz hnx mref msize macts mspot mout : Int32} {sg lk mtext mnow mtrial mdiary mkept misk mside mwas : kF} {out : Nat → Int64}
    (C0 : LC p l s m args c D cI A b L xs) (hcs : cells + 1 ≤ 601024 ∧ slots + 6 ≤ 7293034) (hi : i + 5 ≤ L) {o : (Int32 × Int32 × Int32 × Int32 × Int32 × Int32 × Int32 × kF × kF × Int32 × Int32 × kF × kF × kF × (Nat → Int64))} (ho : fn_L_simulate n.1 n.2.1 n.2.2.1 n.2.2.2.1 n.2.2.2.2.2.2.1 n.2.2.2.2.2.2.2.1 n.2.2.2.2.2.2.2.2.1 n.2.2.2.2.2.2.2.2.2.1 n.2.2.2.2.2.2.2.2.2.2.1 n.2.2.2.2.2.2.2.2.2.2.2.1 n.2.2.2.2.2.2.2.2.2.2.2.2 t.1 t.2.1 t.2.2.1 t.2.2.2.1 t.2.2.2.2.1 t.2.2.2.2.2.1 t.2.2.2.2.2.2.1 t.2.2.2.2.2.2.2.1 t.2.2.2.2.2.2.2.2.1 t.2.2.2.2.2.2.2.2.2.1 t.2.2.2.2.2.2.2.2.2.2.1 t.2.2.2.2.2.2.2.2.2.2.2.1 t.2.2.2.2.2.2.2.2.2.2.2.2 out (((xs (i + 1)).toInt64 <<< (((32 : Int32)).toInt64 &&& 63)) ||| ((xs (i + 2)).toInt64 &&& (4294967295 : Int64))) (xs (i + 3)) = some o) {o' : (Int32 × Int32 × kF × kF × kF)} (ho' : fn_X8_simulate mref mnow mtrial mside mwas (((xs (i + 1)).toInt64 <<< (((32 : Int32)).toInt64 &&& 63)) ||| ((xs (i + 2)).toInt64 &&& (4294967295 : Int64))) (xs (i + 3)) = some o') (e1 : o'.2.1 = o.1) (e2 : o.1 = 0 → (o.2.2.2.2.2.2.2.2.2.2.2.2.2.2 0) = (o'.1).toInt64)
    {H : Heap} {locs : List Loc} {ls : Array Slot} (hP : va_P D vwCl (lawP cI a am ao hadH hadL n t sg len hsz hnx lk out mref msize macts mspot mout mtext mnow mtrial mdiary mkept misk mside mwas ++ (famW cI 14 hadH hs ++ famW cI 2 hadL gs)) H) (hD : va_D A (lawP cI a am ao hadH hadL n t sg len hsz hnx lk out mref msize macts mspot mout mtext mnow mtrial mdiary mkept misk mside mwas ++ (famW cI 14 hadH hs ++ famW cI 2 hadL gs))) (hS : va_S A s.heap H locs) (hl : lv_has ls 7 (lawL a am ao b i))
    (kk : ∀ (H : Heap) (locs : List Loc) (ls : Array Slot), va_P D vwCl (lawP cI a am ao hadH hadL n (o.2.1, o.2.2.1, o.2.2.2.1, o.2.2.2.2.1, o.2.2.2.2.2.1, o.2.2.2.2.2.2.1, o.2.2.2.2.2.2.2.1, o.2.2.2.2.2.2.2.2.1, o.2.2.2.2.2.2.2.2.2.1, o.2.2.2.2.2.2.2.2.2.2.1, o.2.2.2.2.2.2.2.2.2.2.2.1, o.2.2.2.2.2.2.2.2.2.2.2.2.1, o.2.2.2.2.2.2.2.2.2.2.2.2.2.1) sg len hsz hnx lk o.2.2.2.2.2.2.2.2.2.2.2.2.2.2 o'.2.1 msize macts mspot mout mtext mnow o'.2.2.1 mdiary mkept misk o'.2.2.2.1 o'.2.2.2.2 ++ (famW cI 14 hadH hs ++ famW cI 2 hadL gs)) H → va_D A (lawP cI a am ao hadH hadL n (o.2.1, o.2.2.1, o.2.2.2.1, o.2.2.2.2.1, o.2.2.2.2.2.1, o.2.2.2.2.2.2.1, o.2.2.2.2.2.2.2.1, o.2.2.2.2.2.2.2.2.1, o.2.2.2.2.2.2.2.2.2.1, o.2.2.2.2.2.2.2.2.2.2.1, o.2.2.2.2.2.2.2.2.2.2.2.1, o.2.2.2.2.2.2.2.2.2.2.2.2.1, o.2.2.2.2.2.2.2.2.2.2.2.2.2.1) sg len hsz hnx lk o.2.2.2.2.2.2.2.2.2.2.2.2.2.2 o'.2.1 msize macts mspot mout mtext mnow o'.2.2.1 mdiary mkept misk o'.2.2.2.1 o'.2.2.2.2 ++ (famW cI 14 hadH hs ++ famW cI 2 hadL gs)) → va_S A s.heap H locs → lv_has ls 7 (lawL a am ao b i) → W p l e room_1 s m args below meth c H locs (cells + 1) (slots + 6) Q (F0 m 1417 ls [])) :
    W p l e room_1 s m args below meth c H locs cells slots Q (F0 m 1205 ls []) := by
  obtain ⟨hF, hK, hG, hA, hX, hbl, hbA, hst, hL⟩ := C0
  obtain ⟨hx, hb, hml, hown, hts⟩ := id hF
  have hc0 : cells ≤ room_1.cells ∧ slots ≤ room_1.slots := ⟨by show cells ≤ 601024; omega, by show slots ≤ 7293034; omega⟩
  have hc1 : cells + 1 ≤ room_1.cells ∧ slots + 6 ≤ room_1.slots := hcs
  refine lv_aload_n hx hb dL_law_1205 rfl (lv_at hl 1 rfl) ?_
  refine lv_aload_n hx hb dL_law_1206 rfl (lv_at hl 0 rfl) ?_
  refine lv_iload hx hb dL_law_1207 (lv_at hl 4 rfl) ?_
  refine lv_iconst (v := 1) hx hb dL_law_1209 (by decide) ?_
  refine lv_iadd hx hb dL_law_1210 ?_
  refine k_sld (j := i + 1) hx hb hX hbl hbA hS (nI_add i 1) (by omega) (by omega) dL_law_1211 ?_
  refine lv_i2l (v := (xs (i + 1)).toInt64) hx hb dL_law_1212 rfl ?_
  refine lv_bipush (v := 32) hx hb dL_law_1213 (by decide) ?_
  refine lv_lshl (v := ((xs (i + 1)).toInt64 <<< (((32 : Int32)).toInt64 &&& 63))) hx hb dL_law_1215 rfl ?_
  refine lv_aload_n hx hb dL_law_1216 rfl (lv_at hl 0 rfl) ?_
  refine lv_iload hx hb dL_law_1217 (lv_at hl 4 rfl) ?_
  refine lv_iconst (v := 2) hx hb dL_law_1219 (by decide) ?_
  refine lv_iadd hx hb dL_law_1220 ?_
  refine k_sld (j := i + 2) hx hb hX hbl hbA hS (nI_add i 2) (by omega) (by omega) dL_law_1221 ?_
  refine lv_i2l (v := (xs (i + 2)).toInt64) hx hb dL_law_1222 rfl ?_
  refine lv_ldc2 (v := 4294967295) hx hb hown (hts (.constantLong RL 152 4294967295) (by decide +kernel)) dL_law_1223 ?_
  refine lv_land hx hb dL_law_1226 ?_
  refine lv_lor hx hb dL_law_1227 ?_
  refine lv_aload_n hx hb dL_law_1228 rfl (lv_at hl 0 rfl) ?_
  refine lv_iload hx hb dL_law_1229 (lv_at hl 4 rfl) ?_
  refine lv_iconst (v := 3) hx hb dL_law_1231 (by decide) ?_
  refine lv_iadd hx hb dL_law_1232 ?_
  refine k_sld (j := i + 3) hx hb hX hbl hbA hS (nI_add i 3) (by omega) (by omega) dL_law_1233 ?_
  refine lv_aload_n hx hb dL_law_1234 rfl (lv_at hl 3 rfl) ?_
  refine kw_Si (av := [.ref (a 0), .long (((xs (i + 1)).toInt64 <<< (((32 : Int32)).toInt64 &&& 63)) ||| ((xs (i + 2)).toInt64 &&& (4294967295 : Int64))), .int (xs (i + 3)), .ref ao]) (rest := []) hF hK hG hA (mk_L_simulate l hst D cI (a 0) (a 1) (a 3) (a 11) (a 19) (a 21) (a 4) (a 7) (a 10) (a 5) (a 6) (a 8) (a 9) (a 12) (a 15) (a 18) (a 13) (a 14) (a 16) (a 17) ao H.size n.1 n.2.1 n.2.2.1 n.2.2.2.1 n.2.2.2.2.1 n.2.2.2.2.2.1 n.2.2.2.2.2.2.1 n.2.2.2.2.2.2.2.1 n.2.2.2.2.2.2.2.2.1 n.2.2.2.2.2.2.2.2.2.1 n.2.2.2.2.2.2.2.2.2.2.1 n.2.2.2.2.2.2.2.2.2.2.2.1 n.2.2.2.2.2.2.2.2.2.2.2.2 t.1 t.2.1 t.2.2.1 t.2.2.2.1 t.2.2.2.2.1 t.2.2.2.2.2.1 t.2.2.2.2.2.2.1 t.2.2.2.2.2.2.2.1 t.2.2.2.2.2.2.2.2.1 t.2.2.2.2.2.2.2.2.2.1 t.2.2.2.2.2.2.2.2.2.2.1 t.2.2.2.2.2.2.2.2.2.2.2.1 t.2.2.2.2.2.2.2.2.2.2.2.2 out (((xs (i + 1)).toInt64 <<< (((32 : Int32)).toInt64 &&& 63)) ||| ((xs (i + 2)).toInt64 &&& (4294967295 : Int64))) (xs (i + 3)) o ho) (vx_cwSW 4 hts gL_law_L_simulate rfl rfl rfl (by decide +kernel) ⟨Nat.le_of_ble_eq_true rfl, Nat.le_of_ble_eq_true rfl⟩) hP hD hS (kSub0 [0, 3, 4, 5, 6, 7, 8, 9, 10, 11, 12, 13, 14, 15, 16, 17, 18, 33] (by decide) rfl rfl) rfl hl.1 rfl (Nat.le_of_ble_eq_true rfl) hcs dL_law_1235 (fun H locs hP hD hS => ?_)
  have hP : va_P D vwCl (lawP cI a am ao hadH hadL n (o.2.1, o.2.2.1, o.2.2.2.1, o.2.2.2.2.1, o.2.2.2.2.2.1, o.2.2.2.2.2.2.1, o.2.2.2.2.2.2.2.1, o.2.2.2.2.2.2.2.2.1, o.2.2.2.2.2.2.2.2.2.1, o.2.2.2.2.2.2.2.2.2.2.1, o.2.2.2.2.2.2.2.2.2.2.2.1, o.2.2.2.2.2.2.2.2.2.2.2.2.1, o.2.2.2.2.2.2.2.2.2.2.2.2.2.1) sg len hsz hnx lk o.2.2.2.2.2.2.2.2.2.2.2.2.2.2 mref msize macts mspot mout mtext mnow mtrial mdiary mkept misk mside mwas ++ (famW cI 14 hadH hs ++ famW cI 2 hadL gs)) H := hP
  have hD : va_D A (lawP cI a am ao hadH hadL n (o.2.1, o.2.2.1, o.2.2.2.1, o.2.2.2.2.1, o.2.2.2.2.2.1, o.2.2.2.2.2.2.1, o.2.2.2.2.2.2.2.1, o.2.2.2.2.2.2.2.2.1, o.2.2.2.2.2.2.2.2.2.1, o.2.2.2.2.2.2.2.2.2.2.1, o.2.2.2.2.2.2.2.2.2.2.2.1, o.2.2.2.2.2.2.2.2.2.2.2.2.1, o.2.2.2.2.2.2.2.2.2.2.2.2.2.1) sg len hsz hnx lk o.2.2.2.2.2.2.2.2.2.2.2.2.2.2 mref msize macts mspot mout mtext mnow mtrial mdiary mkept misk mside mwas ++ (famW cI 14 hadH hs ++ famW cI 2 hadL gs)) := hD
  refine lv_istore (lv' := [(5, .int o.1), (0, .ref b), (1, .ref (a 0)), (2, .ref (am 0)), (3, .ref ao), (4, .int (nI i))]) hx hb dL_law_1238 hl (by decide) rfl (fun ls hl => ?_)
  refine lv_aload_n hx hb dL_law_1240 rfl (lv_at hl 3 rfl) ?_
  refine lv_aload_n hx hb dL_law_1241 rfl (lv_at hl 1 rfl) ?_
  refine lv_iload hx hb dL_law_1242 (lv_at hl 5 rfl) ?_
  refine lv_iconst (v := 1) hx hb dL_law_1244 (by decide) ?_
  refine lv_iadd hx hb dL_law_1245 ?_
  refine k_sld (j := i + 1) hx hb hX hbl hbA hS (nI_add i 1) (by omega) (by omega) dL_law_1246 ?_
  refine lv_i2l (v := (xs (i + 1)).toInt64) hx hb dL_law_1247 rfl ?_
  refine lv_bipush (v := 32) hx hb dL_law_1248 (by decide) ?_
  refine lv_lshl (v := ((xs (i + 1)).toInt64 <<< (((32 : Int32)).toInt64 &&& 63))) hx hb dL_law_1250 rfl ?_
  refine lv_aload_n hx hb dL_law_1251 rfl (lv_at hl 1 rfl) ?_
  refine lv_iload hx hb dL_law_1252 (lv_at hl 5 rfl) ?_
  refine lv_iconst (v := 2) hx hb dL_law_1254 (by decide) ?_
  refine lv_iadd hx hb dL_law_1255 ?_
  refine k_sld (j := i + 2) hx hb hX hbl hbA hS (nI_add i 2) (by omega) (by omega) dL_law_1256 ?_
  refine lv_i2l (v := (xs (i + 2)).toInt64) hx hb dL_law_1257 rfl ?_
  refine lv_ldc2 (v := 4294967295) hx hb hown (hts (.constantLong RL 152 4294967295) (by decide +kernel)) dL_law_1258 ?_
  refine lv_land hx hb dL_law_1261 ?_
  refine lv_lor hx hb dL_law_1262 ?_
  refine lv_aload_n hx hb dL_law_1263 rfl (lv_at hl 1 rfl) ?_
  refine lv_iload hx hb dL_law_1264 (lv_at hl 5 rfl) ?_
  refine lv_iconst (v := 3) hx hb dL_law_1266 (by decide) ?_
  refine lv_iadd hx hb dL_law_1267 ?_
  refine k_sld (j := i + 3) hx hb hX hbl hbA hS (nI_add i 3) (by omega) (by omega) dL_law_1268 ?_
  refine kd_Vi (av := [.long (((xs (i + 1)).toInt64 <<< (((32 : Int32)).toInt64 &&& 63)) ||| ((xs (i + 2)).toInt64 &&& (4294967295 : Int64))), .int (xs (i + 3))]) (rest := []) hF hK hG hA (mk_X8_simulate l D cI (am 0) (am 1) (am 2) (am 3) (am 4) (am 5) (am 6) (am 7) (am 8) H.size mref msize macts mspot mout mnow mtrial mside mwas (((xs (i + 1)).toInt64 <<< (((32 : Int32)).toInt64 &&& 63)) ||| ((xs (i + 2)).toInt64 &&& (4294967295 : Int64))) (xs (i + 3)) o' ho') (cwV 2 hts gL_law_X8_simulate rfl rfl rfl (by decide +kernel) ⟨Nat.le_of_ble_eq_true rfl, Nat.le_of_ble_eq_true rfl⟩) hP hD hS (kSub0 [24, 26, 27, 31, 32] (by decide) rfl rfl) 0 rfl rfl rfl hl.1 rfl (Nat.le_of_ble_eq_true rfl) hc1 dL_law_1269 (fun H locs hP hD hS => ?_)
  have hP : va_P D vwCl (lawP cI a am ao hadH hadL n (o.2.1, o.2.2.1, o.2.2.2.1, o.2.2.2.2.1, o.2.2.2.2.2.1, o.2.2.2.2.2.2.1, o.2.2.2.2.2.2.2.1, o.2.2.2.2.2.2.2.2.1, o.2.2.2.2.2.2.2.2.2.1, o.2.2.2.2.2.2.2.2.2.2.1, o.2.2.2.2.2.2.2.2.2.2.2.1, o.2.2.2.2.2.2.2.2.2.2.2.2.1, o.2.2.2.2.2.2.2.2.2.2.2.2.2.1) sg len hsz hnx lk o.2.2.2.2.2.2.2.2.2.2.2.2.2.2 o'.2.1 msize macts mspot mout mtext mnow o'.2.2.1 mdiary mkept misk o'.2.2.2.1 o'.2.2.2.2 ++ (famW cI 14 hadH hs ++ famW cI 2 hadL gs)) H := hP
  have hD : va_D A (lawP cI a am ao hadH hadL n (o.2.1, o.2.2.1, o.2.2.2.1, o.2.2.2.2.1, o.2.2.2.2.2.1, o.2.2.2.2.2.2.1, o.2.2.2.2.2.2.2.1, o.2.2.2.2.2.2.2.2.1, o.2.2.2.2.2.2.2.2.2.1, o.2.2.2.2.2.2.2.2.2.2.1, o.2.2.2.2.2.2.2.2.2.2.2.1, o.2.2.2.2.2.2.2.2.2.2.2.2.1, o.2.2.2.2.2.2.2.2.2.2.2.2.2.1) sg len hsz hnx lk o.2.2.2.2.2.2.2.2.2.2.2.2.2.2 o'.2.1 msize macts mspot mout mtext mnow o'.2.2.1 mdiary mkept misk o'.2.2.2.1 o'.2.2.2.2 ++ (famW cI 14 hadH hs ++ famW cI 2 hadL gs)) := hD
  refine lv_istore (lv' := [(6, .int o'.1), (5, .int o.1), (0, .ref b), (1, .ref (a 0)), (2, .ref (am 0)), (3, .ref ao), (4, .int (nI i))]) hx hb dL_law_1272 hl (by decide) rfl (fun ls hl => ?_)
  refine lv_aload_n hx hb dL_law_1274 rfl (lv_at hl 4 rfl) ?_
  refine kd_Vi (av := []) (rest := []) hF hK hG hA (mk_X8_thrown l D cI (am 0) (am 1) (am 2) (am 3) (am 4) (am 5) (am 6) (am 7) (am 8) H.size o'.2.1 msize macts mspot mout _ rfl) (cwV 0 hts gL_law_X8_thrown rfl rfl rfl (by decide +kernel) ⟨Nat.le_of_ble_eq_true rfl, Nat.le_of_ble_eq_true rfl⟩) hP hD hS (kSub0 [24] (by decide) rfl rfl) 0 rfl rfl rfl hl.1 rfl (Nat.le_of_ble_eq_true rfl) hc1 dL_law_1275 (fun H locs hP hD hS => ?_)
  have hP : va_P D vwCl (lawP cI a am ao hadH hadL n (o.2.1, o.2.2.1, o.2.2.2.1, o.2.2.2.2.1, o.2.2.2.2.2.1, o.2.2.2.2.2.2.1, o.2.2.2.2.2.2.2.1, o.2.2.2.2.2.2.2.2.1, o.2.2.2.2.2.2.2.2.2.1, o.2.2.2.2.2.2.2.2.2.2.1, o.2.2.2.2.2.2.2.2.2.2.2.1, o.2.2.2.2.2.2.2.2.2.2.2.2.1, o.2.2.2.2.2.2.2.2.2.2.2.2.2.1) sg len hsz hnx lk o.2.2.2.2.2.2.2.2.2.2.2.2.2.2 o'.2.1 msize macts mspot mout mtext mnow o'.2.2.1 mdiary mkept misk o'.2.2.2.1 o'.2.2.2.2 ++ (famW cI 14 hadH hs ++ famW cI 2 hadL gs)) H := hP
  have hD : va_D A (lawP cI a am ao hadH hadL n (o.2.1, o.2.2.1, o.2.2.2.1, o.2.2.2.2.1, o.2.2.2.2.2.1, o.2.2.2.2.2.2.1, o.2.2.2.2.2.2.2.1, o.2.2.2.2.2.2.2.2.1, o.2.2.2.2.2.2.2.2.2.1, o.2.2.2.2.2.2.2.2.2.2.1, o.2.2.2.2.2.2.2.2.2.2.2.1, o.2.2.2.2.2.2.2.2.2.2.2.2.1, o.2.2.2.2.2.2.2.2.2.2.2.2.2.1) sg len hsz hnx lk o.2.2.2.2.2.2.2.2.2.2.2.2.2.2 o'.2.1 msize macts mspot mout mtext mnow o'.2.2.1 mdiary mkept misk o'.2.2.2.1 o'.2.2.2.2 ++ (famW cI 14 hadH hs ++ famW cI 2 hadL gs)) := hD
  refine lv_iload hx hb dL_law_1278 (lv_at hl 1 rfl) ?_
  refine lv_icmp_eq (tgt := 1285) hx hb dL_law_1280 (by decide) (fun _ => ?_) (fun c9 => absurd e1 c9)
  refine lv_iload hx hb dL_law_1285 (lv_at hl 1 rfl) ?_
  have tl : W p l e room_1 s m args below meth c H locs (cells + 1) (slots + 6) Q (F0 m 1302 ls []) := by
    refine lv_goto (tgt := 1417) hx hb dL_law_1302 (by decide) ?_
    exact kk _ _ _ hP hD hS (lv_sub hl [2, 3, 4, 5, 6] rfl)
  refine lv_if_ne (tgt := 1302) hx hb dL_law_1287 (by decide) (fun _ => tl) (fun c9 => ?_)
  refine lv_aload_n hx hb dL_law_1290 rfl (lv_at hl 5 rfl) ?_
  refine lv_iconst (v := 0) hx hb dL_law_1291 (by decide) ?_
  refine k_lald (j := 0) hx hb hK.1 hP 33 3 rfl rfl (by decide) (by decide) dL_law_1292 ?_
  refine lv_iload hx hb dL_law_1293 (lv_at hl 0 rfl) ?_
  refine lv_i2l (v := (o'.1).toInt64) hx hb dL_law_1295 rfl ?_
  refine W.lcmp hx hb dL_law_1296 ?_
  exact lv_if_eq (tgt := 1302) hx hb dL_law_1297 (by decide) (fun _ => tl) (fun c8 => absurd ((lg_cmp_eq _ _).mpr (e2 c9)) c8)
set_option maxHeartbeats 4000000 in
set_option maxRecDepth 100000 in
theorem cs_save {p : Program} {l : Launch} {e : Env} {s : State} {m : MethodId} {args : Array Value} {below : List Frame} {meth : Method} {c : Code} {cells slots : Nat} {Q : State → Prop} {D : va_G} {cI : Nat → ClassId} {A : Nat → Prop} {b L i : Nat} {xs : Nat → Int32} {a am : Nat → Nat} {ao : Nat} {hadH hadL : Nat → Nat → Nat} {n t : kSt} {hs gs : Nat → kSt} {len hsz hnx mref msize macts mspot mout : Int32} {sg lk mtext mnow mtrial mdiary mkept misk mside mwas : kF} {out : Nat → Int64}
    (C0 : LC p l s m args c D cI A b L xs) (hcs : cells + 1 ≤ 601024 ∧ slots + 6 ≤ 7293034) (hi : i + 5 ≤ L) {o : (Int32 × kF × (Nat → Int64) × (Nat → kSt))} (ho : fn_L_save n.1 n.2.1 n.2.2.1 n.2.2.2.1 n.2.2.2.2.2.2.1 n.2.2.2.2.2.2.2.1 n.2.2.2.2.2.2.2.2.1 n.2.2.2.2.2.2.2.2.2.1 n.2.2.2.2.2.2.2.2.2.2.1 n.2.2.2.2.2.2.2.2.2.2.2.1 n.2.2.2.2.2.2.2.2.2.2.2.2 lk out gs (xs (i + 1)) = some o) {o' : (Int32 × Int32 × kF × kF)} (ho' : fn_X8_save mref mnow mkept misk (xs (i + 1)) = some o') (e1 : o'.2.1 = o.1) (e2 : o.1 = 0 → (o.2.2.1 0) = (o'.1).toInt64)
    {H : Heap} {locs : List Loc} {ls : Array Slot} (hP : va_P D vwCl (lawP cI a am ao hadH hadL n t sg len hsz hnx lk out mref msize macts mspot mout mtext mnow mtrial mdiary mkept misk mside mwas ++ (famW cI 14 hadH hs ++ famW cI 2 hadL gs)) H) (hD : va_D A (lawP cI a am ao hadH hadL n t sg len hsz hnx lk out mref msize macts mspot mout mtext mnow mtrial mdiary mkept misk mside mwas ++ (famW cI 14 hadH hs ++ famW cI 2 hadL gs))) (hS : va_S A s.heap H locs) (hl : lv_has ls 7 (lawL a am ao b i))
    (kk : ∀ (H : Heap) (locs : List Loc) (ls : Array Slot), va_P D vwCl (lawP cI a am ao hadH hadL n t sg len hsz hnx o.2.1 o.2.2.1 o'.2.1 msize macts mspot mout mtext mnow mtrial mdiary o'.2.2.1 o'.2.2.2 mside mwas ++ (famW cI 14 hadH hs ++ famW cI 2 hadL o.2.2.2)) H → va_D A (lawP cI a am ao hadH hadL n t sg len hsz hnx o.2.1 o.2.2.1 o'.2.1 msize macts mspot mout mtext mnow mtrial mdiary o'.2.2.1 o'.2.2.2 mside mwas ++ (famW cI 14 hadH hs ++ famW cI 2 hadL o.2.2.2)) → va_S A s.heap H locs → lv_has ls 7 (lawL a am ao b i) → W p l e room_1 s m args below meth c H locs (cells + 1) (slots + 6) Q (F0 m 1417 ls [])) :
    W p l e room_1 s m args below meth c H locs cells slots Q (F0 m 1305 ls []) := by
  obtain ⟨hF, hK, hG, hA, hX, hbl, hbA, hst, hL⟩ := C0
  obtain ⟨hx, hb, hml, hown, hts⟩ := id hF
  have hc0 : cells ≤ room_1.cells ∧ slots ≤ room_1.slots := ⟨by show cells ≤ 601024; omega, by show slots ≤ 7293034; omega⟩
  have hc1 : cells + 1 ≤ room_1.cells ∧ slots + 6 ≤ room_1.slots := hcs
  refine lv_aload_n hx hb dL_law_1305 rfl (lv_at hl 1 rfl) ?_
  refine lv_aload_n hx hb dL_law_1306 rfl (lv_at hl 0 rfl) ?_
  refine lv_iload hx hb dL_law_1307 (lv_at hl 4 rfl) ?_
  refine lv_iconst (v := 1) hx hb dL_law_1309 (by decide) ?_
  refine lv_iadd hx hb dL_law_1310 ?_
  refine k_sld (j := i + 1) hx hb hX hbl hbA hS (nI_add i 1) (by omega) (by omega) dL_law_1311 ?_
  refine lv_aload_n hx hb dL_law_1312 rfl (lv_at hl 3 rfl) ?_
  refine kw_Si (av := [.ref (a 0), .int (xs (i + 1)), .ref ao]) (rest := []) hF hK hG hA (mk_L_save l hst D cI (a 0) (a 1) (a 3) (a 11) (a 19) (a 21) (a 4) (a 7) (a 10) (a 5) (a 6) (a 8) (a 9) (a 22) (a 23) ao hadL H.size n.1 n.2.1 n.2.2.1 n.2.2.2.1 n.2.2.2.2.1 n.2.2.2.2.2.1 n.2.2.2.2.2.2.1 n.2.2.2.2.2.2.2.1 n.2.2.2.2.2.2.2.2.1 n.2.2.2.2.2.2.2.2.2.1 n.2.2.2.2.2.2.2.2.2.2.1 n.2.2.2.2.2.2.2.2.2.2.2.1 n.2.2.2.2.2.2.2.2.2.2.2.2 lk out gs (xs (i + 1)) o ho) (vx_cwSW 3 hts gL_law_L_save rfl rfl rfl (by decide +kernel) ⟨Nat.le_of_ble_eq_true rfl, Nat.le_of_ble_eq_true rfl⟩) hP hD hS (kSubTr (pre := lawP cI a am ao hadH hadL n t sg len hsz hnx lk out mref msize macts mspot mout mtext mnow mtrial mdiary mkept misk mside mwas) (prec := [((a 0), .inr (6, [.ref (a 1), .ref (a 3), .ref (a 11), .ref (a 19), .ref (a 21)])), ((a 3), .inr (5, [.ref (a 4), .ref (a 7), .ref (a 10), .int n.1, .int n.2.1, .int n.2.2.1])), ((a 4), .inr (2, [.ref (a 5), .ref (a 6), .int n.2.2.2.1, .int n.2.2.2.2.1, .int n.2.2.2.2.2.1])), ((a 5), .inl (cI 0, 10, .inl n.2.2.2.2.2.2.1)), ((a 6), .inl (cI 0, 10, .inl n.2.2.2.2.2.2.2.1)), ((a 7), .inr (3, [.ref (a 8), .ref (a 9), .int n.2.2.2.2.2.2.2.2.1, .int n.2.2.2.2.2.2.2.2.2.1])), ((a 8), .inl (cI 0, 21, .inl n.2.2.2.2.2.2.2.2.2.2.1)), ((a 9), .inl (cI 0, 11, .inl n.2.2.2.2.2.2.2.2.2.2.2.1)), ((a 10), .inl (cI 0, 3, .inl n.2.2.2.2.2.2.2.2.2.2.2.2)), ((a 21), .inr (4, [.ref (a 22), .ref (a 23)])), ((a 22), .inl (cI 2, 2, .inr (.inr (.inr (.inr (rowF 2 hadL)))))), ((a 23), .inl (cI 1, 2, .inl lk)), (ao, .inl (cI 3, 1, .inr (.inl out)))]) (prec' := [((a 0), .inr (6, [.ref (a 1), .ref (a 3), .ref (a 11), .ref (a 19), .ref (a 21)])), ((a 3), .inr (5, [.ref (a 4), .ref (a 7), .ref (a 10), .int n.1, .int n.2.1, .int n.2.2.1])), ((a 4), .inr (2, [.ref (a 5), .ref (a 6), .int n.2.2.2.1, .int n.2.2.2.2.1, .int n.2.2.2.2.2.1])), ((a 5), .inl (cI 0, 10, .inl n.2.2.2.2.2.2.1)), ((a 6), .inl (cI 0, 10, .inl n.2.2.2.2.2.2.2.1)), ((a 7), .inr (3, [.ref (a 8), .ref (a 9), .int n.2.2.2.2.2.2.2.2.1, .int n.2.2.2.2.2.2.2.2.2.1])), ((a 8), .inl (cI 0, 21, .inl n.2.2.2.2.2.2.2.2.2.2.1)), ((a 9), .inl (cI 0, 11, .inl n.2.2.2.2.2.2.2.2.2.2.2.1)), ((a 10), .inl (cI 0, 3, .inl n.2.2.2.2.2.2.2.2.2.2.2.2)), ((a 21), .inr (4, [.ref (a 22), .ref (a 23)])), ((a 22), .inl (cI 2, 2, .inr (.inr (.inr (.inr (rowF 2 hadL)))))), ((a 23), .inl (cI 1, 2, .inl o.2.1)), (ao, .inl (cI 3, 1, .inr (.inl o.2.2.1)))]) (T := (famW cI 2 hadL gs)) (T' := (famW cI 2 hadL o.2.2.2)) (U := (famW cI 14 hadH hs)) [0, 3, 4, 5, 6, 7, 8, 9, 10, 21, 22, 23, 33] (by decide) rfl rfl famW_fst) rfl hl.1 rfl (Nat.le_of_ble_eq_true rfl) hcs dL_law_1313 (fun H locs hP hD hS => ?_)
  have hP : va_P D vwCl (lawP cI a am ao hadH hadL n t sg len hsz hnx o.2.1 o.2.2.1 mref msize macts mspot mout mtext mnow mtrial mdiary mkept misk mside mwas ++ (famW cI 14 hadH hs ++ famW cI 2 hadL o.2.2.2)) H := hP
  have hD : va_D A (lawP cI a am ao hadH hadL n t sg len hsz hnx o.2.1 o.2.2.1 mref msize macts mspot mout mtext mnow mtrial mdiary mkept misk mside mwas ++ (famW cI 14 hadH hs ++ famW cI 2 hadL o.2.2.2)) := hD
  refine lv_istore (lv' := [(5, .int o.1), (0, .ref b), (1, .ref (a 0)), (2, .ref (am 0)), (3, .ref ao), (4, .int (nI i))]) hx hb dL_law_1316 hl (by decide) rfl (fun ls hl => ?_)
  refine lv_aload_n hx hb dL_law_1318 rfl (lv_at hl 3 rfl) ?_
  refine lv_aload_n hx hb dL_law_1319 rfl (lv_at hl 1 rfl) ?_
  refine lv_iload hx hb dL_law_1320 (lv_at hl 5 rfl) ?_
  refine lv_iconst (v := 1) hx hb dL_law_1322 (by decide) ?_
  refine lv_iadd hx hb dL_law_1323 ?_
  refine k_sld (j := i + 1) hx hb hX hbl hbA hS (nI_add i 1) (by omega) (by omega) dL_law_1324 ?_
  refine kd_Vi (av := [.int (xs (i + 1))]) (rest := []) hF hK hG hA (mk_X8_save l D cI (am 0) (am 1) (am 2) (am 3) (am 4) (am 5) (am 6) (am 7) (am 8) H.size mref msize macts mspot mout mnow mkept misk (xs (i + 1)) o' ho') (cwV 1 hts gL_law_X8_save rfl rfl rfl (by decide +kernel) ⟨Nat.le_of_ble_eq_true rfl, Nat.le_of_ble_eq_true rfl⟩) hP hD hS (kSub0 [24, 26, 29, 30] (by decide) rfl rfl) 0 rfl rfl rfl hl.1 rfl (Nat.le_of_ble_eq_true rfl) hc1 dL_law_1325 (fun H locs hP hD hS => ?_)
  have hP : va_P D vwCl (lawP cI a am ao hadH hadL n t sg len hsz hnx o.2.1 o.2.2.1 o'.2.1 msize macts mspot mout mtext mnow mtrial mdiary o'.2.2.1 o'.2.2.2 mside mwas ++ (famW cI 14 hadH hs ++ famW cI 2 hadL o.2.2.2)) H := hP
  have hD : va_D A (lawP cI a am ao hadH hadL n t sg len hsz hnx o.2.1 o.2.2.1 o'.2.1 msize macts mspot mout mtext mnow mtrial mdiary o'.2.2.1 o'.2.2.2 mside mwas ++ (famW cI 14 hadH hs ++ famW cI 2 hadL o.2.2.2)) := hD
  refine lv_istore (lv' := [(6, .int o'.1), (5, .int o.1), (0, .ref b), (1, .ref (a 0)), (2, .ref (am 0)), (3, .ref ao), (4, .int (nI i))]) hx hb dL_law_1328 hl (by decide) rfl (fun ls hl => ?_)
  refine lv_aload_n hx hb dL_law_1330 rfl (lv_at hl 4 rfl) ?_
  refine kd_Vi (av := []) (rest := []) hF hK hG hA (mk_X8_thrown l D cI (am 0) (am 1) (am 2) (am 3) (am 4) (am 5) (am 6) (am 7) (am 8) H.size o'.2.1 msize macts mspot mout _ rfl) (cwV 0 hts gL_law_X8_thrown rfl rfl rfl (by decide +kernel) ⟨Nat.le_of_ble_eq_true rfl, Nat.le_of_ble_eq_true rfl⟩) hP hD hS (kSub0 [24] (by decide) rfl rfl) 0 rfl rfl rfl hl.1 rfl (Nat.le_of_ble_eq_true rfl) hc1 dL_law_1331 (fun H locs hP hD hS => ?_)
  have hP : va_P D vwCl (lawP cI a am ao hadH hadL n t sg len hsz hnx o.2.1 o.2.2.1 o'.2.1 msize macts mspot mout mtext mnow mtrial mdiary o'.2.2.1 o'.2.2.2 mside mwas ++ (famW cI 14 hadH hs ++ famW cI 2 hadL o.2.2.2)) H := hP
  have hD : va_D A (lawP cI a am ao hadH hadL n t sg len hsz hnx o.2.1 o.2.2.1 o'.2.1 msize macts mspot mout mtext mnow mtrial mdiary o'.2.2.1 o'.2.2.2 mside mwas ++ (famW cI 14 hadH hs ++ famW cI 2 hadL o.2.2.2)) := hD
  refine lv_iload hx hb dL_law_1334 (lv_at hl 1 rfl) ?_
  refine lv_icmp_eq (tgt := 1341) hx hb dL_law_1336 (by decide) (fun _ => ?_) (fun c9 => absurd e1 c9)
  refine lv_iload hx hb dL_law_1341 (lv_at hl 1 rfl) ?_
  have tl : W p l e room_1 s m args below meth c H locs (cells + 1) (slots + 6) Q (F0 m 1358 ls []) := by
    refine lv_goto (tgt := 1417) hx hb dL_law_1358 (by decide) ?_
    exact kk _ _ _ hP hD hS (lv_sub hl [2, 3, 4, 5, 6] rfl)
  refine lv_if_ne (tgt := 1358) hx hb dL_law_1343 (by decide) (fun _ => tl) (fun c9 => ?_)
  refine lv_aload_n hx hb dL_law_1346 rfl (lv_at hl 5 rfl) ?_
  refine lv_iconst (v := 0) hx hb dL_law_1347 (by decide) ?_
  refine k_lald (j := 0) hx hb hK.1 hP 33 3 rfl rfl (by decide) (by decide) dL_law_1348 ?_
  refine lv_iload hx hb dL_law_1349 (lv_at hl 0 rfl) ?_
  refine lv_i2l (v := (o'.1).toInt64) hx hb dL_law_1351 rfl ?_
  refine W.lcmp hx hb dL_law_1352 ?_
  exact lv_if_eq (tgt := 1358) hx hb dL_law_1353 (by decide) (fun _ => tl) (fun c8 => absurd ((lg_cmp_eq _ _).mpr (e2 c9)) c8)
set_option maxHeartbeats 4000000 in
set_option maxRecDepth 100000 in
theorem cs_restore {p : Program} {l : Launch} {e : Env} {s : State} {m : MethodId} {args : Array Value} {below : List Frame} {meth : Method} {c : Code} {cells slots : Nat} {Q : State → Prop} {D : va_G} {cI : Nat → ClassId} {A : Nat → Prop} {b L i : Nat} {xs : Nat → Int32} {a am : Nat → Nat} {ao : Nat} {hadH hadL : Nat → Nat → Nat} {n t : kSt} {hs gs : Nat → kSt} {len hsz hnx mref msize macts mspot mout : Int32} {sg lk mtext mnow mtrial mdiary mkept misk mside mwas : kF} {out : Nat → Int64}
    (C0 : LC p l s m args c D cI A b L xs) (hcs : cells + 1 ≤ 601024 ∧ slots + 6 ≤ 7293034) (hi : i + 5 ≤ L) {o : (Int32 × Int32 × Int32 × Int32 × Int32 × kF × kF × Int32 × Int32 × kF × kF × kF × Int32 × (Nat → Int64))} (ho : fn_L_restore n.1 n.2.1 n.2.2.1 n.2.2.2.1 n.2.2.2.2.2.2.1 n.2.2.2.2.2.2.2.1 n.2.2.2.2.2.2.2.2.1 n.2.2.2.2.2.2.2.2.2.1 n.2.2.2.2.2.2.2.2.2.2.1 n.2.2.2.2.2.2.2.2.2.2.2.1 n.2.2.2.2.2.2.2.2.2.2.2.2 hsz lk out gs (xs (i + 1)) = some o) {o' : (Int32 × Int32 × Int32 × kF)} (ho' : fn_X8_restore mref macts mnow mkept misk (xs (i + 1)) = some o') (e1 : o'.2.1 = o.1) (e2 : o.1 = 0 → (o.2.2.2.2.2.2.2.2.2.2.2.2.2 0) = (o'.1).toInt64)
    {H : Heap} {locs : List Loc} {ls : Array Slot} (hP : va_P D vwCl (lawP cI a am ao hadH hadL n t sg len hsz hnx lk out mref msize macts mspot mout mtext mnow mtrial mdiary mkept misk mside mwas ++ (famW cI 14 hadH hs ++ famW cI 2 hadL gs)) H) (hD : va_D A (lawP cI a am ao hadH hadL n t sg len hsz hnx lk out mref msize macts mspot mout mtext mnow mtrial mdiary mkept misk mside mwas ++ (famW cI 14 hadH hs ++ famW cI 2 hadL gs))) (hS : va_S A s.heap H locs) (hl : lv_has ls 7 (lawL a am ao b i))
    (kk : ∀ (H : Heap) (locs : List Loc) (ls : Array Slot), va_P D vwCl (lawP cI a am ao hadH hadL (o.2.1, o.2.2.1, o.2.2.2.1, o.2.2.2.2.1, n.2.2.2.2.1, n.2.2.2.2.2.1, o.2.2.2.2.2.1, o.2.2.2.2.2.2.1, o.2.2.2.2.2.2.2.1, o.2.2.2.2.2.2.2.2.1, o.2.2.2.2.2.2.2.2.2.1, o.2.2.2.2.2.2.2.2.2.2.1, o.2.2.2.2.2.2.2.2.2.2.2.1) t sg len o.2.2.2.2.2.2.2.2.2.2.2.2.1 hnx lk o.2.2.2.2.2.2.2.2.2.2.2.2.2 o'.2.1 msize o'.2.2.1 mspot mout mtext o'.2.2.2 mtrial mdiary mkept misk mside mwas ++ (famW cI 14 hadH hs ++ famW cI 2 hadL gs)) H → va_D A (lawP cI a am ao hadH hadL (o.2.1, o.2.2.1, o.2.2.2.1, o.2.2.2.2.1, n.2.2.2.2.1, n.2.2.2.2.2.1, o.2.2.2.2.2.1, o.2.2.2.2.2.2.1, o.2.2.2.2.2.2.2.1, o.2.2.2.2.2.2.2.2.1, o.2.2.2.2.2.2.2.2.2.1, o.2.2.2.2.2.2.2.2.2.2.1, o.2.2.2.2.2.2.2.2.2.2.2.1) t sg len o.2.2.2.2.2.2.2.2.2.2.2.2.1 hnx lk o.2.2.2.2.2.2.2.2.2.2.2.2.2 o'.2.1 msize o'.2.2.1 mspot mout mtext o'.2.2.2 mtrial mdiary mkept misk mside mwas ++ (famW cI 14 hadH hs ++ famW cI 2 hadL gs)) → va_S A s.heap H locs → lv_has ls 7 (lawL a am ao b i) → W p l e room_1 s m args below meth c H locs (cells + 1) (slots + 6) Q (F0 m 1417 ls [])) :
    W p l e room_1 s m args below meth c H locs cells slots Q (F0 m 1361 ls []) := by
  obtain ⟨hF, hK, hG, hA, hX, hbl, hbA, hst, hL⟩ := C0
  obtain ⟨hx, hb, hml, hown, hts⟩ := id hF
  have hc0 : cells ≤ room_1.cells ∧ slots ≤ room_1.slots := ⟨by show cells ≤ 601024; omega, by show slots ≤ 7293034; omega⟩
  have hc1 : cells + 1 ≤ room_1.cells ∧ slots + 6 ≤ room_1.slots := hcs
  refine lv_aload_n hx hb dL_law_1361 rfl (lv_at hl 1 rfl) ?_
  refine lv_aload_n hx hb dL_law_1362 rfl (lv_at hl 0 rfl) ?_
  refine lv_iload hx hb dL_law_1363 (lv_at hl 4 rfl) ?_
  refine lv_iconst (v := 1) hx hb dL_law_1365 (by decide) ?_
  refine lv_iadd hx hb dL_law_1366 ?_
  refine k_sld (j := i + 1) hx hb hX hbl hbA hS (nI_add i 1) (by omega) (by omega) dL_law_1367 ?_
  refine lv_aload_n hx hb dL_law_1368 rfl (lv_at hl 3 rfl) ?_
  refine kw_Si (av := [.ref (a 0), .int (xs (i + 1)), .ref ao]) (rest := []) hF hK hG hA (mk_L_restore l hst D cI (a 0) (a 1) (a 3) (a 11) (a 19) (a 21) (a 4) (a 7) (a 10) (a 5) (a 6) (a 8) (a 9) (a 20) (a 22) (a 23) ao hadL H.size n.1 n.2.1 n.2.2.1 n.2.2.2.1 n.2.2.2.2.1 n.2.2.2.2.2.1 n.2.2.2.2.2.2.1 n.2.2.2.2.2.2.2.1 n.2.2.2.2.2.2.2.2.1 n.2.2.2.2.2.2.2.2.2.1 n.2.2.2.2.2.2.2.2.2.2.1 n.2.2.2.2.2.2.2.2.2.2.2.1 n.2.2.2.2.2.2.2.2.2.2.2.2 hsz hnx lk out gs (xs (i + 1)) o ho) (vx_cwSW 3 hts gL_law_L_restore rfl rfl rfl (by decide +kernel) ⟨Nat.le_of_ble_eq_true rfl, Nat.le_of_ble_eq_true rfl⟩) hP hD hS (kSubTr (pre := lawP cI a am ao hadH hadL n t sg len hsz hnx lk out mref msize macts mspot mout mtext mnow mtrial mdiary mkept misk mside mwas) (prec := [((a 0), .inr (6, [.ref (a 1), .ref (a 3), .ref (a 11), .ref (a 19), .ref (a 21)])), ((a 3), .inr (5, [.ref (a 4), .ref (a 7), .ref (a 10), .int n.1, .int n.2.1, .int n.2.2.1])), ((a 4), .inr (2, [.ref (a 5), .ref (a 6), .int n.2.2.2.1, .int n.2.2.2.2.1, .int n.2.2.2.2.2.1])), ((a 5), .inl (cI 0, 10, .inl n.2.2.2.2.2.2.1)), ((a 6), .inl (cI 0, 10, .inl n.2.2.2.2.2.2.2.1)), ((a 7), .inr (3, [.ref (a 8), .ref (a 9), .int n.2.2.2.2.2.2.2.2.1, .int n.2.2.2.2.2.2.2.2.2.1])), ((a 8), .inl (cI 0, 21, .inl n.2.2.2.2.2.2.2.2.2.2.1)), ((a 9), .inl (cI 0, 11, .inl n.2.2.2.2.2.2.2.2.2.2.2.1)), ((a 10), .inl (cI 0, 3, .inl n.2.2.2.2.2.2.2.2.2.2.2.2)), ((a 19), .inr (1, [.ref (a 20), .int hsz, .int hnx])), ((a 21), .inr (4, [.ref (a 22), .ref (a 23)])), ((a 22), .inl (cI 2, 2, .inr (.inr (.inr (.inr (rowF 2 hadL)))))), ((a 23), .inl (cI 1, 2, .inl lk)), (ao, .inl (cI 3, 1, .inr (.inl out)))]) (prec' := [((a 0), .inr (6, [.ref (a 1), .ref (a 3), .ref (a 11), .ref (a 19), .ref (a 21)])), ((a 3), .inr (5, [.ref (a 4), .ref (a 7), .ref (a 10), .int o.2.1, .int o.2.2.1, .int o.2.2.2.1])), ((a 4), .inr (2, [.ref (a 5), .ref (a 6), .int o.2.2.2.2.1, .int n.2.2.2.2.1, .int n.2.2.2.2.2.1])), ((a 5), .inl (cI 0, 10, .inl o.2.2.2.2.2.1)), ((a 6), .inl (cI 0, 10, .inl o.2.2.2.2.2.2.1)), ((a 7), .inr (3, [.ref (a 8), .ref (a 9), .int o.2.2.2.2.2.2.2.1, .int o.2.2.2.2.2.2.2.2.1])), ((a 8), .inl (cI 0, 21, .inl o.2.2.2.2.2.2.2.2.2.1)), ((a 9), .inl (cI 0, 11, .inl o.2.2.2.2.2.2.2.2.2.2.1)), ((a 10), .inl (cI 0, 3, .inl o.2.2.2.2.2.2.2.2.2.2.2.1)), ((a 19), .inr (1, [.ref (a 20), .int o.2.2.2.2.2.2.2.2.2.2.2.2.1, .int hnx])), ((a 21), .inr (4, [.ref (a 22), .ref (a 23)])), ((a 22), .inl (cI 2, 2, .inr (.inr (.inr (.inr (rowF 2 hadL)))))), ((a 23), .inl (cI 1, 2, .inl lk)), (ao, .inl (cI 3, 1, .inr (.inl o.2.2.2.2.2.2.2.2.2.2.2.2.2)))]) (T := (famW cI 2 hadL gs)) (T' := (famW cI 2 hadL gs)) (U := (famW cI 14 hadH hs)) [0, 3, 4, 5, 6, 7, 8, 9, 10, 19, 21, 22, 23, 33] (by decide) rfl rfl famW_fst) rfl hl.1 rfl (Nat.le_of_ble_eq_true rfl) hcs dL_law_1369 (fun H locs hP hD hS => ?_)
  have hP : va_P D vwCl (lawP cI a am ao hadH hadL (o.2.1, o.2.2.1, o.2.2.2.1, o.2.2.2.2.1, n.2.2.2.2.1, n.2.2.2.2.2.1, o.2.2.2.2.2.1, o.2.2.2.2.2.2.1, o.2.2.2.2.2.2.2.1, o.2.2.2.2.2.2.2.2.1, o.2.2.2.2.2.2.2.2.2.1, o.2.2.2.2.2.2.2.2.2.2.1, o.2.2.2.2.2.2.2.2.2.2.2.1) t sg len o.2.2.2.2.2.2.2.2.2.2.2.2.1 hnx lk o.2.2.2.2.2.2.2.2.2.2.2.2.2 mref msize macts mspot mout mtext mnow mtrial mdiary mkept misk mside mwas ++ (famW cI 14 hadH hs ++ famW cI 2 hadL gs)) H := hP
  have hD : va_D A (lawP cI a am ao hadH hadL (o.2.1, o.2.2.1, o.2.2.2.1, o.2.2.2.2.1, n.2.2.2.2.1, n.2.2.2.2.2.1, o.2.2.2.2.2.1, o.2.2.2.2.2.2.1, o.2.2.2.2.2.2.2.1, o.2.2.2.2.2.2.2.2.1, o.2.2.2.2.2.2.2.2.2.1, o.2.2.2.2.2.2.2.2.2.2.1, o.2.2.2.2.2.2.2.2.2.2.2.1) t sg len o.2.2.2.2.2.2.2.2.2.2.2.2.1 hnx lk o.2.2.2.2.2.2.2.2.2.2.2.2.2 mref msize macts mspot mout mtext mnow mtrial mdiary mkept misk mside mwas ++ (famW cI 14 hadH hs ++ famW cI 2 hadL gs)) := hD
  refine lv_istore (lv' := [(5, .int o.1), (0, .ref b), (1, .ref (a 0)), (2, .ref (am 0)), (3, .ref ao), (4, .int (nI i))]) hx hb dL_law_1372 hl (by decide) rfl (fun ls hl => ?_)
  refine lv_aload_n hx hb dL_law_1374 rfl (lv_at hl 3 rfl) ?_
  refine lv_aload_n hx hb dL_law_1375 rfl (lv_at hl 1 rfl) ?_
  refine lv_iload hx hb dL_law_1376 (lv_at hl 5 rfl) ?_
  refine lv_iconst (v := 1) hx hb dL_law_1378 (by decide) ?_
  refine lv_iadd hx hb dL_law_1379 ?_
  refine k_sld (j := i + 1) hx hb hX hbl hbA hS (nI_add i 1) (by omega) (by omega) dL_law_1380 ?_
  refine kd_Vi (av := [.int (xs (i + 1))]) (rest := []) hF hK hG hA (mk_X8_restore l D cI (am 0) (am 1) (am 2) (am 3) (am 4) (am 5) (am 6) (am 7) (am 8) H.size mref msize macts mspot mout mnow mkept misk (xs (i + 1)) o' ho') (cwV 1 hts gL_law_X8_restore rfl rfl rfl (by decide +kernel) ⟨Nat.le_of_ble_eq_true rfl, Nat.le_of_ble_eq_true rfl⟩) hP hD hS (kSub0 [24, 26, 29, 30] (by decide) rfl rfl) 0 rfl rfl rfl hl.1 rfl (Nat.le_of_ble_eq_true rfl) hc1 dL_law_1381 (fun H locs hP hD hS => ?_)
  have hP : va_P D vwCl (lawP cI a am ao hadH hadL (o.2.1, o.2.2.1, o.2.2.2.1, o.2.2.2.2.1, n.2.2.2.2.1, n.2.2.2.2.2.1, o.2.2.2.2.2.1, o.2.2.2.2.2.2.1, o.2.2.2.2.2.2.2.1, o.2.2.2.2.2.2.2.2.1, o.2.2.2.2.2.2.2.2.2.1, o.2.2.2.2.2.2.2.2.2.2.1, o.2.2.2.2.2.2.2.2.2.2.2.1) t sg len o.2.2.2.2.2.2.2.2.2.2.2.2.1 hnx lk o.2.2.2.2.2.2.2.2.2.2.2.2.2 o'.2.1 msize o'.2.2.1 mspot mout mtext o'.2.2.2 mtrial mdiary mkept misk mside mwas ++ (famW cI 14 hadH hs ++ famW cI 2 hadL gs)) H := hP
  have hD : va_D A (lawP cI a am ao hadH hadL (o.2.1, o.2.2.1, o.2.2.2.1, o.2.2.2.2.1, n.2.2.2.2.1, n.2.2.2.2.2.1, o.2.2.2.2.2.1, o.2.2.2.2.2.2.1, o.2.2.2.2.2.2.2.1, o.2.2.2.2.2.2.2.2.1, o.2.2.2.2.2.2.2.2.2.1, o.2.2.2.2.2.2.2.2.2.2.1, o.2.2.2.2.2.2.2.2.2.2.2.1) t sg len o.2.2.2.2.2.2.2.2.2.2.2.2.1 hnx lk o.2.2.2.2.2.2.2.2.2.2.2.2.2 o'.2.1 msize o'.2.2.1 mspot mout mtext o'.2.2.2 mtrial mdiary mkept misk mside mwas ++ (famW cI 14 hadH hs ++ famW cI 2 hadL gs)) := hD
  refine lv_istore (lv' := [(6, .int o'.1), (5, .int o.1), (0, .ref b), (1, .ref (a 0)), (2, .ref (am 0)), (3, .ref ao), (4, .int (nI i))]) hx hb dL_law_1384 hl (by decide) rfl (fun ls hl => ?_)
  refine lv_aload_n hx hb dL_law_1386 rfl (lv_at hl 4 rfl) ?_
  refine kd_Vi (av := []) (rest := []) hF hK hG hA (mk_X8_thrown l D cI (am 0) (am 1) (am 2) (am 3) (am 4) (am 5) (am 6) (am 7) (am 8) H.size o'.2.1 msize o'.2.2.1 mspot mout _ rfl) (cwV 0 hts gL_law_X8_thrown rfl rfl rfl (by decide +kernel) ⟨Nat.le_of_ble_eq_true rfl, Nat.le_of_ble_eq_true rfl⟩) hP hD hS (kSub0 [24] (by decide) rfl rfl) 0 rfl rfl rfl hl.1 rfl (Nat.le_of_ble_eq_true rfl) hc1 dL_law_1387 (fun H locs hP hD hS => ?_)
  have hP : va_P D vwCl (lawP cI a am ao hadH hadL (o.2.1, o.2.2.1, o.2.2.2.1, o.2.2.2.2.1, n.2.2.2.2.1, n.2.2.2.2.2.1, o.2.2.2.2.2.1, o.2.2.2.2.2.2.1, o.2.2.2.2.2.2.2.1, o.2.2.2.2.2.2.2.2.1, o.2.2.2.2.2.2.2.2.2.1, o.2.2.2.2.2.2.2.2.2.2.1, o.2.2.2.2.2.2.2.2.2.2.2.1) t sg len o.2.2.2.2.2.2.2.2.2.2.2.2.1 hnx lk o.2.2.2.2.2.2.2.2.2.2.2.2.2 o'.2.1 msize o'.2.2.1 mspot mout mtext o'.2.2.2 mtrial mdiary mkept misk mside mwas ++ (famW cI 14 hadH hs ++ famW cI 2 hadL gs)) H := hP
  have hD : va_D A (lawP cI a am ao hadH hadL (o.2.1, o.2.2.1, o.2.2.2.1, o.2.2.2.2.1, n.2.2.2.2.1, n.2.2.2.2.2.1, o.2.2.2.2.2.1, o.2.2.2.2.2.2.1, o.2.2.2.2.2.2.2.1, o.2.2.2.2.2.2.2.2.1, o.2.2.2.2.2.2.2.2.2.1, o.2.2.2.2.2.2.2.2.2.2.1, o.2.2.2.2.2.2.2.2.2.2.2.1) t sg len o.2.2.2.2.2.2.2.2.2.2.2.2.1 hnx lk o.2.2.2.2.2.2.2.2.2.2.2.2.2 o'.2.1 msize o'.2.2.1 mspot mout mtext o'.2.2.2 mtrial mdiary mkept misk mside mwas ++ (famW cI 14 hadH hs ++ famW cI 2 hadL gs)) := hD
  refine lv_iload hx hb dL_law_1390 (lv_at hl 1 rfl) ?_
  refine lv_icmp_eq (tgt := 1397) hx hb dL_law_1392 (by decide) (fun _ => ?_) (fun c9 => absurd e1 c9)
  refine lv_iload hx hb dL_law_1397 (lv_at hl 1 rfl) ?_
  have tl : W p l e room_1 s m args below meth c H locs (cells + 1) (slots + 6) Q (F0 m 1414 ls []) := by
    refine lv_goto (tgt := 1417) hx hb dL_law_1414 (by decide) ?_
    exact kk _ _ _ hP hD hS (lv_sub hl [2, 3, 4, 5, 6] rfl)
  refine lv_if_ne (tgt := 1414) hx hb dL_law_1399 (by decide) (fun _ => tl) (fun c9 => ?_)
  refine lv_aload_n hx hb dL_law_1402 rfl (lv_at hl 5 rfl) ?_
  refine lv_iconst (v := 0) hx hb dL_law_1403 (by decide) ?_
  refine k_lald (j := 0) hx hb hK.1 hP 33 3 rfl rfl (by decide) (by decide) dL_law_1404 ?_
  refine lv_iload hx hb dL_law_1405 (lv_at hl 0 rfl) ?_
  refine lv_i2l (v := (o'.1).toInt64) hx hb dL_law_1407 rfl ?_
  refine W.lcmp hx hb dL_law_1408 ?_
  exact lv_if_eq (tgt := 1414) hx hb dL_law_1409 (by decide) (fun _ => tl) (fun c8 => absurd ((lg_cmp_eq _ _).mpr (e2 c9)) c8)
