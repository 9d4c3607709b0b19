/-! the law's cases, walked, 2 (written by wip/whole/gen/gen_law.py) -/
set_option maxHeartbeats 4000000 in
set_option maxRecDepth 100000 in
theorem cs_frame {p : Program} {l : Launch} {e : Env} {s : State} {m : MethodId} {args : Array Value} {below : List Frame} {meth : Method} {c : Code} {cells slots : Nat} {Q : State → Prop} {D : va_G} {cI : Nat → ClassId} {A : Nat → Prop} {b L i : Nat} {xs : Nat → Int32} {a am : Nat → Nat} {ao : Nat} {hadH hadL : Nat → Nat → Nat} {n t : kSt} {hs gs : Nat → kSt} {len hsz hnx mref msize macts mspot mout : Int32} {sg lk mtext mnow mtrial mdiary mkept misk mside mwas : kF} {out : Nat → Int64}
    (C0 : LC p l s m args c D cI A b L xs) (hcs : cells + 1 ≤ 601024 ∧ slots + 6 ≤ 7293034) (hi : i + 5 ≤ L) {o : (Int32 × (Nat → Int64))} (ho : fn_L_frame n.2.2.2.2.2.2.2.2.1 n.2.2.2.2.2.2.2.2.2.1 n.2.2.2.2.2.2.2.2.2.2.1 n.2.2.2.2.2.2.2.2.2.2.2.1 out (xs (i + 1)) (xs (i + 2)) = some o) {o' : (Int32 × Int32)} (ho' : fn_X8_frame mref mnow (xs (i + 1)) (xs (i + 2)) = some o') (e1 : o'.2 = o.1) (e2 : o.1 = 0 → (o.2 0) = (o'.1).toInt64)
    {H : Heap} {locs : List Loc} {ls : Array Slot} (hP : va_P D vwCl (lawP cI a am ao hadH hadL n t sg len hsz hnx lk out mref msize macts mspot mout mtext mnow mtrial mdiary mkept misk mside mwas ++ (famW cI 14 hadH hs ++ famW cI 2 hadL gs)) H) (hD : va_D A (lawP cI a am ao hadH hadL n t sg len hsz hnx lk out mref msize macts mspot mout mtext mnow mtrial mdiary mkept misk mside mwas ++ (famW cI 14 hadH hs ++ famW cI 2 hadL gs))) (hS : va_S A s.heap H locs) (hl : lv_has ls 7 (lawL a am ao b i))
    (kk : ∀ (H : Heap) (locs : List Loc) (ls : Array Slot), va_P D vwCl (lawP cI a am ao hadH hadL n t sg len hsz hnx lk o.2 o'.2 msize macts mspot mout mtext mnow mtrial mdiary mkept misk mside mwas ++ (famW cI 14 hadH hs ++ famW cI 2 hadL gs)) H → va_D A (lawP cI a am ao hadH hadL n t sg len hsz hnx lk o.2 o'.2 msize macts mspot mout mtext mnow mtrial mdiary mkept misk mside mwas ++ (famW cI 14 hadH hs ++ famW cI 2 hadL gs)) → va_S A s.heap H locs → lv_has ls 7 (lawL a am ao b i) → W p l e room_1 s m args below meth c H locs (cells + 1) (slots + 6) Q (F0 m 1417 ls [])) :
    W p l e room_1 s m args below meth c H locs cells slots Q (F0 m 394 ls []) := by
  obtain ⟨hF, hK, hG, hA, hX, hbl, hbA, hst, hL⟩ := C0
  obtain ⟨hx, hb, hml, hown, hts⟩ := id hF
  have hc0 : cells ≤ room_1.cells ∧ slots ≤ room_1.slots := ⟨by show cells ≤ 601024; omega, by show slots ≤ 7293034; omega⟩
  have hc1 : cells + 1 ≤ room_1.cells ∧ slots + 6 ≤ room_1.slots := hcs
  refine lv_aload_n hx hb dL_law_394 rfl (lv_at hl 1 rfl) ?_
  refine lv_aload_n hx hb dL_law_395 rfl (lv_at hl 0 rfl) ?_
  refine lv_iload hx hb dL_law_396 (lv_at hl 4 rfl) ?_
  refine lv_iconst (v := 1) hx hb dL_law_398 (by decide) ?_
  refine lv_iadd hx hb dL_law_399 ?_
  refine k_sld (j := i + 1) hx hb hX hbl hbA hS (nI_add i 1) (by omega) (by omega) dL_law_400 ?_
  refine lv_aload_n hx hb dL_law_401 rfl (lv_at hl 0 rfl) ?_
  refine lv_iload hx hb dL_law_402 (lv_at hl 4 rfl) ?_
  refine lv_iconst (v := 2) hx hb dL_law_404 (by decide) ?_
  refine lv_iadd hx hb dL_law_405 ?_
  refine k_sld (j := i + 2) hx hb hX hbl hbA hS (nI_add i 2) (by omega) (by omega) dL_law_406 ?_
  refine lv_aload_n hx hb dL_law_407 rfl (lv_at hl 3 rfl) ?_
  refine kw_Si (av := [.ref (a 0), .int (xs (i + 1)), .int (xs (i + 2)), .ref ao]) (rest := []) hF hK hG hA (mk_L_frame l hst D cI (a 0) (a 1) (a 3) (a 11) (a 19) (a 21) (a 4) (a 7) (a 10) (a 8) (a 9) ao H.size n.1 n.2.1 n.2.2.1 n.2.2.2.2.2.2.2.2.1 n.2.2.2.2.2.2.2.2.2.1 n.2.2.2.2.2.2.2.2.2.2.1 n.2.2.2.2.2.2.2.2.2.2.2.1 out (xs (i + 1)) (xs (i + 2)) o ho) (vx_cwSW 4 hts gL_law_L_frame rfl rfl rfl (by decide +kernel) ⟨Nat.le_of_ble_eq_true rfl, Nat.le_of_ble_eq_true rfl⟩) hP hD hS (kSub0 [0, 3, 7, 8, 9, 33] (by decide) rfl rfl) rfl hl.1 rfl (Nat.le_of_ble_eq_true rfl) hcs dL_law_408 (fun H locs hP hD hS => ?_)
  have hP : va_P D vwCl (lawP cI a am ao hadH hadL n t sg len hsz hnx lk o.2 mref msize macts mspot mout mtext mnow mtrial mdiary mkept misk mside mwas ++ (famW cI 14 hadH hs ++ famW cI 2 hadL gs)) H := hP
  have hD : va_D A (lawP cI a am ao hadH hadL n t sg len hsz hnx lk o.2 mref msize macts mspot mout mtext mnow mtrial mdiary mkept misk mside mwas ++ (famW cI 14 hadH hs ++ famW cI 2 hadL gs)) := hD
  refine lv_istore (lv' := [(5, .int o.1), (0, .ref b), (1, .ref (a 0)), (2, .ref (am 0)), (3, .ref ao), (4, .int (nI i))]) hx hb dL_law_411 hl (by decide) rfl (fun ls hl => ?_)
  refine lv_aload_n hx hb dL_law_413 rfl (lv_at hl 3 rfl) ?_
  refine lv_aload_n hx hb dL_law_414 rfl (lv_at hl 1 rfl) ?_
  refine lv_iload hx hb dL_law_415 (lv_at hl 5 rfl) ?_
  refine lv_iconst (v := 1) hx hb dL_law_417 (by decide) ?_
  refine lv_iadd hx hb dL_law_418 ?_
  refine k_sld (j := i + 1) hx hb hX hbl hbA hS (nI_add i 1) (by omega) (by omega) dL_law_419 ?_
  refine lv_aload_n hx hb dL_law_420 rfl (lv_at hl 1 rfl) ?_
  refine lv_iload hx hb dL_law_421 (lv_at hl 5 rfl) ?_
  refine lv_iconst (v := 2) hx hb dL_law_423 (by decide) ?_
  refine lv_iadd hx hb dL_law_424 ?_
  refine k_sld (j := i + 2) hx hb hX hbl hbA hS (nI_add i 2) (by omega) (by omega) dL_law_425 ?_
  refine kd_Vi (av := [.int (xs (i + 1)), .int (xs (i + 2))]) (rest := []) hF hK hG hA (mk_X8_frame l D cI (am 0) (am 1) (am 2) (am 3) (am 4) (am 5) (am 6) (am 7) (am 8) H.size mref msize macts mspot mout mnow (xs (i + 1)) (xs (i + 2)) o' ho') (cwV 2 hts gL_law_X8_frame rfl rfl rfl (by decide +kernel) ⟨Nat.le_of_ble_eq_true rfl, Nat.le_of_ble_eq_true rfl⟩) hP hD hS (kSub0 [24, 26] (by decide) rfl rfl) 0 rfl rfl rfl hl.1 rfl (Nat.le_of_ble_eq_true rfl) hc1 dL_law_426 (fun H locs hP hD hS => ?_)
  have hP : va_P D vwCl (lawP cI a am ao hadH hadL n t sg len hsz hnx lk o.2 o'.2 msize macts mspot mout mtext mnow mtrial mdiary mkept misk mside mwas ++ (famW cI 14 hadH hs ++ famW cI 2 hadL gs)) H := hP
  have hD : va_D A (lawP cI a am ao hadH hadL n t sg len hsz hnx lk o.2 o'.2 msize macts mspot mout mtext mnow mtrial mdiary mkept misk mside mwas ++ (famW cI 14 hadH hs ++ famW cI 2 hadL gs)) := hD
  refine lv_istore (lv' := [(6, .int o'.1), (5, .int o.1), (0, .ref b), (1, .ref (a 0)), (2, .ref (am 0)), (3, .ref ao), (4, .int (nI i))]) hx hb dL_law_429 hl (by decide) rfl (fun ls hl => ?_)
  refine lv_aload_n hx hb dL_law_431 rfl (lv_at hl 4 rfl) ?_
  refine kd_Vi (av := []) (rest := []) hF hK hG hA (mk_X8_thrown l D cI (am 0) (am 1) (am 2) (am 3) (am 4) (am 5) (am 6) (am 7) (am 8) H.size o'.2 msize macts mspot mout _ rfl) (cwV 0 hts gL_law_X8_thrown rfl rfl rfl (by decide +kernel) ⟨Nat.le_of_ble_eq_true rfl, Nat.le_of_ble_eq_true rfl⟩) hP hD hS (kSub0 [24] (by decide) rfl rfl) 0 rfl rfl rfl hl.1 rfl (Nat.le_of_ble_eq_true rfl) hc1 dL_law_432 (fun H locs hP hD hS => ?_)
  have hP : va_P D vwCl (lawP cI a am ao hadH hadL n t sg len hsz hnx lk o.2 o'.2 msize macts mspot mout mtext mnow mtrial mdiary mkept misk mside mwas ++ (famW cI 14 hadH hs ++ famW cI 2 hadL gs)) H := hP
  have hD : va_D A (lawP cI a am ao hadH hadL n t sg len hsz hnx lk o.2 o'.2 msize macts mspot mout mtext mnow mtrial mdiary mkept misk mside mwas ++ (famW cI 14 hadH hs ++ famW cI 2 hadL gs)) := hD
  refine lv_iload hx hb dL_law_435 (lv_at hl 1 rfl) ?_
  refine lv_icmp_eq (tgt := 442) hx hb dL_law_437 (by decide) (fun _ => ?_) (fun c9 => absurd e1 c9)
  refine lv_iload hx hb dL_law_442 (lv_at hl 1 rfl) ?_
  have tl : W p l e room_1 s m args below meth c H locs (cells + 1) (slots + 6) Q (F0 m 459 ls []) := by
    refine lv_goto (tgt := 1417) hx hb dL_law_459 (by decide) ?_
    exact kk _ _ _ hP hD hS (lv_sub hl [2, 3, 4, 5, 6] rfl)
  refine lv_if_ne (tgt := 459) hx hb dL_law_444 (by decide) (fun _ => tl) (fun c9 => ?_)
  refine lv_aload_n hx hb dL_law_447 rfl (lv_at hl 5 rfl) ?_
  refine lv_iconst (v := 0) hx hb dL_law_448 (by decide) ?_
  refine k_lald (j := 0) hx hb hK.1 hP 33 3 rfl rfl (by decide) (by decide) dL_law_449 ?_
  refine lv_iload hx hb dL_law_450 (lv_at hl 0 rfl) ?_
  refine lv_i2l (v := (o'.1).toInt64) hx hb dL_law_452 rfl ?_
  refine W.lcmp hx hb dL_law_453 ?_
  exact lv_if_eq (tgt := 459) hx hb dL_law_454 (by decide) (fun _ => tl) (fun c8 => absurd ((lg_cmp_eq _ _).mpr (e2 c9)) c8)
set_option maxHeartbeats 4000000 in
set_option maxRecDepth 100000 in
theorem cs_taken {p : Program} {l : Launch} {e : Env} {s : State} {m : MethodId} {args : Array Value} {below : List Frame} {meth : Method} {c : Code} {cells slots : Nat} {Q : State → Prop} {D : va_G} {cI : Nat → ClassId} {A : Nat → Prop} {b L i : Nat} {xs : Nat → Int32} {a am : Nat → Nat} {ao : Nat} {hadH hadL : Nat → Nat → Nat} {n t : kSt} {hs gs : Nat → kSt} {len hsz hnx mref msize macts mspot mout : Int32} {sg lk mtext mnow mtrial mdiary mkept misk mside mwas : kF} {out : Nat → Int64}
    (C0 : LC p l s m args c D cI A b L xs) (hcs : cells + 1 ≤ 601024 ∧ slots + 6 ≤ 7293034) (hi : i + 5 ≤ L) {o : (Int32 × (Nat → Int64))} (ho : fn_L_taken n.2.2.2.2.2.2.2.2.1 n.2.2.2.2.2.2.2.2.2.2.1 out (xs (i + 1)) = some o) {o' : (Int32 × Int32)} (ho' : fn_X8_taken mref mnow (xs (i + 1)) = some o') (e1 : o'.2 = o.1) (e2 : o.1 = 0 → (o.2 0) = (o'.1).toInt64)
    {H : Heap} {locs : List Loc} {ls : Array Slot} (hP : va_P D vwCl (lawP cI a am ao hadH hadL n t sg len hsz hnx lk out mref msize macts mspot mout mtext mnow mtrial mdiary mkept misk mside mwas ++ (famW cI 14 hadH hs ++ famW cI 2 hadL gs)) H) (hD : va_D A (lawP cI a am ao hadH hadL n t sg len hsz hnx lk out mref msize macts mspot mout mtext mnow mtrial mdiary mkept misk mside mwas ++ (famW cI 14 hadH hs ++ famW cI 2 hadL gs))) (hS : va_S A s.heap H locs) (hl : lv_has ls 7 (lawL a am ao b i))
    (kk : ∀ (H : Heap) (locs : List Loc) (ls : Array Slot), va_P D vwCl (lawP cI a am ao hadH hadL n t sg len hsz hnx lk o.2 o'.2 msize macts mspot mout mtext mnow mtrial mdiary mkept misk mside mwas ++ (famW cI 14 hadH hs ++ famW cI 2 hadL gs)) H → va_D A (lawP cI a am ao hadH hadL n t sg len hsz hnx lk o.2 o'.2 msize macts mspot mout mtext mnow mtrial mdiary mkept misk mside mwas ++ (famW cI 14 hadH hs ++ famW cI 2 hadL gs)) → va_S A s.heap H locs → lv_has ls 7 (lawL a am ao b i) → W p l e room_1 s m args below meth c H locs (cells + 1) (slots + 6) Q (F0 m 1417 ls [])) :
    W p l e room_1 s m args below meth c H locs cells slots Q (F0 m 462 ls []) := by
  obtain ⟨hF, hK, hG, hA, hX, hbl, hbA, hst, hL⟩ := C0
  obtain ⟨hx, hb, hml, hown, hts⟩ := id hF
  have hc0 : cells ≤ room_1.cells ∧ slots ≤ room_1.slots := ⟨by show cells ≤ 601024; omega, by show slots ≤ 7293034; omega⟩
  have hc1 : cells + 1 ≤ room_1.cells ∧ slots + 6 ≤ room_1.slots := hcs
  refine lv_aload_n hx hb dL_law_462 rfl (lv_at hl 1 rfl) ?_
  refine lv_aload_n hx hb dL_law_463 rfl (lv_at hl 0 rfl) ?_
  refine lv_iload hx hb dL_law_464 (lv_at hl 4 rfl) ?_
  refine lv_iconst (v := 1) hx hb dL_law_466 (by decide) ?_
  refine lv_iadd hx hb dL_law_467 ?_
  refine k_sld (j := i + 1) hx hb hX hbl hbA hS (nI_add i 1) (by omega) (by omega) dL_law_468 ?_
  refine lv_aload_n hx hb dL_law_469 rfl (lv_at hl 3 rfl) ?_
  refine kw_Si (av := [.ref (a 0), .int (xs (i + 1)), .ref ao]) (rest := []) hF hK hG hA (mk_L_taken l hst D cI (a 0) (a 1) (a 3) (a 11) (a 19) (a 21) (a 4) (a 7) (a 10) (a 8) (a 9) ao H.size n.1 n.2.1 n.2.2.1 n.2.2.2.2.2.2.2.2.1 n.2.2.2.2.2.2.2.2.2.1 n.2.2.2.2.2.2.2.2.2.2.1 out (xs (i + 1)) o ho) (vx_cwSW 3 hts gL_law_L_taken rfl rfl rfl (by decide +kernel) ⟨Nat.le_of_ble_eq_true rfl, Nat.le_of_ble_eq_true rfl⟩) hP hD hS (kSub0 [0, 3, 7, 8, 33] (by decide) rfl rfl) rfl hl.1 rfl (Nat.le_of_ble_eq_true rfl) hcs dL_law_470 (fun H locs hP hD hS => ?_)
  have hP : va_P D vwCl (lawP cI a am ao hadH hadL n t sg len hsz hnx lk o.2 mref msize macts mspot mout mtext mnow mtrial mdiary mkept misk mside mwas ++ (famW cI 14 hadH hs ++ famW cI 2 hadL gs)) H := hP
  have hD : va_D A (lawP cI a am ao hadH hadL n t sg len hsz hnx lk o.2 mref msize macts mspot mout mtext mnow mtrial mdiary mkept misk mside mwas ++ (famW cI 14 hadH hs ++ famW cI 2 hadL gs)) := hD
  refine lv_istore (lv' := [(5, .int o.1), (0, .ref b), (1, .ref (a 0)), (2, .ref (am 0)), (3, .ref ao), (4, .int (nI i))]) hx hb dL_law_473 hl (by decide) rfl (fun ls hl => ?_)
  refine lv_aload_n hx hb dL_law_475 rfl (lv_at hl 3 rfl) ?_
  refine lv_aload_n hx hb dL_law_476 rfl (lv_at hl 1 rfl) ?_
  refine lv_iload hx hb dL_law_477 (lv_at hl 5 rfl) ?_
  refine lv_iconst (v := 1) hx hb dL_law_479 (by decide) ?_
  refine lv_iadd hx hb dL_law_480 ?_
  refine k_sld (j := i + 1) hx hb hX hbl hbA hS (nI_add i 1) (by omega) (by omega) dL_law_481 ?_
  refine kd_Vi (av := [.int (xs (i + 1))]) (rest := []) hF hK hG hA (mk_X8_taken l D cI (am 0) (am 1) (am 2) (am 3) (am 4) (am 5) (am 6) (am 7) (am 8) H.size mref msize macts mspot mout mnow (xs (i + 1)) o' ho') (cwV 1 hts gL_law_X8_taken rfl rfl rfl (by decide +kernel) ⟨Nat.le_of_ble_eq_true rfl, Nat.le_of_ble_eq_true rfl⟩) hP hD hS (kSub0 [24, 26] (by decide) rfl rfl) 0 rfl rfl rfl hl.1 rfl (Nat.le_of_ble_eq_true rfl) hc1 dL_law_482 (fun H locs hP hD hS => ?_)
  have hP : va_P D vwCl (lawP cI a am ao hadH hadL n t sg len hsz hnx lk o.2 o'.2 msize macts mspot mout mtext mnow mtrial mdiary mkept misk mside mwas ++ (famW cI 14 hadH hs ++ famW cI 2 hadL gs)) H := hP
  have hD : va_D A (lawP cI a am ao hadH hadL n t sg len hsz hnx lk o.2 o'.2 msize macts mspot mout mtext mnow mtrial mdiary mkept misk mside mwas ++ (famW cI 14 hadH hs ++ famW cI 2 hadL gs)) := hD
  refine lv_istore (lv' := [(6, .int o'.1), (5, .int o.1), (0, .ref b), (1, .ref (a 0)), (2, .ref (am 0)), (3, .ref ao), (4, .int (nI i))]) hx hb dL_law_485 hl (by decide) rfl (fun ls hl => ?_)
  refine lv_aload_n hx hb dL_law_487 rfl (lv_at hl 4 rfl) ?_
  refine kd_Vi (av := []) (rest := []) hF hK hG hA (mk_X8_thrown l D cI (am 0) (am 1) (am 2) (am 3) (am 4) (am 5) (am 6) (am 7) (am 8) H.size o'.2 msize macts mspot mout _ rfl) (cwV 0 hts gL_law_X8_thrown rfl rfl rfl (by decide +kernel) ⟨Nat.le_of_ble_eq_true rfl, Nat.le_of_ble_eq_true rfl⟩) hP hD hS (kSub0 [24] (by decide) rfl rfl) 0 rfl rfl rfl hl.1 rfl (Nat.le_of_ble_eq_true rfl) hc1 dL_law_488 (fun H locs hP hD hS => ?_)
  have hP : va_P D vwCl (lawP cI a am ao hadH hadL n t sg len hsz hnx lk o.2 o'.2 msize macts mspot mout mtext mnow mtrial mdiary mkept misk mside mwas ++ (famW cI 14 hadH hs ++ famW cI 2 hadL gs)) H := hP
  have hD : va_D A (lawP cI a am ao hadH hadL n t sg len hsz hnx lk o.2 o'.2 msize macts mspot mout mtext mnow mtrial mdiary mkept misk mside mwas ++ (famW cI 14 hadH hs ++ famW cI 2 hadL gs)) := hD
  refine lv_iload hx hb dL_law_491 (lv_at hl 1 rfl) ?_
  refine lv_icmp_eq (tgt := 498) hx hb dL_law_493 (by decide) (fun _ => ?_) (fun c9 => absurd e1 c9)
  refine lv_iload hx hb dL_law_498 (lv_at hl 1 rfl) ?_
  have tl : W p l e room_1 s m args below meth c H locs (cells + 1) (slots + 6) Q (F0 m 515 ls []) := by
    refine lv_goto (tgt := 1417) hx hb dL_law_515 (by decide) ?_
    exact kk _ _ _ hP hD hS (lv_sub hl [2, 3, 4, 5, 6] rfl)
  refine lv_if_ne (tgt := 515) hx hb dL_law_500 (by decide) (fun _ => tl) (fun c9 => ?_)
  refine lv_aload_n hx hb dL_law_503 rfl (lv_at hl 5 rfl) ?_
  refine lv_iconst (v := 0) hx hb dL_law_504 (by decide) ?_
  refine k_lald (j := 0) hx hb hK.1 hP 33 3 rfl rfl (by decide) (by decide) dL_law_505 ?_
  refine lv_iload hx hb dL_law_506 (lv_at hl 0 rfl) ?_
  refine lv_i2l (v := (o'.1).toInt64) hx hb dL_law_508 rfl ?_
  refine W.lcmp hx hb dL_law_509 ?_
  exact lv_if_eq (tgt := 515) hx hb dL_law_510 (by decide) (fun _ => tl) (fun c8 => absurd ((lg_cmp_eq _ _).mpr (e2 c9)) c8)
set_option maxHeartbeats 4000000 in
set_option maxRecDepth 100000 in
theorem cs_setting {p : Program} {l : Launch} {e : Env} {s : State} {m : MethodId} {args : Array Value} {below : List Frame} {meth : Method} {c : Code} {cells slots : Nat} {Q : State → Prop} {D : va_G} {cI : Nat → ClassId} {A : Nat → Prop} {b L i : Nat} {xs : Nat → Int32} {a am : Nat → Nat} {ao : Nat} {hadH hadL : Nat → Nat → Nat} {n t : kSt} {hs gs : Nat → kSt} {len hsz hnx mref msize macts mspot mout : Int32} {sg lk mtext mnow mtrial mdiary mkept misk mside mwas : kF} {out : Nat → Int64}
    (C0 : LC p l s m args c D cI A b L xs) (hcs : cells + 1 ≤ 601024 ∧ slots + 6 ≤ 7293034) (hi : i + 5 ≤ L) {o : (Int32 × (Nat → Int64))} (ho : fn_L_setting n.2.2.2.2.2.2.2.2.2.2.2.2 out (xs (i + 1)) = some o) {o' : (Int32 × Int32)} (ho' : fn_X8_setting mref mnow (xs (i + 1)) = some o') (e1 : o'.2 = o.1) (e2 : o.1 = 0 → (o.2 0) = (o'.1).toInt64)
    {H : Heap} {locs : List Loc} {ls : Array Slot} (hP : va_P D vwCl (lawP cI a am ao hadH hadL n t sg len hsz hnx lk out mref msize macts mspot mout mtext mnow mtrial mdiary mkept misk mside mwas ++ (famW cI 14 hadH hs ++ famW cI 2 hadL gs)) H) (hD : va_D A (lawP cI a am ao hadH hadL n t sg len hsz hnx lk out mref msize macts mspot mout mtext mnow mtrial mdiary mkept misk mside mwas ++ (famW cI 14 hadH hs ++ famW cI 2 hadL gs))) (hS : va_S A s.heap H locs) (hl : lv_has ls 7 (lawL a am ao b i))
    (kk : ∀ (H : Heap) (locs : List Loc) (ls : Array Slot), va_P D vwCl (lawP cI a am ao hadH hadL n t sg len hsz hnx lk o.2 o'.2 msize macts mspot mout mtext mnow mtrial mdiary mkept misk mside mwas ++ (famW cI 14 hadH hs ++ famW cI 2 hadL gs)) H → va_D A (lawP cI a am ao hadH hadL n t sg len hsz hnx lk o.2 o'.2 msize macts mspot mout mtext mnow mtrial mdiary mkept misk mside mwas ++ (famW cI 14 hadH hs ++ famW cI 2 hadL gs)) → va_S A s.heap H locs → lv_has ls 7 (lawL a am ao b i) → W p l e room_1 s m args below meth c H locs (cells + 1) (slots + 6) Q (F0 m 1417 ls [])) :
    W p l e room_1 s m args below meth c H locs cells slots Q (F0 m 518 ls []) := by
  obtain ⟨hF, hK, hG, hA, hX, hbl, hbA, hst, hL⟩ := C0
  obtain ⟨hx, hb, hml, hown, hts⟩ := id hF
  have hc0 : cells ≤ room_1.cells ∧ slots ≤ room_1.slots := ⟨by show cells ≤ 601024; omega, by show slots ≤ 7293034; omega⟩
  have hc1 : cells + 1 ≤ room_1.cells ∧ slots + 6 ≤ room_1.slots := hcs
  refine lv_aload_n hx hb dL_law_518 rfl (lv_at hl 1 rfl) ?_
  refine lv_aload_n hx hb dL_law_519 rfl (lv_at hl 0 rfl) ?_
  refine lv_iload hx hb dL_law_520 (lv_at hl 4 rfl) ?_
  refine lv_iconst (v := 1) hx hb dL_law_522 (by decide) ?_
  refine lv_iadd hx hb dL_law_523 ?_
  refine k_sld (j := i + 1) hx hb hX hbl hbA hS (nI_add i 1) (by omega) (by omega) dL_law_524 ?_
  refine lv_aload_n hx hb dL_law_525 rfl (lv_at hl 3 rfl) ?_
  refine kw_Si (av := [.ref (a 0), .int (xs (i + 1)), .ref ao]) (rest := []) hF hK hG hA (mk_L_setting l hst D cI (a 0) (a 1) (a 3) (a 11) (a 19) (a 21) (a 4) (a 7) (a 10) ao H.size n.1 n.2.1 n.2.2.1 n.2.2.2.2.2.2.2.2.2.2.2.2 out (xs (i + 1)) o ho) (vx_cwSW 3 hts gL_law_L_setting rfl rfl rfl (by decide +kernel) ⟨Nat.le_of_ble_eq_true rfl, Nat.le_of_ble_eq_true rfl⟩) hP hD hS (kSub0 [0, 3, 10, 33] (by decide) rfl rfl) rfl hl.1 rfl (Nat.le_of_ble_eq_true rfl) hcs dL_law_526 (fun H locs hP hD hS => ?_)
  have hP : va_P D vwCl (lawP cI a am ao hadH hadL n t sg len hsz hnx lk o.2 mref msize macts mspot mout mtext mnow mtrial mdiary mkept misk mside mwas ++ (famW cI 14 hadH hs ++ famW cI 2 hadL gs)) H := hP
  have hD : va_D A (lawP cI a am ao hadH hadL n t sg len hsz hnx lk o.2 mref msize macts mspot mout mtext mnow mtrial mdiary mkept misk mside mwas ++ (famW cI 14 hadH hs ++ famW cI 2 hadL gs)) := hD
  refine lv_istore (lv' := [(5, .int o.1), (0, .ref b), (1, .ref (a 0)), (2, .ref (am 0)), (3, .ref ao), (4, .int (nI i))]) hx hb dL_law_529 hl (by decide) rfl (fun ls hl => ?_)
  refine lv_aload_n hx hb dL_law_531 rfl (lv_at hl 3 rfl) ?_
  refine lv_aload_n hx hb dL_law_532 rfl (lv_at hl 1 rfl) ?_
  refine lv_iload hx hb dL_law_533 (lv_at hl 5 rfl) ?_
  refine lv_iconst (v := 1) hx hb dL_law_535 (by decide) ?_
  refine lv_iadd hx hb dL_law_536 ?_
  refine k_sld (j := i + 1) hx hb hX hbl hbA hS (nI_add i 1) (by omega) (by omega) dL_law_537 ?_
  refine kd_Vi (av := [.int (xs (i + 1))]) (rest := []) hF hK hG hA (mk_X8_setting l D cI (am 0) (am 1) (am 2) (am 3) (am 4) (am 5) (am 6) (am 7) (am 8) H.size mref msize macts mspot mout mnow (xs (i + 1)) o' ho') (cwV 1 hts gL_law_X8_setting rfl rfl rfl (by decide +kernel) ⟨Nat.le_of_ble_eq_true rfl, Nat.le_of_ble_eq_true rfl⟩) hP hD hS (kSub0 [24, 26] (by decide) rfl rfl) 0 rfl rfl rfl hl.1 rfl (Nat.le_of_ble_eq_true rfl) hc1 dL_law_538 (fun H locs hP hD hS => ?_)
  have hP : va_P D vwCl (lawP cI a am ao hadH hadL n t sg len hsz hnx lk o.2 o'.2 msize macts mspot mout mtext mnow mtrial mdiary mkept misk mside mwas ++ (famW cI 14 hadH hs ++ famW cI 2 hadL gs)) H := hP
  have hD : va_D A (lawP cI a am ao hadH hadL n t sg len hsz hnx lk o.2 o'.2 msize macts mspot mout mtext mnow mtrial mdiary mkept misk mside mwas ++ (famW cI 14 hadH hs ++ famW cI 2 hadL gs)) := hD
  refine lv_istore (lv' := [(6, .int o'.1), (5, .int o.1), (0, .ref b), (1, .ref (a 0)), (2, .ref (am 0)), (3, .ref ao), (4, .int (nI i))]) hx hb dL_law_541 hl (by decide) rfl (fun ls hl => ?_)
  refine lv_aload_n hx hb dL_law_543 rfl (lv_at hl 4 rfl) ?_
  refine kd_Vi (av := []) (rest := []) hF hK hG hA (mk_X8_thrown l D cI (am 0) (am 1) (am 2) (am 3) (am 4) (am 5) (am 6) (am 7) (am 8) H.size o'.2 msize macts mspot mout _ rfl) (cwV 0 hts gL_law_X8_thrown rfl rfl rfl (by decide +kernel) ⟨Nat.le_of_ble_eq_true rfl, Nat.le_of_ble_eq_true rfl⟩) hP hD hS (kSub0 [24] (by decide) rfl rfl) 0 rfl rfl rfl hl.1 rfl (Nat.le_of_ble_eq_true rfl) hc1 dL_law_544 (fun H locs hP hD hS => ?_)
  have hP : va_P D vwCl (lawP cI a am ao hadH hadL n t sg len hsz hnx lk o.2 o'.2 msize macts mspot mout mtext mnow mtrial mdiary mkept misk mside mwas ++ (famW cI 14 hadH hs ++ famW cI 2 hadL gs)) H := hP
  have hD : va_D A (lawP cI a am ao hadH hadL n t sg len hsz hnx lk o.2 o'.2 msize macts mspot mout mtext mnow mtrial mdiary mkept misk mside mwas ++ (famW cI 14 hadH hs ++ famW cI 2 hadL gs)) := hD
  refine lv_iload hx hb dL_law_547 (lv_at hl 1 rfl) ?_
  refine lv_icmp_eq (tgt := 554) hx hb dL_law_549 (by decide) (fun _ => ?_) (fun c9 => absurd e1 c9)
  refine lv_iload hx hb dL_law_554 (lv_at hl 1 rfl) ?_
  have tl : W p l e room_1 s m args below meth c H locs (cells + 1) (slots + 6) Q (F0 m 571 ls []) := by
    refine lv_goto (tgt := 1417) hx hb dL_law_571 (by decide) ?_
    exact kk _ _ _ hP hD hS (lv_sub hl [2, 3, 4, 5, 6] rfl)
  refine lv_if_ne (tgt := 571) hx hb dL_law_556 (by decide) (fun _ => tl) (fun c9 => ?_)
  refine lv_aload_n hx hb dL_law_559 rfl (lv_at hl 5 rfl) ?_
  refine lv_iconst (v := 0) hx hb dL_law_560 (by decide) ?_
  refine k_lald (j := 0) hx hb hK.1 hP 33 3 rfl rfl (by decide) (by decide) dL_law_561 ?_
  refine lv_iload hx hb dL_law_562 (lv_at hl 0 rfl) ?_
  refine lv_i2l (v := (o'.1).toInt64) hx hb dL_law_564 rfl ?_
  refine W.lcmp hx hb dL_law_565 ?_
  exact lv_if_eq (tgt := 571) hx hb dL_law_566 (by decide) (fun _ => tl) (fun c8 => absurd ((lg_cmp_eq _ _).mpr (e2 c9)) c8)
set_option maxHeartbeats 4000000 in
set_option maxRecDepth 100000 in
theorem cs_begin {p : Program} {l : Launch} {e : Env} {s : State} {m : MethodId} {args : Array Value} {below : List Frame} {meth : Method} {c : Code} {cells slots : Nat} {Q : State → Prop} {D : va_G} {cI : Nat → ClassId} {A : Nat → Prop} {b L i : Nat} {xs : Nat → Int32} {a am : Nat → Nat} {ao : Nat} {hadH hadL : Nat → Nat → Nat} {n t : kSt} {hs gs : Nat → kSt} {len hsz hnx mref msize macts mspot mout : Int32} {sg lk mtext mnow mtrial mdiary mkept misk mside mwas : kF} {out : Nat → Int64}
    (C0 : LC p l s m args c D cI A b L xs) (hcs : cells + 1 ≤ 601024 ∧ slots + 6 ≤ 7293034) (hi : i + 5 ≤ L) {o : (Int32 × Int32 × kF × kF × Int32 × Int32 × Int32 × Int32 × (Nat → kSt))} (ho : fn_X7_begin n.1 n.2.1 n.2.2.1 n.2.2.2.1 n.2.2.2.2.2.2.1 n.2.2.2.2.2.2.2.1 n.2.2.2.2.2.2.2.2.1 n.2.2.2.2.2.2.2.2.2.1 n.2.2.2.2.2.2.2.2.2.2.1 n.2.2.2.2.2.2.2.2.2.2.2.1 n.2.2.2.2.2.2.2.2.2.2.2.2 hsz hnx hs = some o) {o' : (Int32 × Int32 × Int32 × kF × kF)} (ho' : fn_X8_begin mref macts mnow mdiary = some o') (e1 : o.1 = o'.1)
    {H : Heap} {locs : List Loc} {ls : Array Slot} (hP : va_P D vwCl (lawP cI a am ao hadH hadL n t sg len hsz hnx lk out mref msize macts mspot mout mtext mnow mtrial mdiary mkept misk mside mwas ++ (famW cI 14 hadH hs ++ famW cI 2 hadL gs)) H) (hD : va_D A (lawP cI a am ao hadH hadL n t sg len hsz hnx lk out mref msize macts mspot mout mtext mnow mtrial mdiary mkept misk mside mwas ++ (famW cI 14 hadH hs ++ famW cI 2 hadL gs))) (hS : va_S A s.heap H locs) (hl : lv_has ls 7 (lawL a am ao b i))
    (kk : ∀ (H : Heap) (locs : List Loc) (ls : Array Slot), va_P D vwCl (lawP cI a am ao hadH hadL (n.1, n.2.1, n.2.2.1, o.2.1, n.2.2.2.2.1, n.2.2.2.2.2.1, o.2.2.1, o.2.2.2.1, o.2.2.2.2.1, o.2.2.2.2.2.1, n.2.2.2.2.2.2.2.2.2.2.1, n.2.2.2.2.2.2.2.2.2.2.2.1, n.2.2.2.2.2.2.2.2.2.2.2.2) t sg len o.2.2.2.2.2.2.1 o.2.2.2.2.2.2.2.1 lk out o'.2.1 msize o'.2.2.1 mspot mout mtext o'.2.2.2.1 mtrial o'.2.2.2.2 mkept misk mside mwas ++ (famW cI 14 hadH o.2.2.2.2.2.2.2.2 ++ famW cI 2 hadL gs)) H → va_D A (lawP cI a am ao hadH hadL (n.1, n.2.1, n.2.2.1, o.2.1, n.2.2.2.2.1, n.2.2.2.2.2.1, o.2.2.1, o.2.2.2.1, o.2.2.2.2.1, o.2.2.2.2.2.1, n.2.2.2.2.2.2.2.2.2.2.1, n.2.2.2.2.2.2.2.2.2.2.2.1, n.2.2.2.2.2.2.2.2.2.2.2.2) t sg len o.2.2.2.2.2.2.1 o.2.2.2.2.2.2.2.1 lk out o'.2.1 msize o'.2.2.1 mspot mout mtext o'.2.2.2.1 mtrial o'.2.2.2.2 mkept misk mside mwas ++ (famW cI 14 hadH o.2.2.2.2.2.2.2.2 ++ famW cI 2 hadL gs)) → va_S A s.heap H locs → lv_has ls 7 (lawL a am ao b i) → W p l e room_1 s m args below meth c H locs cells slots Q (F0 m 1417 ls [])) :
    W p l e room_1 s m args below meth c H locs cells slots Q (F0 m 574 ls []) := by
  obtain ⟨hF, hK, hG, hA, hX, hbl, hbA, hst, hL⟩ := C0
  obtain ⟨hx, hb, hml, hown, hts⟩ := id hF
  have hc0 : cells ≤ room_1.cells ∧ slots ≤ room_1.slots := ⟨by show cells ≤ 601024; omega, by show slots ≤ 7293034; omega⟩
  have hc1 : cells + 1 ≤ room_1.cells ∧ slots + 6 ≤ room_1.slots := hcs
  refine lv_aload_n hx hb dL_law_574 rfl (lv_at hl 1 rfl) ?_
  refine kd_Vi (av := []) (rest := []) hF hK hG hA (mk_X7_begin l D cI (a 0) (a 1) (a 3) (a 11) (a 19) (a 21) (a 4) (a 7) (a 10) (a 5) (a 6) (a 8) (a 9) (a 20) hadH H.size n.1 n.2.1 n.2.2.1 n.2.2.2.1 n.2.2.2.2.1 n.2.2.2.2.2.1 n.2.2.2.2.2.2.1 n.2.2.2.2.2.2.2.1 n.2.2.2.2.2.2.2.2.1 n.2.2.2.2.2.2.2.2.2.1 n.2.2.2.2.2.2.2.2.2.2.1 n.2.2.2.2.2.2.2.2.2.2.2.1 n.2.2.2.2.2.2.2.2.2.2.2.2 hsz hnx hs o ho) (cwV 0 hts gL_law_X7_begin rfl rfl rfl (by decide +kernel) ⟨Nat.le_of_ble_eq_true rfl, Nat.le_of_ble_eq_true rfl⟩) hP hD hS (kSubTl (pre := lawP cI a am ao hadH hadL n t sg len hsz hnx lk out mref msize macts mspot mout mtext mnow mtrial mdiary mkept misk mside mwas) (prec := [((a 0), .inr (6, [.ref (a 1), .ref (a 3), .ref (a 11), .ref (a 19), .ref (a 21)])), ((a 3), .inr (5, [.ref (a 4), .ref (a 7), .ref (a 10), .int n.1, .int n.2.1, .int n.2.2.1])), ((a 4), .inr (2, [.ref (a 5), .ref (a 6), .int n.2.2.2.1, .int n.2.2.2.2.1, .int n.2.2.2.2.2.1])), ((a 5), .inl (cI 0, 10, .inl n.2.2.2.2.2.2.1)), ((a 6), .inl (cI 0, 10, .inl n.2.2.2.2.2.2.2.1)), ((a 7), .inr (3, [.ref (a 8), .ref (a 9), .int n.2.2.2.2.2.2.2.2.1, .int n.2.2.2.2.2.2.2.2.2.1])), ((a 8), .inl (cI 0, 21, .inl n.2.2.2.2.2.2.2.2.2.2.1)), ((a 9), .inl (cI 0, 11, .inl n.2.2.2.2.2.2.2.2.2.2.2.1)), ((a 10), .inl (cI 0, 3, .inl n.2.2.2.2.2.2.2.2.2.2.2.2)), ((a 19), .inr (1, [.ref (a 20), .int hsz, .int hnx])), ((a 20), .inl (cI 2, 14, .inr (.inr (.inr (.inr (rowF 14 hadH))))))]) (prec' := [((a 0), .inr (6, [.ref (a 1), .ref (a 3), .ref (a 11), .ref (a 19), .ref (a 21)])), ((a 3), .inr (5, [.ref (a 4), .ref (a 7), .ref (a 10), .int n.1, .int n.2.1, .int n.2.2.1])), ((a 4), .inr (2, [.ref (a 5), .ref (a 6), .int o.2.1, .int n.2.2.2.2.1, .int n.2.2.2.2.2.1])), ((a 5), .inl (cI 0, 10, .inl o.2.2.1)), ((a 6), .inl (cI 0, 10, .inl o.2.2.2.1)), ((a 7), .inr (3, [.ref (a 8), .ref (a 9), .int o.2.2.2.2.1, .int o.2.2.2.2.2.1])), ((a 8), .inl (cI 0, 21, .inl n.2.2.2.2.2.2.2.2.2.2.1)), ((a 9), .inl (cI 0, 11, .inl n.2.2.2.2.2.2.2.2.2.2.2.1)), ((a 10), .inl (cI 0, 3, .inl n.2.2.2.2.2.2.2.2.2.2.2.2)), ((a 19), .inr (1, [.ref (a 20), .int o.2.2.2.2.2.2.1, .int o.2.2.2.2.2.2.2.1])), ((a 20), .inl (cI 2, 14, .inr (.inr (.inr (.inr (rowF 14 hadH))))))]) (T := (famW cI 14 hadH hs)) (T' := (famW cI 14 hadH o.2.2.2.2.2.2.2.2)) (U := (famW cI 2 hadL gs)) [0, 3, 4, 5, 6, 7, 8, 9, 10, 19, 20] (by decide) rfl rfl famW_fst) 0 rfl rfl rfl hl.1 rfl (Nat.le_of_ble_eq_true rfl) hc0 dL_law_575 (fun H locs hP hD hS => ?_)
  have hP : va_P D vwCl (lawP cI a am ao hadH hadL (n.1, n.2.1, n.2.2.1, o.2.1, n.2.2.2.2.1, n.2.2.2.2.2.1, o.2.2.1, o.2.2.2.1, o.2.2.2.2.1, o.2.2.2.2.2.1, n.2.2.2.2.2.2.2.2.2.2.1, n.2.2.2.2.2.2.2.2.2.2.2.1, n.2.2.2.2.2.2.2.2.2.2.2.2) t sg len o.2.2.2.2.2.2.1 o.2.2.2.2.2.2.2.1 lk out mref msize macts mspot mout mtext mnow mtrial mdiary mkept misk mside mwas ++ (famW cI 14 hadH o.2.2.2.2.2.2.2.2 ++ famW cI 2 hadL gs)) H := hP
  have hD : va_D A (lawP cI a am ao hadH hadL (n.1, n.2.1, n.2.2.1, o.2.1, n.2.2.2.2.1, n.2.2.2.2.2.1, o.2.2.1, o.2.2.2.1, o.2.2.2.2.1, o.2.2.2.2.2.1, n.2.2.2.2.2.2.2.2.2.2.1, n.2.2.2.2.2.2.2.2.2.2.2.1, n.2.2.2.2.2.2.2.2.2.2.2.2) t sg len o.2.2.2.2.2.2.1 o.2.2.2.2.2.2.2.1 lk out mref msize macts mspot mout mtext mnow mtrial mdiary mkept misk mside mwas ++ (famW cI 14 hadH o.2.2.2.2.2.2.2.2 ++ famW cI 2 hadL gs)) := hD
  refine lv_aload_n hx hb dL_law_578 rfl (lv_at hl 2 rfl) ?_
  refine kd_Vi (av := []) (rest := [.int o.1]) hF hK hG hA (mk_X8_begin l D cI (am 0) (am 1) (am 2) (am 3) (am 4) (am 5) (am 6) (am 7) (am 8) H.size mref msize macts mspot mout mnow mdiary o' ho') (cwV 0 hts gL_law_X8_begin rfl rfl rfl (by decide +kernel) ⟨Nat.le_of_ble_eq_true rfl, Nat.le_of_ble_eq_true rfl⟩) hP hD hS (kSub0 [24, 26, 28] (by decide) rfl rfl) 0 rfl rfl rfl hl.1 rfl (Nat.le_of_ble_eq_true rfl) hc0 dL_law_579 (fun H locs hP hD hS => ?_)
  have hP : va_P D vwCl (lawP cI a am ao hadH hadL (n.1, n.2.1, n.2.2.1, o.2.1, n.2.2.2.2.1, n.2.2.2.2.2.1, o.2.2.1, o.2.2.2.1, o.2.2.2.2.1, o.2.2.2.2.2.1, n.2.2.2.2.2.2.2.2.2.2.1, n.2.2.2.2.2.2.2.2.2.2.2.1, n.2.2.2.2.2.2.2.2.2.2.2.2) t sg len o.2.2.2.2.2.2.1 o.2.2.2.2.2.2.2.1 lk out o'.2.1 msize o'.2.2.1 mspot mout mtext o'.2.2.2.1 mtrial o'.2.2.2.2 mkept misk mside mwas ++ (famW cI 14 hadH o.2.2.2.2.2.2.2.2 ++ famW cI 2 hadL gs)) H := hP
  have hD : va_D A (lawP cI a am ao hadH hadL (n.1, n.2.1, n.2.2.1, o.2.1, n.2.2.2.2.1, n.2.2.2.2.2.1, o.2.2.1, o.2.2.2.1, o.2.2.2.2.1, o.2.2.2.2.2.1, n.2.2.2.2.2.2.2.2.2.2.1, n.2.2.2.2.2.2.2.2.2.2.2.1, n.2.2.2.2.2.2.2.2.2.2.2.2) t sg len o.2.2.2.2.2.2.1 o.2.2.2.2.2.2.2.1 lk out o'.2.1 msize o'.2.2.1 mspot mout mtext o'.2.2.2.1 mtrial o'.2.2.2.2 mkept misk mside mwas ++ (famW cI 14 hadH o.2.2.2.2.2.2.2.2 ++ famW cI 2 hadL gs)) := hD
  refine lv_icmp_eq (tgt := 1417) hx hb dL_law_582 (by decide) (fun _ => ?_) (fun c9 => absurd e1 c9)
  exact kk _ _ _ hP hD hS (lv_sub hl [0, 1, 2, 3, 4] rfl)
set_option maxHeartbeats 4000000 in
set_option maxRecDepth 100000 in
theorem cs_roll {p : Program} {l : Launch} {e : Env} {s : State} {m : MethodId} {args : Array Value} {below : List Frame} {meth : Method} {c : Code} {cells slots : Nat} {Q : State → Prop} {D : va_G} {cI : Nat → ClassId} {A : Nat → Prop} {b L i : Nat} {xs : Nat → Int32} {a am : Nat → Nat} {ao : Nat} {hadH hadL : Nat → Nat → Nat} {n t : kSt} {hs gs : Nat → kSt} {len hsz hnx mref msize macts mspot mout : Int32} {sg lk mtext mnow mtrial mdiary mkept misk mside mwas : kF} {out : Nat → Int64}
    (C0 : LC p l s m args c D cI A b L xs) (hcs : cells + 1 ≤ 601024 ∧ slots + 6 ≤ 7293034) (hi : i + 5 ≤ L) {o : (Int32 × Int32 × Int32 × Int32 × Int32 × Int32 × Int32 × kF × kF × Int32 × Int32 × kF × kF × Int32 × Int32 × (Nat → Int64) × (Nat → kSt))} (ho : fn_L_roll n.1 n.2.1 n.2.2.1 n.2.2.2.1 n.2.2.2.2.1 n.2.2.2.2.2.1 n.2.2.2.2.2.2.1 n.2.2.2.2.2.2.2.1 n.2.2.2.2.2.2.2.2.1 n.2.2.2.2.2.2.2.2.2.1 n.2.2.2.2.2.2.2.2.2.2.1 n.2.2.2.2.2.2.2.2.2.2.2.1 n.2.2.2.2.2.2.2.2.2.2.2.2 hsz hnx out hs (xs (i + 1)) (xs (i + 2)) (xs (i + 3)) (if xs (i + 4) = 0 then 0 else 1) = some o) {o' : (Int32 × Int32 × Int32 × kF × kF × kF × kF)} (ho' : fn_X8_roll mref macts mnow mdiary mside mwas (xs (i + 1)) (xs (i + 2)) (xs (i + 3)) (if xs (i + 4) = 0 then 0 else 1) = some o') (e1 : o'.2.1 = o.1) (e2 : o.1 = 0 → (o.2.2.2.2.2.2.2.2.2.2.2.2.2.2.2.1 0) = (o'.1).toInt64)
    {H : Heap} {locs : List Loc} {ls : Array Slot} (hP : va_P D vwCl (lawP cI a am ao hadH hadL n t sg len hsz hnx lk out mref msize macts mspot mout mtext mnow mtrial mdiary mkept misk mside mwas ++ (famW cI 14 hadH hs ++ famW cI 2 hadL gs)) H) (hD : va_D A (lawP cI a am ao hadH hadL n t sg len hsz hnx lk out mref msize macts mspot mout mtext mnow mtrial mdiary mkept misk mside mwas ++ (famW cI 14 hadH hs ++ famW cI 2 hadL gs))) (hS : va_S A s.heap H locs) (hl : lv_has ls 7 (lawL a am ao b i))
    (kk : ∀ (H : Heap) (locs : List Loc) (ls : Array Slot), va_P D vwCl (lawP cI a am ao hadH hadL (o.2.1, o.2.2.1, o.2.2.2.1, o.2.2.2.2.1, o.2.2.2.2.2.1, o.2.2.2.2.2.2.1, o.2.2.2.2.2.2.2.1, o.2.2.2.2.2.2.2.2.1, o.2.2.2.2.2.2.2.2.2.1, o.2.2.2.2.2.2.2.2.2.2.1, o.2.2.2.2.2.2.2.2.2.2.2.1, o.2.2.2.2.2.2.2.2.2.2.2.2.1, n.2.2.2.2.2.2.2.2.2.2.2.2) t sg len o.2.2.2.2.2.2.2.2.2.2.2.2.2.1 o.2.2.2.2.2.2.2.2.2.2.2.2.2.2.1 lk o.2.2.2.2.2.2.2.2.2.2.2.2.2.2.2.1 o'.2.1 msize o'.2.2.1 mspot mout mtext o'.2.2.2.1 mtrial o'.2.2.2.2.1 mkept misk o'.2.2.2.2.2.1 o'.2.2.2.2.2.2 ++ (famW cI 14 hadH o.2.2.2.2.2.2.2.2.2.2.2.2.2.2.2.2 ++ famW cI 2 hadL gs)) H → va_D A (lawP cI a am ao hadH hadL (o.2.1, o.2.2.1, o.2.2.2.1, o.2.2.2.2.1, o.2.2.2.2.2.1, o.2.2.2.2.2.2.1, o.2.2.2.2.2.2.2.1, o.2.2.2.2.2.2.2.2.1, o.2.2.2.2.2.2.2.2.2.1, o.2.2.2.2.2.2.2.2.2.2.1, o.2.2.2.2.2.2.2.2.2.2.2.1, o.2.2.2.2.2.2.2.2.2.2.2.2.1, n.2.2.2.2.2.2.2.2.2.2.2.2) t sg len o.2.2.2.2.2.2.2.2.2.2.2.2.2.1 o.2.2.2.2.2.2.2.2.2.2.2.2.2.2.1 lk o.2.2.2.2.2.2.2.2.2.2.2.2.2.2.2.1 o'.2.1 msize o'.2.2.1 mspot mout mtext o'.2.2.2.1 mtrial o'.2.2.2.2.1 mkept misk o'.2.2.2.2.2.1 o'.2.2.2.2.2.2 ++ (famW cI 14 hadH o.2.2.2.2.2.2.2.2.2.2.2.2.2.2.2.2 ++ famW cI 2 hadL gs)) → va_S A s.heap H locs → lv_has ls 7 (lawL a am ao b i) → W p l e room_1 s m args below meth c H locs (cells + 1) (slots + 6) Q (F0 m 1417 ls [])) :
    W p l e room_1 s m args below meth c H locs cells slots Q (F0 m 587 ls []) := by
  obtain ⟨hF, hK, hG, hA, hX, hbl, hbA, hst, hL⟩ := C0
  obtain ⟨hx, hb, hml, hown, hts⟩ := id hF
  have hc0 : cells ≤ room_1.cells ∧ slots ≤ room_1.slots := ⟨by show cells ≤ 601024; omega, by show slots ≤ 7293034; omega⟩
  have hc1 : cells + 1 ≤ room_1.cells ∧ slots + 6 ≤ room_1.slots := hcs
  refine lv_aload_n hx hb dL_law_587 rfl (lv_at hl 1 rfl) ?_
  refine lv_aload_n hx hb dL_law_588 rfl (lv_at hl 0 rfl) ?_
  refine lv_iload hx hb dL_law_589 (lv_at hl 4 rfl) ?_
  refine lv_iconst (v := 1) hx hb dL_law_591 (by decide) ?_
  refine lv_iadd hx hb dL_law_592 ?_
  refine k_sld (j := i + 1) hx hb hX hbl hbA hS (nI_add i 1) (by omega) (by omega) dL_law_593 ?_
  refine lv_aload_n hx hb dL_law_594 rfl (lv_at hl 0 rfl) ?_
  refine lv_iload hx hb dL_law_595 (lv_at hl 4 rfl) ?_
  refine lv_iconst (v := 2) hx hb dL_law_597 (by decide) ?_
  refine lv_iadd hx hb dL_law_598 ?_
  refine k_sld (j := i + 2) hx hb hX hbl hbA hS (nI_add i 2) (by omega) (by omega) dL_law_599 ?_
  refine lv_aload_n hx hb dL_law_600 rfl (lv_at hl 0 rfl) ?_
  refine lv_iload hx hb dL_law_601 (lv_at hl 4 rfl) ?_
  refine lv_iconst (v := 3) hx hb dL_law_603 (by decide) ?_
  refine lv_iadd hx hb dL_law_604 ?_
  refine k_sld (j := i + 3) hx hb hX hbl hbA hS (nI_add i 3) (by omega) (by omega) dL_law_605 ?_
  refine lv_aload_n hx hb dL_law_606 rfl (lv_at hl 0 rfl) ?_
  refine lv_iload hx hb dL_law_607 (lv_at hl 4 rfl) ?_
  refine lv_iconst (v := 4) hx hb dL_law_609 (by decide) ?_
  refine lv_iadd hx hb dL_law_610 ?_
  refine k_sld (j := i + 4) hx hb hX hbl hbA hS (nI_add i 4) (by omega) (by omega) dL_law_611 ?_
  have hj : W p l e room_1 s m args below meth c H locs cells slots Q (F0 m 620 ls [.int (if xs (i + 4) = 0 then 0 else 1), .int (xs (i + 3)), .int (xs (i + 2)), .int (xs (i + 1)), .ref (a 0)]) → W p l e room_1 s m args below meth c H locs cells slots Q (F0 m 612 ls [.int (xs (i + 4)), .int (xs (i + 3)), .int (xs (i + 2)), .int (xs (i + 1)), .ref (a 0)]) := fun K => by
    refine lv_if_eq (tgt := 619) hx hb dL_law_612 (by decide) (fun c9 => ?_) (fun c9 => ?_)
    · refine lv_iconst (v := 0) hx hb dL_law_619 (by decide) ?_
      rw [if_pos c9] at K
      exact K
    · refine lv_iconst (v := 1) hx hb dL_law_615 (by decide) ?_
      refine lv_goto (tgt := 620) hx hb dL_law_616 (by decide) ?_
      rw [if_neg c9] at K
      exact K
  refine hj ?_
  refine lv_aload_n hx hb dL_law_620 rfl (lv_at hl 3 rfl) ?_
  refine kw_Si (av := [.ref (a 0), .int (xs (i + 1)), .int (xs (i + 2)), .int (xs (i + 3)), .int (if xs (i + 4) = 0 then 0 else 1), .ref ao]) (rest := []) hF hK hG hA (mk_L_roll l hst D cI (a 0) (a 1) (a 3) (a 11) (a 19) (a 21) (a 4) (a 7) (a 10) (a 5) (a 6) (a 8) (a 9) (a 20) ao hadH H.size n.1 n.2.1 n.2.2.1 n.2.2.2.1 n.2.2.2.2.1 n.2.2.2.2.2.1 n.2.2.2.2.2.2.1 n.2.2.2.2.2.2.2.1 n.2.2.2.2.2.2.2.2.1 n.2.2.2.2.2.2.2.2.2.1 n.2.2.2.2.2.2.2.2.2.2.1 n.2.2.2.2.2.2.2.2.2.2.2.1 n.2.2.2.2.2.2.2.2.2.2.2.2 hsz hnx out hs (xs (i + 1)) (xs (i + 2)) (xs (i + 3)) (if xs (i + 4) = 0 then 0 else 1) o ho) (vx_cwSW 6 hts gL_law_L_roll rfl rfl rfl (by decide +kernel) ⟨Nat.le_of_ble_eq_true rfl, Nat.le_of_ble_eq_true rfl⟩) hP hD hS (kSubTl (pre := lawP cI a am ao hadH hadL n t sg len hsz hnx lk out mref msize macts mspot mout mtext mnow mtrial mdiary mkept misk mside mwas) (prec := [((a 0), .inr (6, [.ref (a 1), .ref (a 3), .ref (a 11), .ref (a 19), .ref (a 21)])), ((a 3), .inr (5, [.ref (a 4), .ref (a 7), .ref (a 10), .int n.1, .int n.2.1, .int n.2.2.1])), ((a 4), .inr (2, [.ref (a 5), .ref (a 6), .int n.2.2.2.1, .int n.2.2.2.2.1, .int n.2.2.2.2.2.1])), ((a 5), .inl (cI 0, 10, .inl n.2.2.2.2.2.2.1)), ((a 6), .inl (cI 0, 10, .inl n.2.2.2.2.2.2.2.1)), ((a 7), .inr (3, [.ref (a 8), .ref (a 9), .int n.2.2.2.2.2.2.2.2.1, .int n.2.2.2.2.2.2.2.2.2.1])), ((a 8), .inl (cI 0, 21, .inl n.2.2.2.2.2.2.2.2.2.2.1)), ((a 9), .inl (cI 0, 11, .inl n.2.2.2.2.2.2.2.2.2.2.2.1)), ((a 10), .inl (cI 0, 3, .inl n.2.2.2.2.2.2.2.2.2.2.2.2)), ((a 19), .inr (1, [.ref (a 20), .int hsz, .int hnx])), ((a 20), .inl (cI 2, 14, .inr (.inr (.inr (.inr (rowF 14 hadH)))))), (ao, .inl (cI 3, 1, .inr (.inl out)))]) (prec' := [((a 0), .inr (6, [.ref (a 1), .ref (a 3), .ref (a 11), .ref (a 19), .ref (a 21)])), ((a 3), .inr (5, [.ref (a 4), .ref (a 7), .ref (a 10), .int o.2.1, .int o.2.2.1, .int o.2.2.2.1])), ((a 4), .inr (2, [.ref (a 5), .ref (a 6), .int o.2.2.2.2.1, .int o.2.2.2.2.2.1, .int o.2.2.2.2.2.2.1])), ((a 5), .inl (cI 0, 10, .inl o.2.2.2.2.2.2.2.1)), ((a 6), .inl (cI 0, 10, .inl o.2.2.2.2.2.2.2.2.1)), ((a 7), .inr (3, [.ref (a 8), .ref (a 9), .int o.2.2.2.2.2.2.2.2.2.1, .int o.2.2.2.2.2.2.2.2.2.2.1])), ((a 8), .inl (cI 0, 21, .inl o.2.2.2.2.2.2.2.2.2.2.2.1)), ((a 9), .inl (cI 0, 11, .inl o.2.2.2.2.2.2.2.2.2.2.2.2.1)), ((a 10), .inl (cI 0, 3, .inl n.2.2.2.2.2.2.2.2.2.2.2.2)), ((a 19), .inr (1, [.ref (a 20), .int o.2.2.2.2.2.2.2.2.2.2.2.2.2.1, .int o.2.2.2.2.2.2.2.2.2.2.2.2.2.2.1])), ((a 20), .inl (cI 2, 14, .inr (.inr (.inr (.inr (rowF 14 hadH)))))), (ao, .inl (cI 3, 1, .inr (.inl o.2.2.2.2.2.2.2.2.2.2.2.2.2.2.2.1)))]) (T := (famW cI 14 hadH hs)) (T' := (famW cI 14 hadH o.2.2.2.2.2.2.2.2.2.2.2.2.2.2.2.2)) (U := (famW cI 2 hadL gs)) [0, 3, 4, 5, 6, 7, 8, 9, 10, 19, 20, 33] (by decide) rfl rfl famW_fst) rfl hl.1 rfl (Nat.le_of_ble_eq_true rfl) hcs dL_law_621 (fun H locs hP hD hS => ?_)
  have hP : va_P D vwCl (lawP cI a am ao hadH hadL (o.2.1, o.2.2.1, o.2.2.2.1, o.2.2.2.2.1, o.2.2.2.2.2.1, o.2.2.2.2.2.2.1, o.2.2.2.2.2.2.2.1, o.2.2.2.2.2.2.2.2.1, o.2.2.2.2.2.2.2.2.2.1, o.2.2.2.2.2.2.2.2.2.2.1, o.2.2.2.2.2.2.2.2.2.2.2.1, o.2.2.2.2.2.2.2.2.2.2.2.2.1, n.2.2.2.2.2.2.2.2.2.2.2.2) t sg len o.2.2.2.2.2.2.2.2.2.2.2.2.2.1 o.2.2.2.2.2.2.2.2.2.2.2.2.2.2.1 lk o.2.2.2.2.2.2.2.2.2.2.2.2.2.2.2.1 mref msize macts mspot mout mtext mnow mtrial mdiary mkept misk mside mwas ++ (famW cI 14 hadH o.2.2.2.2.2.2.2.2.2.2.2.2.2.2.2.2 ++ famW cI 2 hadL gs)) H := hP
  have hD : va_D A (lawP cI a am ao hadH hadL (o.2.1, o.2.2.1, o.2.2.2.1, o.2.2.2.2.1, o.2.2.2.2.2.1, o.2.2.2.2.2.2.1, o.2.2.2.2.2.2.2.1, o.2.2.2.2.2.2.2.2.1, o.2.2.2.2.2.2.2.2.2.1, o.2.2.2.2.2.2.2.2.2.2.1, o.2.2.2.2.2.2.2.2.2.2.2.1, o.2.2.2.2.2.2.2.2.2.2.2.2.1, n.2.2.2.2.2.2.2.2.2.2.2.2) t sg len o.2.2.2.2.2.2.2.2.2.2.2.2.2.1 o.2.2.2.2.2.2.2.2.2.2.2.2.2.2.1 lk o.2.2.2.2.2.2.2.2.2.2.2.2.2.2.2.1 mref msize macts mspot mout mtext mnow mtrial mdiary mkept misk mside mwas ++ (famW cI 14 hadH o.2.2.2.2.2.2.2.2.2.2.2.2.2.2.2.2 ++ famW cI 2 hadL gs)) := hD
  refine lv_istore (lv' := [(5, .int o.1), (0, .ref b), (1, .ref (a 0)), (2, .ref (am 0)), (3, .ref ao), (4, .int (nI i))]) hx hb dL_law_624 hl (by decide) rfl (fun ls hl => ?_)
  refine lv_aload_n hx hb dL_law_626 rfl (lv_at hl 3 rfl) ?_
  refine lv_aload_n hx hb dL_law_627 rfl (lv_at hl 1 rfl) ?_
  refine lv_iload hx hb dL_law_628 (lv_at hl 5 rfl) ?_
  refine lv_iconst (v := 1) hx hb dL_law_630 (by decide) ?_
  refine lv_iadd hx hb dL_law_631 ?_
  refine k_sld (j := i + 1) hx hb hX hbl hbA hS (nI_add i 1) (by omega) (by omega) dL_law_632 ?_
  refine lv_aload_n hx hb dL_law_633 rfl (lv_at hl 1 rfl) ?_
  refine lv_iload hx hb dL_law_634 (lv_at hl 5 rfl) ?_
  refine lv_iconst (v := 2) hx hb dL_law_636 (by decide) ?_
  refine lv_iadd hx hb dL_law_637 ?_
  refine k_sld (j := i + 2) hx hb hX hbl hbA hS (nI_add i 2) (by omega) (by omega) dL_law_638 ?_
  refine lv_aload_n hx hb dL_law_639 rfl (lv_at hl 1 rfl) ?_
  refine lv_iload hx hb dL_law_640 (lv_at hl 5 rfl) ?_
  refine lv_iconst (v := 3) hx hb dL_law_642 (by decide) ?_
  refine lv_iadd hx hb dL_law_643 ?_
  refine k_sld (j := i + 3) hx hb hX hbl hbA hS (nI_add i 3) (by omega) (by omega) dL_law_644 ?_
  refine lv_aload_n hx hb dL_law_645 rfl (lv_at hl 1 rfl) ?_
  refine lv_iload hx hb dL_law_646 (lv_at hl 5 rfl) ?_
  refine lv_iconst (v := 4) hx hb dL_law_648 (by decide) ?_
  refine lv_iadd hx hb dL_law_649 ?_
  refine k_sld (j := i + 4) hx hb hX hbl hbA hS (nI_add i 4) (by omega) (by omega) dL_law_650 ?_
  have hj : W p l e room_1 s m args below meth c H locs (cells + 1) (slots + 6) Q (F0 m 659 ls [.int (if xs (i + 4) = 0 then 0 else 1), .int (xs (i + 3)), .int (xs (i + 2)), .int (xs (i + 1)), .ref (am 0)]) → W p l e room_1 s m args below meth c H locs (cells + 1) (slots + 6) Q (F0 m 651 ls [.int (xs (i + 4)), .int (xs (i + 3)), .int (xs (i + 2)), .int (xs (i + 1)), .ref (am 0)]) := fun K => by
    refine lv_if_eq (tgt := 658) hx hb dL_law_651 (by decide) (fun c9 => ?_) (fun c9 => ?_)
    · refine lv_iconst (v := 0) hx hb dL_law_658 (by decide) ?_
      rw [if_pos c9] at K
      exact K
    · refine lv_iconst (v := 1) hx hb dL_law_654 (by decide) ?_
      refine lv_goto (tgt := 659) hx hb dL_law_655 (by decide) ?_
      rw [if_neg c9] at K
      exact K
  refine hj ?_
  refine kd_Vi (av := [.int (xs (i + 1)), .int (xs (i + 2)), .int (xs (i + 3)), .int (if xs (i + 4) = 0 then 0 else 1)]) (rest := []) hF hK hG hA (mk_X8_roll l D cI (am 0) (am 1) (am 2) (am 3) (am 4) (am 5) (am 6) (am 7) (am 8) H.size mref msize macts mspot mout mnow mdiary mside mwas (xs (i + 1)) (xs (i + 2)) (xs (i + 3)) (if xs (i + 4) = 0 then 0 else 1) o' ho') (cwV 4 hts gL_law_X8_roll rfl rfl rfl (by decide +kernel) ⟨Nat.le_of_ble_eq_true rfl, Nat.le_of_ble_eq_true rfl⟩) hP hD hS (kSub0 [24, 26, 28, 31, 32] (by decide) rfl rfl) 0 rfl rfl rfl hl.1 rfl (Nat.le_of_ble_eq_true rfl) hc1 dL_law_659 (fun H locs hP hD hS => ?_)
  have hP : va_P D vwCl (lawP cI a am ao hadH hadL (o.2.1, o.2.2.1, o.2.2.2.1, o.2.2.2.2.1, o.2.2.2.2.2.1, o.2.2.2.2.2.2.1, o.2.2.2.2.2.2.2.1, o.2.2.2.2.2.2.2.2.1, o.2.2.2.2.2.2.2.2.2.1, o.2.2.2.2.2.2.2.2.2.2.1, o.2.2.2.2.2.2.2.2.2.2.2.1, o.2.2.2.2.2.2.2.2.2.2.2.2.1, n.2.2.2.2.2.2.2.2.2.2.2.2) t sg len o.2.2.2.2.2.2.2.2.2.2.2.2.2.1 o.2.2.2.2.2.2.2.2.2.2.2.2.2.2.1 lk o.2.2.2.2.2.2.2.2.2.2.2.2.2.2.2.1 o'.2.1 msize o'.2.2.1 mspot mout mtext o'.2.2.2.1 mtrial o'.2.2.2.2.1 mkept misk o'.2.2.2.2.2.1 o'.2.2.2.2.2.2 ++ (famW cI 14 hadH o.2.2.2.2.2.2.2.2.2.2.2.2.2.2.2.2 ++ famW cI 2 hadL gs)) H := hP
  have hD : va_D A (lawP cI a am ao hadH hadL (o.2.1, o.2.2.1, o.2.2.2.1, o.2.2.2.2.1, o.2.2.2.2.2.1, o.2.2.2.2.2.2.1, o.2.2.2.2.2.2.2.1, o.2.2.2.2.2.2.2.2.1, o.2.2.2.2.2.2.2.2.2.1, o.2.2.2.2.2.2.2.2.2.2.1, o.2.2.2.2.2.2.2.2.2.2.2.1, o.2.2.2.2.2.2.2.2.2.2.2.2.1, n.2.2.2.2.2.2.2.2.2.2.2.2) t sg len o.2.2.2.2.2.2.2.2.2.2.2.2.2.1 o.2.2.2.2.2.2.2.2.2.2.2.2.2.2.1 lk o.2.2.2.2.2.2.2.2.2.2.2.2.2.2.2.1 o'.2.1 msize o'.2.2.1 mspot mout mtext o'.2.2.2.1 mtrial o'.2.2.2.2.1 mkept misk o'.2.2.2.2.2.1 o'.2.2.2.2.2.2 ++ (famW cI 14 hadH o.2.2.2.2.2.2.2.2.2.2.2.2.2.2.2.2 ++ famW cI 2 hadL gs)) := hD
  refine lv_istore (lv' := [(6, .int o'.1), (5, .int o.1), (0, .ref b), (1, .ref (a 0)), (2, .ref (am 0)), (3, .ref ao), (4, .int (nI i))]) hx hb dL_law_662 hl (by decide) rfl (fun ls hl => ?_)
  refine lv_aload_n hx hb dL_law_664 rfl (lv_at hl 4 rfl) ?_
  refine kd_Vi (av := []) (rest := []) hF hK hG hA (mk_X8_thrown l D cI (am 0) (am 1) (am 2) (am 3) (am 4) (am 5) (am 6) (am 7) (am 8) H.size o'.2.1 msize o'.2.2.1 mspot mout _ rfl) (cwV 0 hts gL_law_X8_thrown rfl rfl rfl (by decide +kernel) ⟨Nat.le_of_ble_eq_true rfl, Nat.le_of_ble_eq_true rfl⟩) hP hD hS (kSub0 [24] (by decide) rfl rfl) 0 rfl rfl rfl hl.1 rfl (Nat.le_of_ble_eq_true rfl) hc1 dL_law_665 (fun H locs hP hD hS => ?_)
  have hP : va_P D vwCl (lawP cI a am ao hadH hadL (o.2.1, o.2.2.1, o.2.2.2.1, o.2.2.2.2.1, o.2.2.2.2.2.1, o.2.2.2.2.2.2.1, o.2.2.2.2.2.2.2.1, o.2.2.2.2.2.2.2.2.1, o.2.2.2.2.2.2.2.2.2.1, o.2.2.2.2.2.2.2.2.2.2.1, o.2.2.2.2.2.2.2.2.2.2.2.1, o.2.2.2.2.2.2.2.2.2.2.2.2.1, n.2.2.2.2.2.2.2.2.2.2.2.2) t sg len o.2.2.2.2.2.2.2.2.2.2.2.2.2.1 o.2.2.2.2.2.2.2.2.2.2.2.2.2.2.1 lk o.2.2.2.2.2.2.2.2.2.2.2.2.2.2.2.1 o'.2.1 msize o'.2.2.1 mspot mout mtext o'.2.2.2.1 mtrial o'.2.2.2.2.1 mkept misk o'.2.2.2.2.2.1 o'.2.2.2.2.2.2 ++ (famW cI 14 hadH o.2.2.2.2.2.2.2.2.2.2.2.2.2.2.2.2 ++ famW cI 2 hadL gs)) H := hP
  have hD : va_D A (lawP cI a am ao hadH hadL (o.2.1, o.2.2.1, o.2.2.2.1, o.2.2.2.2.1, o.2.2.2.2.2.1, o.2.2.2.2.2.2.1, o.2.2.2.2.2.2.2.1, o.2.2.2.2.2.2.2.2.1, o.2.2.2.2.2.2.2.2.2.1, o.2.2.2.2.2.2.2.2.2.2.1, o.2.2.2.2.2.2.2.2.2.2.2.1, o.2.2.2.2.2.2.2.2.2.2.2.2.1, n.2.2.2.2.2.2.2.2.2.2.2.2) t sg len o.2.2.2.2.2.2.2.2.2.2.2.2.2.1 o.2.2.2.2.2.2.2.2.2.2.2.2.2.2.1 lk o.2.2.2.2.2.2.2.2.2.2.2.2.2.2.2.1 o'.2.1 msize o'.2.2.1 mspot mout mtext o'.2.2.2.1 mtrial o'.2.2.2.2.1 mkept misk o'.2.2.2.2.2.1 o'.2.2.2.2.2.2 ++ (famW cI 14 hadH o.2.2.2.2.2.2.2.2.2.2.2.2.2.2.2.2 ++ famW cI 2 hadL gs)) := hD
  refine lv_iload hx hb dL_law_668 (lv_at hl 1 rfl) ?_
  refine lv_icmp_eq (tgt := 675) hx hb dL_law_670 (by decide) (fun _ => ?_) (fun c9 => absurd e1 c9)
  refine lv_iload hx hb dL_law_675 (lv_at hl 1 rfl) ?_
  have tl : W p l e room_1 s m args below meth c H locs (cells + 1) (slots + 6) Q (F0 m 692 ls []) := by
    refine lv_goto (tgt := 1417) hx hb dL_law_692 (by decide) ?_
    exact kk _ _ _ hP hD hS (lv_sub hl [2, 3, 4, 5, 6] rfl)
  refine lv_if_ne (tgt := 692) hx hb dL_law_677 (by decide) (fun _ => tl) (fun c9 => ?_)
  refine lv_aload_n hx hb dL_law_680 rfl (lv_at hl 5 rfl) ?_
  refine lv_iconst (v := 0) hx hb dL_law_681 (by decide) ?_
  refine k_lald (j := 0) hx hb hK.1 hP 33 3 rfl rfl (by decide) (by decide) dL_law_682 ?_
  refine lv_iload hx hb dL_law_683 (lv_at hl 0 rfl) ?_
  refine lv_i2l (v := (o'.1).toInt64) hx hb dL_law_685 rfl ?_
  refine W.lcmp hx hb dL_law_686 ?_
  exact lv_if_eq (tgt := 692) hx hb dL_law_687 (by decide) (fun _ => tl) (fun c8 => absurd ((lg_cmp_eq _ _).mpr (e2 c9)) c8)
set_option maxHeartbeats 4000000 in
set_option maxRecDepth 100000 in
theorem cs_touch {p : Program} {l : Launch} {e : Env} {s : State} {m : MethodId} {args : Array Value} {below : List Frame} {meth : Method} {c : Code} {cells slots : Nat} {Q : State → Prop} {D : va_G} {cI : Nat → ClassId} {A : Nat → Prop} {b L i : Nat} {xs : Nat → Int32} {a am : Nat → Nat} {ao : Nat} {hadH hadL : Nat → Nat → Nat} {n t : kSt} {hs gs : Nat → kSt} {len hsz hnx mref msize macts mspot mout : Int32} {sg lk mtext mnow mtrial mdiary mkept misk mside mwas : kF} {out : Nat → Int64}
    (C0 : LC p l s m args c D cI A b L xs) (hcs : cells + 1 ≤ 601024 ∧ slots + 6 ≤ 7293034) (hi : i + 5 ≤ L) {o : (Int32 × kF × Int32 × Int32 × (Nat → Int64) × (Nat → kSt))} (ho : fn_L_touch n.1 n.2.1 n.2.2.1 n.2.2.2.1 n.2.2.2.2.2.2.1 n.2.2.2.2.2.2.2.1 n.2.2.2.2.2.2.2.2.1 n.2.2.2.2.2.2.2.2.2.1 n.2.2.2.2.2.2.2.2.2.2.1 n.2.2.2.2.2.2.2.2.2.2.2.1 n.2.2.2.2.2.2.2.2.2.2.2.2 hsz hnx out hs (xs (i + 1)) (xs (i + 2)) = some o) {o' : (Int32 × Int32 × Int32 × kF × kF)} (ho' : fn_X8_touch mref macts mnow mdiary (xs (i + 1)) (xs (i + 2)) = some o') (e1 : o'.2.1 = o.1) (e2 : o.1 = 0 → (o.2.2.2.2.1 0) = (o'.1).toInt64)
    {H : Heap} {locs : List Loc} {ls : Array Slot} (hP : va_P D vwCl (lawP cI a am ao hadH hadL n t sg len hsz hnx lk out mref msize macts mspot mout mtext mnow mtrial mdiary mkept misk mside mwas ++ (famW cI 14 hadH hs ++ famW cI 2 hadL gs)) H) (hD : va_D A (lawP cI a am ao hadH hadL n t sg len hsz hnx lk out mref msize macts mspot mout mtext mnow mtrial mdiary mkept misk mside mwas ++ (famW cI 14 hadH hs ++ famW cI 2 hadL gs))) (hS : va_S A s.heap H locs) (hl : lv_has ls 7 (lawL a am ao b i))
    (kk : ∀ (H : Heap) (locs : List Loc) (ls : Array Slot), va_P D vwCl (lawP cI a am ao hadH hadL (n.1, n.2.1, n.2.2.1, n.2.2.2.1, n.2.2.2.2.1, n.2.2.2.2.2.1, o.2.1, n.2.2.2.2.2.2.2.1, n.2.2.2.2.2.2.2.2.1, n.2.2.2.2.2.2.2.2.2.1, n.2.2.2.2.2.2.2.2.2.2.1, n.2.2.2.2.2.2.2.2.2.2.2.1, n.2.2.2.2.2.2.2.2.2.2.2.2) t sg len o.2.2.1 o.2.2.2.1 lk o.2.2.2.2.1 o'.2.1 msize o'.2.2.1 mspot mout mtext o'.2.2.2.1 mtrial o'.2.2.2.2 mkept misk mside mwas ++ (famW cI 14 hadH o.2.2.2.2.2 ++ famW cI 2 hadL gs)) H → va_D A (lawP cI a am ao hadH hadL (n.1, n.2.1, n.2.2.1, n.2.2.2.1, n.2.2.2.2.1, n.2.2.2.2.2.1, o.2.1, n.2.2.2.2.2.2.2.1, n.2.2.2.2.2.2.2.2.1, n.2.2.2.2.2.2.2.2.2.1, n.2.2.2.2.2.2.2.2.2.2.1, n.2.2.2.2.2.2.2.2.2.2.2.1, n.2.2.2.2.2.2.2.2.2.2.2.2) t sg len o.2.2.1 o.2.2.2.1 lk o.2.2.2.2.1 o'.2.1 msize o'.2.2.1 mspot mout mtext o'.2.2.2.1 mtrial o'.2.2.2.2 mkept misk mside mwas ++ (famW cI 14 hadH o.2.2.2.2.2 ++ famW cI 2 hadL gs)) → va_S A s.heap H locs → lv_has ls 7 (lawL a am ao b i) → W p l e room_1 s m args below meth c H locs (cells + 1) (slots + 6) Q (F0 m 1417 ls [])) :
    W p l e room_1 s m args below meth c H locs cells slots Q (F0 m 695 ls []) := by
  obtain ⟨hF, hK, hG, hA, hX, hbl, hbA, hst, hL⟩ := C0
  obtain ⟨hx, hb, hml, hown, hts⟩ := id hF
  have hc0 : cells ≤ room_1.cells ∧ slots ≤ room_1.slots := ⟨by show cells ≤ 601024; omega, by show slots ≤ 7293034; omega⟩
  have hc1 : cells + 1 ≤ room_1.cells ∧ slots + 6 ≤ room_1.slots := hcs
  refine lv_aload_n hx hb dL_law_695 rfl (lv_at hl 1 rfl) ?_
  refine lv_aload_n hx hb dL_law_696 rfl (lv_at hl 0 rfl) ?_
  refine lv_iload hx hb dL_law_697 (lv_at hl 4 rfl) ?_
  refine lv_iconst (v := 1) hx hb dL_law_699 (by decide) ?_
  refine lv_iadd hx hb dL_law_700 ?_
  refine k_sld (j := i + 1) hx hb hX hbl hbA hS (nI_add i 1) (by omega) (by omega) dL_law_701 ?_
  refine lv_aload_n hx hb dL_law_702 rfl (lv_at hl 0 rfl) ?_
  refine lv_iload hx hb dL_law_703 (lv_at hl 4 rfl) ?_
  refine lv_iconst (v := 2) hx hb dL_law_705 (by decide) ?_
  refine lv_iadd hx hb dL_law_706 ?_
  refine k_sld (j := i + 2) hx hb hX hbl hbA hS (nI_add i 2) (by omega) (by omega) dL_law_707 ?_
  refine lv_aload_n hx hb dL_law_708 rfl (lv_at hl 3 rfl) ?_
  refine kw_Si (av := [.ref (a 0), .int (xs (i + 1)), .int (xs (i + 2)), .ref ao]) (rest := []) hF hK hG hA (mk_L_touch l hst D cI (a 0) (a 1) (a 3) (a 11) (a 19) (a 21) (a 4) (a 7) (a 10) (a 5) (a 6) (a 8) (a 9) (a 20) ao hadH H.size n.1 n.2.1 n.2.2.1 n.2.2.2.1 n.2.2.2.2.1 n.2.2.2.2.2.1 n.2.2.2.2.2.2.1 n.2.2.2.2.2.2.2.1 n.2.2.2.2.2.2.2.2.1 n.2.2.2.2.2.2.2.2.2.1 n.2.2.2.2.2.2.2.2.2.2.1 n.2.2.2.2.2.2.2.2.2.2.2.1 n.2.2.2.2.2.2.2.2.2.2.2.2 hsz hnx out hs (xs (i + 1)) (xs (i + 2)) o ho) (vx_cwSW 4 hts gL_law_L_touch rfl rfl rfl (by decide +kernel) ⟨Nat.le_of_ble_eq_true rfl, Nat.le_of_ble_eq_true rfl⟩) hP hD hS (kSubTl (pre := lawP cI a am ao hadH hadL n t sg len hsz hnx lk out mref msize macts mspot mout mtext mnow mtrial mdiary mkept misk mside mwas) (prec := [((a 0), .inr (6, [.ref (a 1), .ref (a 3), .ref (a 11), .ref (a 19), .ref (a 21)])), ((a 3), .inr (5, [.ref (a 4), .ref (a 7), .ref (a 10), .int n.1, .int n.2.1, .int n.2.2.1])), ((a 4), .inr (2, [.ref (a 5), .ref (a 6), .int n.2.2.2.1, .int n.2.2.2.2.1, .int n.2.2.2.2.2.1])), ((a 5), .inl (cI 0, 10, .inl n.2.2.2.2.2.2.1)), ((a 6), .inl (cI 0, 10, .inl n.2.2.2.2.2.2.2.1)), ((a 7), .inr (3, [.ref (a 8), .ref (a 9), .int n.2.2.2.2.2.2.2.2.1, .int n.2.2.2.2.2.2.2.2.2.1])), ((a 8), .inl (cI 0, 21, .inl n.2.2.2.2.2.2.2.2.2.2.1)), ((a 9), .inl (cI 0, 11, .inl n.2.2.2.2.2.2.2.2.2.2.2.1)), ((a 10), .inl (cI 0, 3, .inl n.2.2.2.2.2.2.2.2.2.2.2.2)), ((a 19), .inr (1, [.ref (a 20), .int hsz, .int hnx])), ((a 20), .inl (cI 2, 14, .inr (.inr (.inr (.inr (rowF 14 hadH)))))), (ao, .inl (cI 3, 1, .inr (.inl out)))]) (prec' := [((a 0), .inr (6, [.ref (a 1), .ref (a 3), .ref (a 11), .ref (a 19), .ref (a 21)])), ((a 3), .inr (5, [.ref (a 4), .ref (a 7), .ref (a 10), .int n.1, .int n.2.1, .int n.2.2.1])), ((a 4), .inr (2, [.ref (a 5), .ref (a 6), .int n.2.2.2.1, .int n.2.2.2.2.1, .int n.2.2.2.2.2.1])), ((a 5), .inl (cI 0, 10, .inl o.2.1)), ((a 6), .inl (cI 0, 10, .inl n.2.2.2.2.2.2.2.1)), ((a 7), .inr (3, [.ref (a 8), .ref (a 9), .int n.2.2.2.2.2.2.2.2.1, .int n.2.2.2.2.2.2.2.2.2.1])), ((a 8), .inl (cI 0, 21, .inl n.2.2.2.2.2.2.2.2.2.2.1)), ((a 9), .inl (cI 0, 11, .inl n.2.2.2.2.2.2.2.2.2.2.2.1)), ((a 10), .inl (cI 0, 3, .inl n.2.2.2.2.2.2.2.2.2.2.2.2)), ((a 19), .inr (1, [.ref (a 20), .int o.2.2.1, .int o.2.2.2.1])), ((a 20), .inl (cI 2, 14, .inr (.inr (.inr (.inr (rowF 14 hadH)))))), (ao, .inl (cI 3, 1, .inr (.inl o.2.2.2.2.1)))]) (T := (famW cI 14 hadH hs)) (T' := (famW cI 14 hadH o.2.2.2.2.2)) (U := (famW cI 2 hadL gs)) [0, 3, 4, 5, 6, 7, 8, 9, 10, 19, 20, 33] (by decide) rfl rfl famW_fst) rfl hl.1 rfl (Nat.le_of_ble_eq_true rfl) hcs dL_law_709 (fun H locs hP hD hS => ?_)
  have hP : va_P D vwCl (lawP cI a am ao hadH hadL (n.1, n.2.1, n.2.2.1, n.2.2.2.1, n.2.2.2.2.1, n.2.2.2.2.2.1, o.2.1, n.2.2.2.2.2.2.2.1, n.2.2.2.2.2.2.2.2.1, n.2.2.2.2.2.2.2.2.2.1, n.2.2.2.2.2.2.2.2.2.2.1, n.2.2.2.2.2.2.2.2.2.2.2.1, n.2.2.2.2.2.2.2.2.2.2.2.2) t sg len o.2.2.1 o.2.2.2.1 lk o.2.2.2.2.1 mref msize macts mspot mout mtext mnow mtrial mdiary mkept misk mside mwas ++ (famW cI 14 hadH o.2.2.2.2.2 ++ famW cI 2 hadL gs)) H := hP
  have hD : va_D A (lawP cI a am ao hadH hadL (n.1, n.2.1, n.2.2.1, n.2.2.2.1, n.2.2.2.2.1, n.2.2.2.2.2.1, o.2.1, n.2.2.2.2.2.2.2.1, n.2.2.2.2.2.2.2.2.1, n.2.2.2.2.2.2.2.2.2.1, n.2.2.2.2.2.2.2.2.2.2.1, n.2.2.2.2.2.2.2.2.2.2.2.1, n.2.2.2.2.2.2.2.2.2.2.2.2) t sg len o.2.2.1 o.2.2.2.1 lk o.2.2.2.2.1 mref msize macts mspot mout mtext mnow mtrial mdiary mkept misk mside mwas ++ (famW cI 14 hadH o.2.2.2.2.2 ++ famW cI 2 hadL gs)) := hD
  refine lv_istore (lv' := [(5, .int o.1), (0, .ref b), (1, .ref (a 0)), (2, .ref (am 0)), (3, .ref ao), (4, .int (nI i))]) hx hb dL_law_712 hl (by decide) rfl (fun ls hl => ?_)
  refine lv_aload_n hx hb dL_law_714 rfl (lv_at hl 3 rfl) ?_
  refine lv_aload_n hx hb dL_law_715 rfl (lv_at hl 1 rfl) ?_
  refine lv_iload hx hb dL_law_716 (lv_at hl 5 rfl) ?_
  refine lv_iconst (v := 1) hx hb dL_law_718 (by decide) ?_
  refine lv_iadd hx hb dL_law_719 ?_
  refine k_sld (j := i + 1) hx hb hX hbl hbA hS (nI_add i 1) (by omega) (by omega) dL_law_720 ?_
  refine lv_aload_n hx hb dL_law_721 rfl (lv_at hl 1 rfl) ?_
  refine lv_iload hx hb dL_law_722 (lv_at hl 5 rfl) ?_
  refine lv_iconst (v := 2) hx hb dL_law_724 (by decide) ?_
  refine lv_iadd hx hb dL_law_725 ?_
  refine k_sld (j := i + 2) hx hb hX hbl hbA hS (nI_add i 2) (by omega) (by omega) dL_law_726 ?_
  refine kd_Vi (av := [.int (xs (i + 1)), .int (xs (i + 2))]) (rest := []) hF hK hG hA (mk_X8_touch l D cI (am 0) (am 1) (am 2) (am 3) (am 4) (am 5) (am 6) (am 7) (am 8) H.size mref msize macts mspot mout mnow mdiary (xs (i + 1)) (xs (i + 2)) o' ho') (cwV 2 hts gL_law_X8_touch rfl rfl rfl (by decide +kernel) ⟨Nat.le_of_ble_eq_true rfl, Nat.le_of_ble_eq_true rfl⟩) hP hD hS (kSub0 [24, 26, 28] (by decide) rfl rfl) 0 rfl rfl rfl hl.1 rfl (Nat.le_of_ble_eq_true rfl) hc1 dL_law_727 (fun H locs hP hD hS => ?_)
  have hP : va_P D vwCl (lawP cI a am ao hadH hadL (n.1, n.2.1, n.2.2.1, n.2.2.2.1, n.2.2.2.2.1, n.2.2.2.2.2.1, o.2.1, n.2.2.2.2.2.2.2.1, n.2.2.2.2.2.2.2.2.1, n.2.2.2.2.2.2.2.2.2.1, n.2.2.2.2.2.2.2.2.2.2.1, n.2.2.2.2.2.2.2.2.2.2.2.1, n.2.2.2.2.2.2.2.2.2.2.2.2) t sg len o.2.2.1 o.2.2.2.1 lk o.2.2.2.2.1 o'.2.1 msize o'.2.2.1 mspot mout mtext o'.2.2.2.1 mtrial o'.2.2.2.2 mkept misk mside mwas ++ (famW cI 14 hadH o.2.2.2.2.2 ++ famW cI 2 hadL gs)) H := hP
  have hD : va_D A (lawP cI a am ao hadH hadL (n.1, n.2.1, n.2.2.1, n.2.2.2.1, n.2.2.2.2.1, n.2.2.2.2.2.1, o.2.1, n.2.2.2.2.2.2.2.1, n.2.2.2.2.2.2.2.2.1, n.2.2.2.2.2.2.2.2.2.1, n.2.2.2.2.2.2.2.2.2.2.1, n.2.2.2.2.2.2.2.2.2.2.2.1, n.2.2.2.2.2.2.2.2.2.2.2.2) t sg len o.2.2.1 o.2.2.2.1 lk o.2.2.2.2.1 o'.2.1 msize o'.2.2.1 mspot mout mtext o'.2.2.2.1 mtrial o'.2.2.2.2 mkept misk mside mwas ++ (famW cI 14 hadH o.2.2.2.2.2 ++ famW cI 2 hadL gs)) := hD
  refine lv_istore (lv' := [(6, .int o'.1), (5, .int o.1), (0, .ref b), (1, .ref (a 0)), (2, .ref (am 0)), (3, .ref ao), (4, .int (nI i))]) hx hb dL_law_730 hl (by decide) rfl (fun ls hl => ?_)
  refine lv_aload_n hx hb dL_law_732 rfl (lv_at hl 4 rfl) ?_
  refine kd_Vi (av := []) (rest := []) hF hK hG hA (mk_X8_thrown l D cI (am 0) (am 1) (am 2) (am 3) (am 4) (am 5) (am 6) (am 7) (am 8) H.size o'.2.1 msize o'.2.2.1 mspot mout _ rfl) (cwV 0 hts gL_law_X8_thrown rfl rfl rfl (by decide +kernel) ⟨Nat.le_of_ble_eq_true rfl, Nat.le_of_ble_eq_true rfl⟩) hP hD hS (kSub0 [24] (by decide) rfl rfl) 0 rfl rfl rfl hl.1 rfl (Nat.le_of_ble_eq_true rfl) hc1 dL_law_733 (fun H locs hP hD hS => ?_)
  have hP : va_P D vwCl (lawP cI a am ao hadH hadL (n.1, n.2.1, n.2.2.1, n.2.2.2.1, n.2.2.2.2.1, n.2.2.2.2.2.1, o.2.1, n.2.2.2.2.2.2.2.1, n.2.2.2.2.2.2.2.2.1, n.2.2.2.2.2.2.2.2.2.1, n.2.2.2.2.2.2.2.2.2.2.1, n.2.2.2.2.2.2.2.2.2.2.2.1, n.2.2.2.2.2.2.2.2.2.2.2.2) t sg len o.2.2.1 o.2.2.2.1 lk o.2.2.2.2.1 o'.2.1 msize o'.2.2.1 mspot mout mtext o'.2.2.2.1 mtrial o'.2.2.2.2 mkept misk mside mwas ++ (famW cI 14 hadH o.2.2.2.2.2 ++ famW cI 2 hadL gs)) H := hP
  have hD : va_D A (lawP cI a am ao hadH hadL (n.1, n.2.1, n.2.2.1, n.2.2.2.1, n.2.2.2.2.1, n.2.2.2.2.2.1, o.2.1, n.2.2.2.2.2.2.2.1, n.2.2.2.2.2.2.2.2.1, n.2.2.2.2.2.2.2.2.2.1, n.2.2.2.2.2.2.2.2.2.2.1, n.2.2.2.2.2.2.2.2.2.2.2.1, n.2.2.2.2.2.2.2.2.2.2.2.2) t sg len o.2.2.1 o.2.2.2.1 lk o.2.2.2.2.1 o'.2.1 msize o'.2.2.1 mspot mout mtext o'.2.2.2.1 mtrial o'.2.2.2.2 mkept misk mside mwas ++ (famW cI 14 hadH o.2.2.2.2.2 ++ famW cI 2 hadL gs)) := hD
  refine lv_iload hx hb dL_law_736 (lv_at hl 1 rfl) ?_
  refine lv_icmp_eq (tgt := 743) hx hb dL_law_738 (by decide) (fun _ => ?_) (fun c9 => absurd e1 c9)
  refine lv_iload hx hb dL_law_743 (lv_at hl 1 rfl) ?_
  have tl : W p l e room_1 s m args below meth c H locs (cells + 1) (slots + 6) Q (F0 m 760 ls []) := by
    refine lv_goto (tgt := 1417) hx hb dL_law_760 (by decide) ?_
    exact kk _ _ _ hP hD hS (lv_sub hl [2, 3, 4, 5, 6] rfl)
  refine lv_if_ne (tgt := 760) hx hb dL_law_745 (by decide) (fun _ => tl) (fun c9 => ?_)
  refine lv_aload_n hx hb dL_law_748 rfl (lv_at hl 5 rfl) ?_
  refine lv_iconst (v := 0) hx hb dL_law_749 (by decide) ?_
  refine k_lald (j := 0) hx hb hK.1 hP 33 3 rfl rfl (by decide) (by decide) dL_law_750 ?_
  refine lv_iload hx hb dL_law_751 (lv_at hl 0 rfl) ?_
  refine lv_i2l (v := (o'.1).toInt64) hx hb dL_law_753 rfl ?_
  refine W.lcmp hx hb dL_law_754 ?_
  exact lv_if_eq (tgt := 760) hx hb dL_law_755 (by decide) (fun _ => tl) (fun c8 => absurd ((lg_cmp_eq _ _).mpr (e2 c9)) c8)
