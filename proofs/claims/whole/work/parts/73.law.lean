/-! the law's cases, walked, 3 (written by wip/whole/gen/gen_law.py) -/
set_option maxHeartbeats 4000000 in
set_option maxRecDepth 100000 in
theorem cs_set {p : Program} {l : Launch} {e : Env} {s : State} {m : MethodId} {args : Array Value} {below : List Frame} {meth : Method} {c : Code} {cells slots : Nat} {Q : State → Prop} {D : va_G} {cI : Nat → ClassId} {A : Nat → Prop} {b L i : Nat} {xs : Nat → Int32} {a am : Nat → Nat} {ao : Nat} {hadH hadL : Nat → Nat → Nat} {n t : kSt} {hs gs : Nat → kSt} {len hsz hnx mref msize macts mspot mout : Int32} {sg lk mtext mnow mtrial mdiary mkept misk mside mwas : kF} {out : Nat → Int64}
    (C0 : LC p l s m args c D cI A b L xs) (hcs : cells + 1 ≤ 601024 ∧ slots + 6 ≤ 7293034) (hi : i + 5 ≤ L) {o : (Int32 × kF × Int32 × Int32 × (Nat → Int64) × (Nat → kSt))} (ho : fn_L_set n.1 n.2.1 n.2.2.1 n.2.2.2.1 n.2.2.2.2.2.2.1 n.2.2.2.2.2.2.2.1 n.2.2.2.2.2.2.2.2.1 n.2.2.2.2.2.2.2.2.2.1 n.2.2.2.2.2.2.2.2.2.2.1 n.2.2.2.2.2.2.2.2.2.2.2.1 n.2.2.2.2.2.2.2.2.2.2.2.2 hsz hnx out hs (xs (i + 1)) (xs (i + 2)) = some o) {o' : (Int32 × Int32 × Int32 × kF × kF)} (ho' : fn_X8_set mref macts mnow mdiary (xs (i + 1)) (xs (i + 2)) = some o') (e1 : o'.2.1 = o.1) (e2 : o.1 = 0 → (o.2.2.2.2.1 0) = (o'.1).toInt64)
    {H : Heap} {locs : List Loc} {ls : Array Slot} (hP : va_P D vwCl (lawP cI a am ao hadH hadL n t sg len hsz hnx lk out mref msize macts mspot mout mtext mnow mtrial mdiary mkept misk mside mwas ++ (famW cI 14 hadH hs ++ famW cI 2 hadL gs)) H) (hD : va_D A (lawP cI a am ao hadH hadL n t sg len hsz hnx lk out mref msize macts mspot mout mtext mnow mtrial mdiary mkept misk mside mwas ++ (famW cI 14 hadH hs ++ famW cI 2 hadL gs))) (hS : va_S A s.heap H locs) (hl : lv_has ls 7 (lawL a am ao b i))
    (kk : ∀ (H : Heap) (locs : List Loc) (ls : Array Slot), va_P D vwCl (lawP cI a am ao hadH hadL (n.1, n.2.1, n.2.2.1, n.2.2.2.1, n.2.2.2.2.1, n.2.2.2.2.2.1, n.2.2.2.2.2.2.1, n.2.2.2.2.2.2.2.1, n.2.2.2.2.2.2.2.2.1, n.2.2.2.2.2.2.2.2.2.1, n.2.2.2.2.2.2.2.2.2.2.1, n.2.2.2.2.2.2.2.2.2.2.2.1, o.2.1) t sg len o.2.2.1 o.2.2.2.1 lk o.2.2.2.2.1 o'.2.1 msize o'.2.2.1 mspot mout mtext o'.2.2.2.1 mtrial o'.2.2.2.2 mkept misk mside mwas ++ (famW cI 14 hadH o.2.2.2.2.2 ++ famW cI 2 hadL gs)) H → va_D A (lawP cI a am ao hadH hadL (n.1, n.2.1, n.2.2.1, n.2.2.2.1, n.2.2.2.2.1, n.2.2.2.2.2.1, n.2.2.2.2.2.2.1, n.2.2.2.2.2.2.2.1, n.2.2.2.2.2.2.2.2.1, n.2.2.2.2.2.2.2.2.2.1, n.2.2.2.2.2.2.2.2.2.2.1, n.2.2.2.2.2.2.2.2.2.2.2.1, o.2.1) t sg len o.2.2.1 o.2.2.2.1 lk o.2.2.2.2.1 o'.2.1 msize o'.2.2.1 mspot mout mtext o'.2.2.2.1 mtrial o'.2.2.2.2 mkept misk mside mwas ++ (famW cI 14 hadH o.2.2.2.2.2 ++ famW cI 2 hadL gs)) → va_S A s.heap H locs → lv_has ls 7 (lawL a am ao b i) → W p l e room_1 s m args below meth c H locs (cells + 1) (slots + 6) Q (F0 m 1417 ls [])) :
    W p l e room_1 s m args below meth c H locs cells slots Q (F0 m 763 ls []) := by
  obtain ⟨hF, hK, hG, hA, hX, hbl, hbA, hst, hL⟩ := C0
  obtain ⟨hx, hb, hml, hown, hts⟩ := id hF
  have hc0 : cells ≤ room_1.cells ∧ slots ≤ room_1.slots := ⟨by show cells ≤ 601024; omega, by show slots ≤ 7293034; omega⟩
  have hc1 : cells + 1 ≤ room_1.cells ∧ slots + 6 ≤ room_1.slots := hcs
  refine lv_aload_n hx hb dL_law_763 rfl (lv_at hl 1 rfl) ?_
  refine lv_aload_n hx hb dL_law_764 rfl (lv_at hl 0 rfl) ?_
  refine lv_iload hx hb dL_law_765 (lv_at hl 4 rfl) ?_
  refine lv_iconst (v := 1) hx hb dL_law_767 (by decide) ?_
  refine lv_iadd hx hb dL_law_768 ?_
  refine k_sld (j := i + 1) hx hb hX hbl hbA hS (nI_add i 1) (by omega) (by omega) dL_law_769 ?_
  refine lv_aload_n hx hb dL_law_770 rfl (lv_at hl 0 rfl) ?_
  refine lv_iload hx hb dL_law_771 (lv_at hl 4 rfl) ?_
  refine lv_iconst (v := 2) hx hb dL_law_773 (by decide) ?_
  refine lv_iadd hx hb dL_law_774 ?_
  refine k_sld (j := i + 2) hx hb hX hbl hbA hS (nI_add i 2) (by omega) (by omega) dL_law_775 ?_
  refine lv_aload_n hx hb dL_law_776 rfl (lv_at hl 3 rfl) ?_
  refine kw_Si (av := [.ref (a 0), .int (xs (i + 1)), .int (xs (i + 2)), .ref ao]) (rest := []) hF hK hG hA (mk_L_set l hst D cI (a 0) (a 1) (a 3) (a 11) (a 19) (a 21) (a 4) (a 7) (a 10) (a 5) (a 6) (a 8) (a 9) (a 20) ao hadH H.size n.1 n.2.1 n.2.2.1 n.2.2.2.1 n.2.2.2.2.1 n.2.2.2.2.2.1 n.2.2.2.2.2.2.1 n.2.2.2.2.2.2.2.1 n.2.2.2.2.2.2.2.2.1 n.2.2.2.2.2.2.2.2.2.1 n.2.2.2.2.2.2.2.2.2.2.1 n.2.2.2.2.2.2.2.2.2.2.2.1 n.2.2.2.2.2.2.2.2.2.2.2.2 hsz hnx out hs (xs (i + 1)) (xs (i + 2)) o ho) (vx_cwSW 4 hts gL_law_L_set rfl rfl rfl (by decide +kernel) ⟨Nat.le_of_ble_eq_true rfl, Nat.le_of_ble_eq_true rfl⟩) hP hD hS (kSubTl (pre := lawP cI a am ao hadH hadL n t sg len hsz hnx lk out mref msize macts mspot mout mtext mnow mtrial mdiary mkept misk mside mwas) (prec := [((a 0), .inr (6, [.ref (a 1), .ref (a 3), .ref (a 11), .ref (a 19), .ref (a 21)])), ((a 3), .inr (5, [.ref (a 4), .ref (a 7), .ref (a 10), .int n.1, .int n.2.1, .int n.2.2.1])), ((a 4), .inr (2, [.ref (a 5), .ref (a 6), .int n.2.2.2.1, .int n.2.2.2.2.1, .int n.2.2.2.2.2.1])), ((a 5), .inl (cI 0, 10, .inl n.2.2.2.2.2.2.1)), ((a 6), .inl (cI 0, 10, .inl n.2.2.2.2.2.2.2.1)), ((a 7), .inr (3, [.ref (a 8), .ref (a 9), .int n.2.2.2.2.2.2.2.2.1, .int n.2.2.2.2.2.2.2.2.2.1])), ((a 8), .inl (cI 0, 21, .inl n.2.2.2.2.2.2.2.2.2.2.1)), ((a 9), .inl (cI 0, 11, .inl n.2.2.2.2.2.2.2.2.2.2.2.1)), ((a 10), .inl (cI 0, 3, .inl n.2.2.2.2.2.2.2.2.2.2.2.2)), ((a 19), .inr (1, [.ref (a 20), .int hsz, .int hnx])), ((a 20), .inl (cI 2, 14, .inr (.inr (.inr (.inr (rowF 14 hadH)))))), (ao, .inl (cI 3, 1, .inr (.inl out)))]) (prec' := [((a 0), .inr (6, [.ref (a 1), .ref (a 3), .ref (a 11), .ref (a 19), .ref (a 21)])), ((a 3), .inr (5, [.ref (a 4), .ref (a 7), .ref (a 10), .int n.1, .int n.2.1, .int n.2.2.1])), ((a 4), .inr (2, [.ref (a 5), .ref (a 6), .int n.2.2.2.1, .int n.2.2.2.2.1, .int n.2.2.2.2.2.1])), ((a 5), .inl (cI 0, 10, .inl n.2.2.2.2.2.2.1)), ((a 6), .inl (cI 0, 10, .inl n.2.2.2.2.2.2.2.1)), ((a 7), .inr (3, [.ref (a 8), .ref (a 9), .int n.2.2.2.2.2.2.2.2.1, .int n.2.2.2.2.2.2.2.2.2.1])), ((a 8), .inl (cI 0, 21, .inl n.2.2.2.2.2.2.2.2.2.2.1)), ((a 9), .inl (cI 0, 11, .inl n.2.2.2.2.2.2.2.2.2.2.2.1)), ((a 10), .inl (cI 0, 3, .inl o.2.1)), ((a 19), .inr (1, [.ref (a 20), .int o.2.2.1, .int o.2.2.2.1])), ((a 20), .inl (cI 2, 14, .inr (.inr (.inr (.inr (rowF 14 hadH)))))), (ao, .inl (cI 3, 1, .inr (.inl o.2.2.2.2.1)))]) (T := (famW cI 14 hadH hs)) (T' := (famW cI 14 hadH o.2.2.2.2.2)) (U := (famW cI 2 hadL gs)) [0, 3, 4, 5, 6, 7, 8, 9, 10, 19, 20, 33] (by decide) rfl rfl famW_fst) rfl hl.1 rfl (Nat.le_of_ble_eq_true rfl) hcs dL_law_777 (fun H locs hP hD hS => ?_)
  have hP : va_P D vwCl (lawP cI a am ao hadH hadL (n.1, n.2.1, n.2.2.1, n.2.2.2.1, n.2.2.2.2.1, n.2.2.2.2.2.1, n.2.2.2.2.2.2.1, n.2.2.2.2.2.2.2.1, n.2.2.2.2.2.2.2.2.1, n.2.2.2.2.2.2.2.2.2.1, n.2.2.2.2.2.2.2.2.2.2.1, n.2.2.2.2.2.2.2.2.2.2.2.1, o.2.1) t sg len o.2.2.1 o.2.2.2.1 lk o.2.2.2.2.1 mref msize macts mspot mout mtext mnow mtrial mdiary mkept misk mside mwas ++ (famW cI 14 hadH o.2.2.2.2.2 ++ famW cI 2 hadL gs)) H := hP
  have hD : va_D A (lawP cI a am ao hadH hadL (n.1, n.2.1, n.2.2.1, n.2.2.2.1, n.2.2.2.2.1, n.2.2.2.2.2.1, n.2.2.2.2.2.2.1, n.2.2.2.2.2.2.2.1, n.2.2.2.2.2.2.2.2.1, n.2.2.2.2.2.2.2.2.2.1, n.2.2.2.2.2.2.2.2.2.2.1, n.2.2.2.2.2.2.2.2.2.2.2.1, o.2.1) t sg len o.2.2.1 o.2.2.2.1 lk o.2.2.2.2.1 mref msize macts mspot mout mtext mnow mtrial mdiary mkept misk mside mwas ++ (famW cI 14 hadH o.2.2.2.2.2 ++ famW cI 2 hadL gs)) := hD
  refine lv_istore (lv' := [(5, .int o.1), (0, .ref b), (1, .ref (a 0)), (2, .ref (am 0)), (3, .ref ao), (4, .int (nI i))]) hx hb dL_law_780 hl (by decide) rfl (fun ls hl => ?_)
  refine lv_aload_n hx hb dL_law_782 rfl (lv_at hl 3 rfl) ?_
  refine lv_aload_n hx hb dL_law_783 rfl (lv_at hl 1 rfl) ?_
  refine lv_iload hx hb dL_law_784 (lv_at hl 5 rfl) ?_
  refine lv_iconst (v := 1) hx hb dL_law_786 (by decide) ?_
  refine lv_iadd hx hb dL_law_787 ?_
  refine k_sld (j := i + 1) hx hb hX hbl hbA hS (nI_add i 1) (by omega) (by omega) dL_law_788 ?_
  refine lv_aload_n hx hb dL_law_789 rfl (lv_at hl 1 rfl) ?_
  refine lv_iload hx hb dL_law_790 (lv_at hl 5 rfl) ?_
  refine lv_iconst (v := 2) hx hb dL_law_792 (by decide) ?_
  refine lv_iadd hx hb dL_law_793 ?_
  refine k_sld (j := i + 2) hx hb hX hbl hbA hS (nI_add i 2) (by omega) (by omega) dL_law_794 ?_
  refine kd_Vi (av := [.int (xs (i + 1)), .int (xs (i + 2))]) (rest := []) hF hK hG hA (mk_X8_set l D cI (am 0) (am 1) (am 2) (am 3) (am 4) (am 5) (am 6) (am 7) (am 8) H.size mref msize macts mspot mout mnow mdiary (xs (i + 1)) (xs (i + 2)) o' ho') (cwV 2 hts gL_law_X8_set rfl rfl rfl (by decide +kernel) ⟨Nat.le_of_ble_eq_true rfl, Nat.le_of_ble_eq_true rfl⟩) hP hD hS (kSub0 [24, 26, 28] (by decide) rfl rfl) 0 rfl rfl rfl hl.1 rfl (Nat.le_of_ble_eq_true rfl) hc1 dL_law_795 (fun H locs hP hD hS => ?_)
  have hP : va_P D vwCl (lawP cI a am ao hadH hadL (n.1, n.2.1, n.2.2.1, n.2.2.2.1, n.2.2.2.2.1, n.2.2.2.2.2.1, n.2.2.2.2.2.2.1, n.2.2.2.2.2.2.2.1, n.2.2.2.2.2.2.2.2.1, n.2.2.2.2.2.2.2.2.2.1, n.2.2.2.2.2.2.2.2.2.2.1, n.2.2.2.2.2.2.2.2.2.2.2.1, o.2.1) t sg len o.2.2.1 o.2.2.2.1 lk o.2.2.2.2.1 o'.2.1 msize o'.2.2.1 mspot mout mtext o'.2.2.2.1 mtrial o'.2.2.2.2 mkept misk mside mwas ++ (famW cI 14 hadH o.2.2.2.2.2 ++ famW cI 2 hadL gs)) H := hP
  have hD : va_D A (lawP cI a am ao hadH hadL (n.1, n.2.1, n.2.2.1, n.2.2.2.1, n.2.2.2.2.1, n.2.2.2.2.2.1, n.2.2.2.2.2.2.1, n.2.2.2.2.2.2.2.1, n.2.2.2.2.2.2.2.2.1, n.2.2.2.2.2.2.2.2.2.1, n.2.2.2.2.2.2.2.2.2.2.1, n.2.2.2.2.2.2.2.2.2.2.2.1, o.2.1) t sg len o.2.2.1 o.2.2.2.1 lk o.2.2.2.2.1 o'.2.1 msize o'.2.2.1 mspot mout mtext o'.2.2.2.1 mtrial o'.2.2.2.2 mkept misk mside mwas ++ (famW cI 14 hadH o.2.2.2.2.2 ++ famW cI 2 hadL gs)) := hD
  refine lv_istore (lv' := [(6, .int o'.1), (5, .int o.1), (0, .ref b), (1, .ref (a 0)), (2, .ref (am 0)), (3, .ref ao), (4, .int (nI i))]) hx hb dL_law_798 hl (by decide) rfl (fun ls hl => ?_)
  refine lv_aload_n hx hb dL_law_800 rfl (lv_at hl 4 rfl) ?_
  refine kd_Vi (av := []) (rest := []) hF hK hG hA (mk_X8_thrown l D cI (am 0) (am 1) (am 2) (am 3) (am 4) (am 5) (am 6) (am 7) (am 8) H.size o'.2.1 msize o'.2.2.1 mspot mout _ rfl) (cwV 0 hts gL_law_X8_thrown rfl rfl rfl (by decide +kernel) ⟨Nat.le_of_ble_eq_true rfl, Nat.le_of_ble_eq_true rfl⟩) hP hD hS (kSub0 [24] (by decide) rfl rfl) 0 rfl rfl rfl hl.1 rfl (Nat.le_of_ble_eq_true rfl) hc1 dL_law_801 (fun H locs hP hD hS => ?_)
  have hP : va_P D vwCl (lawP cI a am ao hadH hadL (n.1, n.2.1, n.2.2.1, n.2.2.2.1, n.2.2.2.2.1, n.2.2.2.2.2.1, n.2.2.2.2.2.2.1, n.2.2.2.2.2.2.2.1, n.2.2.2.2.2.2.2.2.1, n.2.2.2.2.2.2.2.2.2.1, n.2.2.2.2.2.2.2.2.2.2.1, n.2.2.2.2.2.2.2.2.2.2.2.1, o.2.1) t sg len o.2.2.1 o.2.2.2.1 lk o.2.2.2.2.1 o'.2.1 msize o'.2.2.1 mspot mout mtext o'.2.2.2.1 mtrial o'.2.2.2.2 mkept misk mside mwas ++ (famW cI 14 hadH o.2.2.2.2.2 ++ famW cI 2 hadL gs)) H := hP
  have hD : va_D A (lawP cI a am ao hadH hadL (n.1, n.2.1, n.2.2.1, n.2.2.2.1, n.2.2.2.2.1, n.2.2.2.2.2.1, n.2.2.2.2.2.2.1, n.2.2.2.2.2.2.2.1, n.2.2.2.2.2.2.2.2.1, n.2.2.2.2.2.2.2.2.2.1, n.2.2.2.2.2.2.2.2.2.2.1, n.2.2.2.2.2.2.2.2.2.2.2.1, o.2.1) t sg len o.2.2.1 o.2.2.2.1 lk o.2.2.2.2.1 o'.2.1 msize o'.2.2.1 mspot mout mtext o'.2.2.2.1 mtrial o'.2.2.2.2 mkept misk mside mwas ++ (famW cI 14 hadH o.2.2.2.2.2 ++ famW cI 2 hadL gs)) := hD
  refine lv_iload hx hb dL_law_804 (lv_at hl 1 rfl) ?_
  refine lv_icmp_eq (tgt := 811) hx hb dL_law_806 (by decide) (fun _ => ?_) (fun c9 => absurd e1 c9)
  refine lv_iload hx hb dL_law_811 (lv_at hl 1 rfl) ?_
  have tl : W p l e room_1 s m args below meth c H locs (cells + 1) (slots + 6) Q (F0 m 828 ls []) := by
    refine lv_goto (tgt := 1417) hx hb dL_law_828 (by decide) ?_
    exact kk _ _ _ hP hD hS (lv_sub hl [2, 3, 4, 5, 6] rfl)
  refine lv_if_ne (tgt := 828) hx hb dL_law_813 (by decide) (fun _ => tl) (fun c9 => ?_)
  refine lv_aload_n hx hb dL_law_816 rfl (lv_at hl 5 rfl) ?_
  refine lv_iconst (v := 0) hx hb dL_law_817 (by decide) ?_
  refine k_lald (j := 0) hx hb hK.1 hP 33 3 rfl rfl (by decide) (by decide) dL_law_818 ?_
  refine lv_iload hx hb dL_law_819 (lv_at hl 0 rfl) ?_
  refine lv_i2l (v := (o'.1).toInt64) hx hb dL_law_821 rfl ?_
  refine W.lcmp hx hb dL_law_822 ?_
  exact lv_if_eq (tgt := 828) hx hb dL_law_823 (by decide) (fun _ => tl) (fun c8 => absurd ((lg_cmp_eq _ _).mpr (e2 c9)) c8)
set_option maxHeartbeats 4000000 in
set_option maxRecDepth 100000 in
theorem cs_undo {p : Program} {l : Launch} {e : Env} {s : State} {m : MethodId} {args : Array Value} {below : List Frame} {meth : Method} {c : Code} {cells slots : Nat} {Q : State → Prop} {D : va_G} {cI : Nat → ClassId} {A : Nat → Prop} {b L i : Nat} {xs : Nat → Int32} {a am : Nat → Nat} {ao : Nat} {hadH hadL : Nat → Nat → Nat} {n t : kSt} {hs gs : Nat → kSt} {len hsz hnx mref msize macts mspot mout : Int32} {sg lk mtext mnow mtrial mdiary mkept misk mside mwas : kF} {out : Nat → Int64}
    (C0 : LC p l s m args c D cI A b L xs) (hcs : cells + 1 ≤ 601024 ∧ slots + 6 ≤ 7293034) (hi : i + 5 ≤ L) {o : (Int32 × Int32 × Int32 × Int32 × Int32 × kF × kF × Int32 × Int32 × kF × kF × kF × Int32 × Int32 × (Nat → Int64))} (ho : fn_L_undo n.1 n.2.1 n.2.2.1 n.2.2.2.1 n.2.2.2.2.2.2.1 n.2.2.2.2.2.2.2.1 n.2.2.2.2.2.2.2.2.1 n.2.2.2.2.2.2.2.2.2.1 n.2.2.2.2.2.2.2.2.2.2.1 n.2.2.2.2.2.2.2.2.2.2.2.1 n.2.2.2.2.2.2.2.2.2.2.2.2 hsz hnx out hs = some o) {o' : (Int32 × Int32 × Int32 × kF)} (ho' : fn_X8_undo mref macts mnow mdiary = some o') (e1 : o'.2.1 = o.1) (e2 : o.1 = 0 → (o.2.2.2.2.2.2.2.2.2.2.2.2.2.2 0) = (o'.1).toInt64)
    {H : Heap} {locs : List Loc} {ls : Array Slot} (hP : va_P D vwCl (lawP cI a am ao hadH hadL n t sg len hsz hnx lk out mref msize macts mspot mout mtext mnow mtrial mdiary mkept misk mside mwas ++ (famW cI 14 hadH hs ++ famW cI 2 hadL gs)) H) (hD : va_D A (lawP cI a am ao hadH hadL n t sg len hsz hnx lk out mref msize macts mspot mout mtext mnow mtrial mdiary mkept misk mside mwas ++ (famW cI 14 hadH hs ++ famW cI 2 hadL gs))) (hS : va_S A s.heap H locs) (hl : lv_has ls 7 (lawL a am ao b i))
    (kk : ∀ (H : Heap) (locs : List Loc) (ls : Array Slot), va_P D vwCl (lawP cI a am ao hadH hadL (o.2.1, o.2.2.1, o.2.2.2.1, o.2.2.2.2.1, n.2.2.2.2.1, n.2.2.2.2.2.1, o.2.2.2.2.2.1, o.2.2.2.2.2.2.1, o.2.2.2.2.2.2.2.1, o.2.2.2.2.2.2.2.2.1, o.2.2.2.2.2.2.2.2.2.1, o.2.2.2.2.2.2.2.2.2.2.1, o.2.2.2.2.2.2.2.2.2.2.2.1) t sg len o.2.2.2.2.2.2.2.2.2.2.2.2.1 o.2.2.2.2.2.2.2.2.2.2.2.2.2.1 lk o.2.2.2.2.2.2.2.2.2.2.2.2.2.2 o'.2.1 msize o'.2.2.1 mspot mout mtext o'.2.2.2 mtrial mdiary mkept misk mside mwas ++ (famW cI 14 hadH hs ++ famW cI 2 hadL gs)) H → va_D A (lawP cI a am ao hadH hadL (o.2.1, o.2.2.1, o.2.2.2.1, o.2.2.2.2.1, n.2.2.2.2.1, n.2.2.2.2.2.1, o.2.2.2.2.2.1, o.2.2.2.2.2.2.1, o.2.2.2.2.2.2.2.1, o.2.2.2.2.2.2.2.2.1, o.2.2.2.2.2.2.2.2.2.1, o.2.2.2.2.2.2.2.2.2.2.1, o.2.2.2.2.2.2.2.2.2.2.2.1) t sg len o.2.2.2.2.2.2.2.2.2.2.2.2.1 o.2.2.2.2.2.2.2.2.2.2.2.2.2.1 lk o.2.2.2.2.2.2.2.2.2.2.2.2.2.2 o'.2.1 msize o'.2.2.1 mspot mout mtext o'.2.2.2 mtrial mdiary mkept misk mside mwas ++ (famW cI 14 hadH hs ++ famW cI 2 hadL gs)) → va_S A s.heap H locs → lv_has ls 7 (lawL a am ao b i) → W p l e room_1 s m args below meth c H locs (cells + 1) (slots + 6) Q (F0 m 1417 ls [])) :
    W p l e room_1 s m args below meth c H locs cells slots Q (F0 m 831 ls []) := by
  obtain ⟨hF, hK, hG, hA, hX, hbl, hbA, hst, hL⟩ := C0
  obtain ⟨hx, hb, hml, hown, hts⟩ := id hF
  have hc0 : cells ≤ room_1.cells ∧ slots ≤ room_1.slots := ⟨by show cells ≤ 601024; omega, by show slots ≤ 7293034; omega⟩
  have hc1 : cells + 1 ≤ room_1.cells ∧ slots + 6 ≤ room_1.slots := hcs
  refine lv_aload_n hx hb dL_law_831 rfl (lv_at hl 1 rfl) ?_
  refine lv_aload_n hx hb dL_law_832 rfl (lv_at hl 3 rfl) ?_
  refine kw_Si (av := [.ref (a 0), .ref ao]) (rest := []) hF hK hG hA (mk_L_undo l hst D cI (a 0) (a 1) (a 3) (a 11) (a 19) (a 21) (a 4) (a 7) (a 10) (a 5) (a 6) (a 8) (a 9) (a 20) ao hadH H.size n.1 n.2.1 n.2.2.1 n.2.2.2.1 n.2.2.2.2.1 n.2.2.2.2.2.1 n.2.2.2.2.2.2.1 n.2.2.2.2.2.2.2.1 n.2.2.2.2.2.2.2.2.1 n.2.2.2.2.2.2.2.2.2.1 n.2.2.2.2.2.2.2.2.2.2.1 n.2.2.2.2.2.2.2.2.2.2.2.1 n.2.2.2.2.2.2.2.2.2.2.2.2 hsz hnx out hs o ho) (vx_cwSW 2 hts gL_law_L_undo rfl rfl rfl (by decide +kernel) ⟨Nat.le_of_ble_eq_true rfl, Nat.le_of_ble_eq_true rfl⟩) hP hD hS (kSubTl (pre := lawP cI a am ao hadH hadL n t sg len hsz hnx lk out mref msize macts mspot mout mtext mnow mtrial mdiary mkept misk mside mwas) (prec := [((a 0), .inr (6, [.ref (a 1), .ref (a 3), .ref (a 11), .ref (a 19), .ref (a 21)])), ((a 3), .inr (5, [.ref (a 4), .ref (a 7), .ref (a 10), .int n.1, .int n.2.1, .int n.2.2.1])), ((a 4), .inr (2, [.ref (a 5), .ref (a 6), .int n.2.2.2.1, .int n.2.2.2.2.1, .int n.2.2.2.2.2.1])), ((a 5), .inl (cI 0, 10, .inl n.2.2.2.2.2.2.1)), ((a 6), .inl (cI 0, 10, .inl n.2.2.2.2.2.2.2.1)), ((a 7), .inr (3, [.ref (a 8), .ref (a 9), .int n.2.2.2.2.2.2.2.2.1, .int n.2.2.2.2.2.2.2.2.2.1])), ((a 8), .inl (cI 0, 21, .inl n.2.2.2.2.2.2.2.2.2.2.1)), ((a 9), .inl (cI 0, 11, .inl n.2.2.2.2.2.2.2.2.2.2.2.1)), ((a 10), .inl (cI 0, 3, .inl n.2.2.2.2.2.2.2.2.2.2.2.2)), ((a 19), .inr (1, [.ref (a 20), .int hsz, .int hnx])), ((a 20), .inl (cI 2, 14, .inr (.inr (.inr (.inr (rowF 14 hadH)))))), (ao, .inl (cI 3, 1, .inr (.inl out)))]) (prec' := [((a 0), .inr (6, [.ref (a 1), .ref (a 3), .ref (a 11), .ref (a 19), .ref (a 21)])), ((a 3), .inr (5, [.ref (a 4), .ref (a 7), .ref (a 10), .int o.2.1, .int o.2.2.1, .int o.2.2.2.1])), ((a 4), .inr (2, [.ref (a 5), .ref (a 6), .int o.2.2.2.2.1, .int n.2.2.2.2.1, .int n.2.2.2.2.2.1])), ((a 5), .inl (cI 0, 10, .inl o.2.2.2.2.2.1)), ((a 6), .inl (cI 0, 10, .inl o.2.2.2.2.2.2.1)), ((a 7), .inr (3, [.ref (a 8), .ref (a 9), .int o.2.2.2.2.2.2.2.1, .int o.2.2.2.2.2.2.2.2.1])), ((a 8), .inl (cI 0, 21, .inl o.2.2.2.2.2.2.2.2.2.1)), ((a 9), .inl (cI 0, 11, .inl o.2.2.2.2.2.2.2.2.2.2.1)), ((a 10), .inl (cI 0, 3, .inl o.2.2.2.2.2.2.2.2.2.2.2.1)), ((a 19), .inr (1, [.ref (a 20), .int o.2.2.2.2.2.2.2.2.2.2.2.2.1, .int o.2.2.2.2.2.2.2.2.2.2.2.2.2.1])), ((a 20), .inl (cI 2, 14, .inr (.inr (.inr (.inr (rowF 14 hadH)))))), (ao, .inl (cI 3, 1, .inr (.inl o.2.2.2.2.2.2.2.2.2.2.2.2.2.2)))]) (T := (famW cI 14 hadH hs)) (T' := (famW cI 14 hadH hs)) (U := (famW cI 2 hadL gs)) [0, 3, 4, 5, 6, 7, 8, 9, 10, 19, 20, 33] (by decide) rfl rfl famW_fst) rfl hl.1 rfl (Nat.le_of_ble_eq_true rfl) hcs dL_law_833 (fun H locs hP hD hS => ?_)
  have hP : va_P D vwCl (lawP cI a am ao hadH hadL (o.2.1, o.2.2.1, o.2.2.2.1, o.2.2.2.2.1, n.2.2.2.2.1, n.2.2.2.2.2.1, o.2.2.2.2.2.1, o.2.2.2.2.2.2.1, o.2.2.2.2.2.2.2.1, o.2.2.2.2.2.2.2.2.1, o.2.2.2.2.2.2.2.2.2.1, o.2.2.2.2.2.2.2.2.2.2.1, o.2.2.2.2.2.2.2.2.2.2.2.1) t sg len o.2.2.2.2.2.2.2.2.2.2.2.2.1 o.2.2.2.2.2.2.2.2.2.2.2.2.2.1 lk o.2.2.2.2.2.2.2.2.2.2.2.2.2.2 mref msize macts mspot mout mtext mnow mtrial mdiary mkept misk mside mwas ++ (famW cI 14 hadH hs ++ famW cI 2 hadL gs)) H := hP
  have hD : va_D A (lawP cI a am ao hadH hadL (o.2.1, o.2.2.1, o.2.2.2.1, o.2.2.2.2.1, n.2.2.2.2.1, n.2.2.2.2.2.1, o.2.2.2.2.2.1, o.2.2.2.2.2.2.1, o.2.2.2.2.2.2.2.1, o.2.2.2.2.2.2.2.2.1, o.2.2.2.2.2.2.2.2.2.1, o.2.2.2.2.2.2.2.2.2.2.1, o.2.2.2.2.2.2.2.2.2.2.2.1) t sg len o.2.2.2.2.2.2.2.2.2.2.2.2.1 o.2.2.2.2.2.2.2.2.2.2.2.2.2.1 lk o.2.2.2.2.2.2.2.2.2.2.2.2.2.2 mref msize macts mspot mout mtext mnow mtrial mdiary mkept misk mside mwas ++ (famW cI 14 hadH hs ++ famW cI 2 hadL gs)) := hD
  refine lv_istore (lv' := [(5, .int o.1), (0, .ref b), (1, .ref (a 0)), (2, .ref (am 0)), (3, .ref ao), (4, .int (nI i))]) hx hb dL_law_836 hl (by decide) rfl (fun ls hl => ?_)
  refine lv_aload_n hx hb dL_law_838 rfl (lv_at hl 3 rfl) ?_
  refine kd_Vi (av := []) (rest := []) hF hK hG hA (mk_X8_undo l D cI (am 0) (am 1) (am 2) (am 3) (am 4) (am 5) (am 6) (am 7) (am 8) H.size mref msize macts mspot mout mnow mdiary o' ho') (cwV 0 hts gL_law_X8_undo rfl rfl rfl (by decide +kernel) ⟨Nat.le_of_ble_eq_true rfl, Nat.le_of_ble_eq_true rfl⟩) hP hD hS (kSub0 [24, 26, 28] (by decide) rfl rfl) 0 rfl rfl rfl hl.1 rfl (Nat.le_of_ble_eq_true rfl) hc1 dL_law_839 (fun H locs hP hD hS => ?_)
  have hP : va_P D vwCl (lawP cI a am ao hadH hadL (o.2.1, o.2.2.1, o.2.2.2.1, o.2.2.2.2.1, n.2.2.2.2.1, n.2.2.2.2.2.1, o.2.2.2.2.2.1, o.2.2.2.2.2.2.1, o.2.2.2.2.2.2.2.1, o.2.2.2.2.2.2.2.2.1, o.2.2.2.2.2.2.2.2.2.1, o.2.2.2.2.2.2.2.2.2.2.1, o.2.2.2.2.2.2.2.2.2.2.2.1) t sg len o.2.2.2.2.2.2.2.2.2.2.2.2.1 o.2.2.2.2.2.2.2.2.2.2.2.2.2.1 lk o.2.2.2.2.2.2.2.2.2.2.2.2.2.2 o'.2.1 msize o'.2.2.1 mspot mout mtext o'.2.2.2 mtrial mdiary mkept misk mside mwas ++ (famW cI 14 hadH hs ++ famW cI 2 hadL gs)) H := hP
  have hD : va_D A (lawP cI a am ao hadH hadL (o.2.1, o.2.2.1, o.2.2.2.1, o.2.2.2.2.1, n.2.2.2.2.1, n.2.2.2.2.2.1, o.2.2.2.2.2.1, o.2.2.2.2.2.2.1, o.2.2.2.2.2.2.2.1, o.2.2.2.2.2.2.2.2.1, o.2.2.2.2.2.2.2.2.2.1, o.2.2.2.2.2.2.2.2.2.2.1, o.2.2.2.2.2.2.2.2.2.2.2.1) t sg len o.2.2.2.2.2.2.2.2.2.2.2.2.1 o.2.2.2.2.2.2.2.2.2.2.2.2.2.1 lk o.2.2.2.2.2.2.2.2.2.2.2.2.2.2 o'.2.1 msize o'.2.2.1 mspot mout mtext o'.2.2.2 mtrial mdiary mkept misk mside mwas ++ (famW cI 14 hadH hs ++ famW cI 2 hadL gs)) := hD
  refine lv_istore (lv' := [(6, .int o'.1), (5, .int o.1), (0, .ref b), (1, .ref (a 0)), (2, .ref (am 0)), (3, .ref ao), (4, .int (nI i))]) hx hb dL_law_842 hl (by decide) rfl (fun ls hl => ?_)
  refine lv_aload_n hx hb dL_law_844 rfl (lv_at hl 4 rfl) ?_
  refine kd_Vi (av := []) (rest := []) hF hK hG hA (mk_X8_thrown l D cI (am 0) (am 1) (am 2) (am 3) (am 4) (am 5) (am 6) (am 7) (am 8) H.size o'.2.1 msize o'.2.2.1 mspot mout _ rfl) (cwV 0 hts gL_law_X8_thrown rfl rfl rfl (by decide +kernel) ⟨Nat.le_of_ble_eq_true rfl, Nat.le_of_ble_eq_true rfl⟩) hP hD hS (kSub0 [24] (by decide) rfl rfl) 0 rfl rfl rfl hl.1 rfl (Nat.le_of_ble_eq_true rfl) hc1 dL_law_845 (fun H locs hP hD hS => ?_)
  have hP : va_P D vwCl (lawP cI a am ao hadH hadL (o.2.1, o.2.2.1, o.2.2.2.1, o.2.2.2.2.1, n.2.2.2.2.1, n.2.2.2.2.2.1, o.2.2.2.2.2.1, o.2.2.2.2.2.2.1, o.2.2.2.2.2.2.2.1, o.2.2.2.2.2.2.2.2.1, o.2.2.2.2.2.2.2.2.2.1, o.2.2.2.2.2.2.2.2.2.2.1, o.2.2.2.2.2.2.2.2.2.2.2.1) t sg len o.2.2.2.2.2.2.2.2.2.2.2.2.1 o.2.2.2.2.2.2.2.2.2.2.2.2.2.1 lk o.2.2.2.2.2.2.2.2.2.2.2.2.2.2 o'.2.1 msize o'.2.2.1 mspot mout mtext o'.2.2.2 mtrial mdiary mkept misk mside mwas ++ (famW cI 14 hadH hs ++ famW cI 2 hadL gs)) H := hP
  have hD : va_D A (lawP cI a am ao hadH hadL (o.2.1, o.2.2.1, o.2.2.2.1, o.2.2.2.2.1, n.2.2.2.2.1, n.2.2.2.2.2.1, o.2.2.2.2.2.1, o.2.2.2.2.2.2.1, o.2.2.2.2.2.2.2.1, o.2.2.2.2.2.2.2.2.1, o.2.2.2.2.2.2.2.2.2.1, o.2.2.2.2.2.2.2.2.2.2.1, o.2.2.2.2.2.2.2.2.2.2.2.1) t sg len o.2.2.2.2.2.2.2.2.2.2.2.2.1 o.2.2.2.2.2.2.2.2.2.2.2.2.2.1 lk o.2.2.2.2.2.2.2.2.2.2.2.2.2.2 o'.2.1 msize o'.2.2.1 mspot mout mtext o'.2.2.2 mtrial mdiary mkept misk mside mwas ++ (famW cI 14 hadH hs ++ famW cI 2 hadL gs)) := hD
  refine lv_iload hx hb dL_law_848 (lv_at hl 1 rfl) ?_
  refine lv_icmp_eq (tgt := 855) hx hb dL_law_850 (by decide) (fun _ => ?_) (fun c9 => absurd e1 c9)
  refine lv_iload hx hb dL_law_855 (lv_at hl 1 rfl) ?_
  have tl : W p l e room_1 s m args below meth c H locs (cells + 1) (slots + 6) Q (F0 m 872 ls []) := by
    refine lv_goto (tgt := 1417) hx hb dL_law_872 (by decide) ?_
    exact kk _ _ _ hP hD hS (lv_sub hl [2, 3, 4, 5, 6] rfl)
  refine lv_if_ne (tgt := 872) hx hb dL_law_857 (by decide) (fun _ => tl) (fun c9 => ?_)
  refine lv_aload_n hx hb dL_law_860 rfl (lv_at hl 5 rfl) ?_
  refine lv_iconst (v := 0) hx hb dL_law_861 (by decide) ?_
  refine k_lald (j := 0) hx hb hK.1 hP 33 3 rfl rfl (by decide) (by decide) dL_law_862 ?_
  refine lv_iload hx hb dL_law_863 (lv_at hl 0 rfl) ?_
  refine lv_i2l (v := (o'.1).toInt64) hx hb dL_law_865 rfl ?_
  refine W.lcmp hx hb dL_law_866 ?_
  exact lv_if_eq (tgt := 872) hx hb dL_law_867 (by decide) (fun _ => tl) (fun c8 => absurd ((lg_cmp_eq _ _).mpr (e2 c9)) c8)
set_option maxHeartbeats 4000000 in
set_option maxRecDepth 100000 in
theorem cs_would {p : Program} {l : Launch} {e : Env} {s : State} {m : MethodId} {args : Array Value} {below : List Frame} {meth : Method} {c : Code} {cells slots : Nat} {Q : State → Prop} {D : va_G} {cI : Nat → ClassId} {A : Nat → Prop} {b L i : Nat} {xs : Nat → Int32} {a am : Nat → Nat} {ao : Nat} {hadH hadL : Nat → Nat → Nat} {n t : kSt} {hs gs : Nat → kSt} {len hsz hnx mref msize macts mspot mout : Int32} {sg lk mtext mnow mtrial mdiary mkept misk mside mwas : kF} {out : Nat → Int64}
    (C0 : LC p l s m args c D cI A b L xs) (hcs : cells + 1 ≤ 601024 ∧ slots + 6 ≤ 7293034) (hi : i + 5 ≤ L) {o : (Int32 × Int32 × Int32 × Int32 × kF × kF × (Nat → Int64))} (ho : fn_L_would n.2.2.2.1 n.2.2.2.2.2.2.1 n.2.2.2.2.2.2.2.1 n.2.2.2.2.2.2.2.2.2.2.2.2 t.2.2.2.1 t.2.2.2.2.1 t.2.2.2.2.2.1 t.2.2.2.2.2.2.1 t.2.2.2.2.2.2.2.1 out (xs (i + 1)) (xs (i + 2)) (xs (i + 3)) = some o) {o' : (Int32 × Int32 × kF × kF)} (ho' : fn_X8_would mref mnow mtrial mside (xs (i + 1)) (xs (i + 2)) (xs (i + 3)) = some o') (e1 : o'.2.1 = o.1) (e2 : o.1 = 0 → (o.2.2.2.2.2.2 0) = (o'.1).toInt64)
    {H : Heap} {locs : List Loc} {ls : Array Slot} (hP : va_P D vwCl (lawP cI a am ao hadH hadL n t sg len hsz hnx lk out mref msize macts mspot mout mtext mnow mtrial mdiary mkept misk mside mwas ++ (famW cI 14 hadH hs ++ famW cI 2 hadL gs)) H) (hD : va_D A (lawP cI a am ao hadH hadL n t sg len hsz hnx lk out mref msize macts mspot mout mtext mnow mtrial mdiary mkept misk mside mwas ++ (famW cI 14 hadH hs ++ famW cI 2 hadL gs))) (hS : va_S A s.heap H locs) (hl : lv_has ls 7 (lawL a am ao b i))
    (kk : ∀ (H : Heap) (locs : List Loc) (ls : Array Slot), va_P D vwCl (lawP cI a am ao hadH hadL n (t.1, t.2.1, t.2.2.1, o.2.1, o.2.2.1, o.2.2.2.1, o.2.2.2.2.1, o.2.2.2.2.2.1, t.2.2.2.2.2.2.2.2.1, t.2.2.2.2.2.2.2.2.2.1, t.2.2.2.2.2.2.2.2.2.2.1, t.2.2.2.2.2.2.2.2.2.2.2.1, t.2.2.2.2.2.2.2.2.2.2.2.2) sg len hsz hnx lk o.2.2.2.2.2.2 o'.2.1 msize macts mspot mout mtext mnow o'.2.2.1 mdiary mkept misk o'.2.2.2 mwas ++ (famW cI 14 hadH hs ++ famW cI 2 hadL gs)) H → va_D A (lawP cI a am ao hadH hadL n (t.1, t.2.1, t.2.2.1, o.2.1, o.2.2.1, o.2.2.2.1, o.2.2.2.2.1, o.2.2.2.2.2.1, t.2.2.2.2.2.2.2.2.1, t.2.2.2.2.2.2.2.2.2.1, t.2.2.2.2.2.2.2.2.2.2.1, t.2.2.2.2.2.2.2.2.2.2.2.1, t.2.2.2.2.2.2.2.2.2.2.2.2) sg len hsz hnx lk o.2.2.2.2.2.2 o'.2.1 msize macts mspot mout mtext mnow o'.2.2.1 mdiary mkept misk o'.2.2.2 mwas ++ (famW cI 14 hadH hs ++ famW cI 2 hadL gs)) → va_S A s.heap H locs → lv_has ls 7 (lawL a am ao b i) → W p l e room_1 s m args below meth c H locs (cells + 1) (slots + 6) Q (F0 m 1417 ls [])) :
    W p l e room_1 s m args below meth c H locs cells slots Q (F0 m 875 ls []) := by
  obtain ⟨hF, hK, hG, hA, hX, hbl, hbA, hst, hL⟩ := C0
  obtain ⟨hx, hb, hml, hown, hts⟩ := id hF
  have hc0 : cells ≤ room_1.cells ∧ slots ≤ room_1.slots := ⟨by show cells ≤ 601024; omega, by show slots ≤ 7293034; omega⟩
  have hc1 : cells + 1 ≤ room_1.cells ∧ slots + 6 ≤ room_1.slots := hcs
  refine lv_aload_n hx hb dL_law_875 rfl (lv_at hl 1 rfl) ?_
  refine lv_aload_n hx hb dL_law_876 rfl (lv_at hl 0 rfl) ?_
  refine lv_iload hx hb dL_law_877 (lv_at hl 4 rfl) ?_
  refine lv_iconst (v := 1) hx hb dL_law_879 (by decide) ?_
  refine lv_iadd hx hb dL_law_880 ?_
  refine k_sld (j := i + 1) hx hb hX hbl hbA hS (nI_add i 1) (by omega) (by omega) dL_law_881 ?_
  refine lv_aload_n hx hb dL_law_882 rfl (lv_at hl 0 rfl) ?_
  refine lv_iload hx hb dL_law_883 (lv_at hl 4 rfl) ?_
  refine lv_iconst (v := 2) hx hb dL_law_885 (by decide) ?_
  refine lv_iadd hx hb dL_law_886 ?_
  refine k_sld (j := i + 2) hx hb hX hbl hbA hS (nI_add i 2) (by omega) (by omega) dL_law_887 ?_
  refine lv_aload_n hx hb dL_law_888 rfl (lv_at hl 0 rfl) ?_
  refine lv_iload hx hb dL_law_889 (lv_at hl 4 rfl) ?_
  refine lv_iconst (v := 3) hx hb dL_law_891 (by decide) ?_
  refine lv_iadd hx hb dL_law_892 ?_
  refine k_sld (j := i + 3) hx hb hX hbl hbA hS (nI_add i 3) (by omega) (by omega) dL_law_893 ?_
  refine lv_aload_n hx hb dL_law_894 rfl (lv_at hl 3 rfl) ?_
  refine kw_Si (av := [.ref (a 0), .int (xs (i + 1)), .int (xs (i + 2)), .int (xs (i + 3)), .ref ao]) (rest := []) hF hK hG hA (mk_L_would l hst D cI (a 0) (a 1) (a 3) (a 11) (a 19) (a 21) (a 4) (a 7) (a 10) (a 5) (a 6) (a 12) (a 15) (a 18) (a 13) (a 14) ao H.size n.1 n.2.1 n.2.2.1 n.2.2.2.1 n.2.2.2.2.1 n.2.2.2.2.2.1 n.2.2.2.2.2.2.1 n.2.2.2.2.2.2.2.1 n.2.2.2.2.2.2.2.2.2.2.2.2 t.1 t.2.1 t.2.2.1 t.2.2.2.1 t.2.2.2.2.1 t.2.2.2.2.2.1 t.2.2.2.2.2.2.1 t.2.2.2.2.2.2.2.1 out (xs (i + 1)) (xs (i + 2)) (xs (i + 3)) o ho) (vx_cwSW 5 hts gL_law_L_would rfl rfl rfl (by decide +kernel) ⟨Nat.le_of_ble_eq_true rfl, Nat.le_of_ble_eq_true rfl⟩) hP hD hS (kSub0 [0, 3, 4, 5, 6, 10, 11, 12, 13, 14, 33] (by decide) rfl rfl) rfl hl.1 rfl (Nat.le_of_ble_eq_true rfl) hcs dL_law_895 (fun H locs hP hD hS => ?_)
  have hP : va_P D vwCl (lawP cI a am ao hadH hadL n (t.1, t.2.1, t.2.2.1, o.2.1, o.2.2.1, o.2.2.2.1, o.2.2.2.2.1, o.2.2.2.2.2.1, t.2.2.2.2.2.2.2.2.1, t.2.2.2.2.2.2.2.2.2.1, t.2.2.2.2.2.2.2.2.2.2.1, t.2.2.2.2.2.2.2.2.2.2.2.1, t.2.2.2.2.2.2.2.2.2.2.2.2) sg len hsz hnx lk o.2.2.2.2.2.2 mref msize macts mspot mout mtext mnow mtrial mdiary mkept misk mside mwas ++ (famW cI 14 hadH hs ++ famW cI 2 hadL gs)) H := hP
  have hD : va_D A (lawP cI a am ao hadH hadL n (t.1, t.2.1, t.2.2.1, o.2.1, o.2.2.1, o.2.2.2.1, o.2.2.2.2.1, o.2.2.2.2.2.1, t.2.2.2.2.2.2.2.2.1, t.2.2.2.2.2.2.2.2.2.1, t.2.2.2.2.2.2.2.2.2.2.1, t.2.2.2.2.2.2.2.2.2.2.2.1, t.2.2.2.2.2.2.2.2.2.2.2.2) sg len hsz hnx lk o.2.2.2.2.2.2 mref msize macts mspot mout mtext mnow mtrial mdiary mkept misk mside mwas ++ (famW cI 14 hadH hs ++ famW cI 2 hadL gs)) := hD
  refine lv_istore (lv' := [(5, .int o.1), (0, .ref b), (1, .ref (a 0)), (2, .ref (am 0)), (3, .ref ao), (4, .int (nI i))]) hx hb dL_law_898 hl (by decide) rfl (fun ls hl => ?_)
  refine lv_aload_n hx hb dL_law_900 rfl (lv_at hl 3 rfl) ?_
  refine lv_aload_n hx hb dL_law_901 rfl (lv_at hl 1 rfl) ?_
  refine lv_iload hx hb dL_law_902 (lv_at hl 5 rfl) ?_
  refine lv_iconst (v := 1) hx hb dL_law_904 (by decide) ?_
  refine lv_iadd hx hb dL_law_905 ?_
  refine k_sld (j := i + 1) hx hb hX hbl hbA hS (nI_add i 1) (by omega) (by omega) dL_law_906 ?_
  refine lv_aload_n hx hb dL_law_907 rfl (lv_at hl 1 rfl) ?_
  refine lv_iload hx hb dL_law_908 (lv_at hl 5 rfl) ?_
  refine lv_iconst (v := 2) hx hb dL_law_910 (by decide) ?_
  refine lv_iadd hx hb dL_law_911 ?_
  refine k_sld (j := i + 2) hx hb hX hbl hbA hS (nI_add i 2) (by omega) (by omega) dL_law_912 ?_
  refine lv_aload_n hx hb dL_law_913 rfl (lv_at hl 1 rfl) ?_
  refine lv_iload hx hb dL_law_914 (lv_at hl 5 rfl) ?_
  refine lv_iconst (v := 3) hx hb dL_law_916 (by decide) ?_
  refine lv_iadd hx hb dL_law_917 ?_
  refine k_sld (j := i + 3) hx hb hX hbl hbA hS (nI_add i 3) (by omega) (by omega) dL_law_918 ?_
  refine kd_Vi (av := [.int (xs (i + 1)), .int (xs (i + 2)), .int (xs (i + 3))]) (rest := []) hF hK hG hA (mk_X8_would l D cI (am 0) (am 1) (am 2) (am 3) (am 4) (am 5) (am 6) (am 7) (am 8) H.size mref msize macts mspot mout mnow mtrial mside (xs (i + 1)) (xs (i + 2)) (xs (i + 3)) o' ho') (cwV 3 hts gL_law_X8_would rfl rfl rfl (by decide +kernel) ⟨Nat.le_of_ble_eq_true rfl, Nat.le_of_ble_eq_true rfl⟩) hP hD hS (kSub0 [24, 26, 27, 31] (by decide) rfl rfl) 0 rfl rfl rfl hl.1 rfl (Nat.le_of_ble_eq_true rfl) hc1 dL_law_919 (fun H locs hP hD hS => ?_)
  have hP : va_P D vwCl (lawP cI a am ao hadH hadL n (t.1, t.2.1, t.2.2.1, o.2.1, o.2.2.1, o.2.2.2.1, o.2.2.2.2.1, o.2.2.2.2.2.1, t.2.2.2.2.2.2.2.2.1, t.2.2.2.2.2.2.2.2.2.1, t.2.2.2.2.2.2.2.2.2.2.1, t.2.2.2.2.2.2.2.2.2.2.2.1, t.2.2.2.2.2.2.2.2.2.2.2.2) sg len hsz hnx lk o.2.2.2.2.2.2 o'.2.1 msize macts mspot mout mtext mnow o'.2.2.1 mdiary mkept misk o'.2.2.2 mwas ++ (famW cI 14 hadH hs ++ famW cI 2 hadL gs)) H := hP
  have hD : va_D A (lawP cI a am ao hadH hadL n (t.1, t.2.1, t.2.2.1, o.2.1, o.2.2.1, o.2.2.2.1, o.2.2.2.2.1, o.2.2.2.2.2.1, t.2.2.2.2.2.2.2.2.1, t.2.2.2.2.2.2.2.2.2.1, t.2.2.2.2.2.2.2.2.2.2.1, t.2.2.2.2.2.2.2.2.2.2.2.1, t.2.2.2.2.2.2.2.2.2.2.2.2) sg len hsz hnx lk o.2.2.2.2.2.2 o'.2.1 msize macts mspot mout mtext mnow o'.2.2.1 mdiary mkept misk o'.2.2.2 mwas ++ (famW cI 14 hadH hs ++ famW cI 2 hadL gs)) := hD
  refine lv_istore (lv' := [(6, .int o'.1), (5, .int o.1), (0, .ref b), (1, .ref (a 0)), (2, .ref (am 0)), (3, .ref ao), (4, .int (nI i))]) hx hb dL_law_922 hl (by decide) rfl (fun ls hl => ?_)
  refine lv_aload_n hx hb dL_law_924 rfl (lv_at hl 4 rfl) ?_
  refine kd_Vi (av := []) (rest := []) hF hK hG hA (mk_X8_thrown l D cI (am 0) (am 1) (am 2) (am 3) (am 4) (am 5) (am 6) (am 7) (am 8) H.size o'.2.1 msize macts mspot mout _ rfl) (cwV 0 hts gL_law_X8_thrown rfl rfl rfl (by decide +kernel) ⟨Nat.le_of_ble_eq_true rfl, Nat.le_of_ble_eq_true rfl⟩) hP hD hS (kSub0 [24] (by decide) rfl rfl) 0 rfl rfl rfl hl.1 rfl (Nat.le_of_ble_eq_true rfl) hc1 dL_law_925 (fun H locs hP hD hS => ?_)
  have hP : va_P D vwCl (lawP cI a am ao hadH hadL n (t.1, t.2.1, t.2.2.1, o.2.1, o.2.2.1, o.2.2.2.1, o.2.2.2.2.1, o.2.2.2.2.2.1, t.2.2.2.2.2.2.2.2.1, t.2.2.2.2.2.2.2.2.2.1, t.2.2.2.2.2.2.2.2.2.2.1, t.2.2.2.2.2.2.2.2.2.2.2.1, t.2.2.2.2.2.2.2.2.2.2.2.2) sg len hsz hnx lk o.2.2.2.2.2.2 o'.2.1 msize macts mspot mout mtext mnow o'.2.2.1 mdiary mkept misk o'.2.2.2 mwas ++ (famW cI 14 hadH hs ++ famW cI 2 hadL gs)) H := hP
  have hD : va_D A (lawP cI a am ao hadH hadL n (t.1, t.2.1, t.2.2.1, o.2.1, o.2.2.1, o.2.2.2.1, o.2.2.2.2.1, o.2.2.2.2.2.1, t.2.2.2.2.2.2.2.2.1, t.2.2.2.2.2.2.2.2.2.1, t.2.2.2.2.2.2.2.2.2.2.1, t.2.2.2.2.2.2.2.2.2.2.2.1, t.2.2.2.2.2.2.2.2.2.2.2.2) sg len hsz hnx lk o.2.2.2.2.2.2 o'.2.1 msize macts mspot mout mtext mnow o'.2.2.1 mdiary mkept misk o'.2.2.2 mwas ++ (famW cI 14 hadH hs ++ famW cI 2 hadL gs)) := hD
  refine lv_iload hx hb dL_law_928 (lv_at hl 1 rfl) ?_
  refine lv_icmp_eq (tgt := 935) hx hb dL_law_930 (by decide) (fun _ => ?_) (fun c9 => absurd e1 c9)
  refine lv_iload hx hb dL_law_935 (lv_at hl 1 rfl) ?_
  have tl : W p l e room_1 s m args below meth c H locs (cells + 1) (slots + 6) Q (F0 m 952 ls []) := by
    refine lv_goto (tgt := 1417) hx hb dL_law_952 (by decide) ?_
    exact kk _ _ _ hP hD hS (lv_sub hl [2, 3, 4, 5, 6] rfl)
  refine lv_if_ne (tgt := 952) hx hb dL_law_937 (by decide) (fun _ => tl) (fun c9 => ?_)
  refine lv_aload_n hx hb dL_law_940 rfl (lv_at hl 5 rfl) ?_
  refine lv_iconst (v := 0) hx hb dL_law_941 (by decide) ?_
  refine k_lald (j := 0) hx hb hK.1 hP 33 3 rfl rfl (by decide) (by decide) dL_law_942 ?_
  refine lv_iload hx hb dL_law_943 (lv_at hl 0 rfl) ?_
  refine lv_i2l (v := (o'.1).toInt64) hx hb dL_law_945 rfl ?_
  refine W.lcmp hx hb dL_law_946 ?_
  exact lv_if_eq (tgt := 952) hx hb dL_law_947 (by decide) (fun _ => tl) (fun c8 => absurd ((lg_cmp_eq _ _).mpr (e2 c9)) c8)
set_option maxHeartbeats 4000000 in
set_option maxRecDepth 100000 in
theorem cs_bestBoard {p : Program} {l : Launch} {e : Env} {s : State} {m : MethodId} {args : Array Value} {below : List Frame} {meth : Method} {c : Code} {cells slots : Nat} {Q : State → Prop} {D : va_G} {cI : Nat → ClassId} {A : Nat → Prop} {b L i : Nat} {xs : Nat → Int32} {a am : Nat → Nat} {ao : Nat} {hadH hadL : Nat → Nat → Nat} {n t : kSt} {hs gs : Nat → kSt} {len hsz hnx mref msize macts mspot mout : Int32} {sg lk mtext mnow mtrial mdiary mkept misk mside mwas : kF} {out : Nat → Int64}
    (C0 : LC p l s m args c D cI A b L xs) (hcs : cells + 1 ≤ 601024 ∧ slots + 6 ≤ 7293034) (hi : i + 5 ≤ L) {o : (Int32 × Int32 × Int32 × Int32 × kF × kF × (Nat → Int64))} (ho : fn_L_bestBoard n.2.2.2.1 n.2.2.2.2.2.2.1 n.2.2.2.2.2.2.2.1 n.2.2.2.2.2.2.2.2.2.2.2.2 t.2.2.2.1 t.2.2.2.2.1 t.2.2.2.2.2.1 t.2.2.2.2.2.2.1 t.2.2.2.2.2.2.2.1 out (xs (i + 1)) = some o) {o' : (Int32 × Int32 × kF × kF)} (ho' : fn_X8_bestBoard mref mnow mtrial mside (xs (i + 1)) = some o') (e1 : o'.2.1 = o.1) (e2 : o.1 = 0 → (o.2.2.2.2.2.2 0) = (o'.1).toInt64)
    {H : Heap} {locs : List Loc} {ls : Array Slot} (hP : va_P D vwCl (lawP cI a am ao hadH hadL n t sg len hsz hnx lk out mref msize macts mspot mout mtext mnow mtrial mdiary mkept misk mside mwas ++ (famW cI 14 hadH hs ++ famW cI 2 hadL gs)) H) (hD : va_D A (lawP cI a am ao hadH hadL n t sg len hsz hnx lk out mref msize macts mspot mout mtext mnow mtrial mdiary mkept misk mside mwas ++ (famW cI 14 hadH hs ++ famW cI 2 hadL gs))) (hS : va_S A s.heap H locs) (hl : lv_has ls 7 (lawL a am ao b i))
    (kk : ∀ (H : Heap) (locs : List Loc) (ls : Array Slot), va_P D vwCl (lawP cI a am ao hadH hadL n (t.1, t.2.1, t.2.2.1, o.2.1, o.2.2.1, o.2.2.2.1, o.2.2.2.2.1, o.2.2.2.2.2.1, t.2.2.2.2.2.2.2.2.1, t.2.2.2.2.2.2.2.2.2.1, t.2.2.2.2.2.2.2.2.2.2.1, t.2.2.2.2.2.2.2.2.2.2.2.1, t.2.2.2.2.2.2.2.2.2.2.2.2) sg len hsz hnx lk o.2.2.2.2.2.2 o'.2.1 msize macts mspot mout mtext mnow o'.2.2.1 mdiary mkept misk o'.2.2.2 mwas ++ (famW cI 14 hadH hs ++ famW cI 2 hadL gs)) H → va_D A (lawP cI a am ao hadH hadL n (t.1, t.2.1, t.2.2.1, o.2.1, o.2.2.1, o.2.2.2.1, o.2.2.2.2.1, o.2.2.2.2.2.1, t.2.2.2.2.2.2.2.2.1, t.2.2.2.2.2.2.2.2.2.1, t.2.2.2.2.2.2.2.2.2.2.1, t.2.2.2.2.2.2.2.2.2.2.2.1, t.2.2.2.2.2.2.2.2.2.2.2.2) sg len hsz hnx lk o.2.2.2.2.2.2 o'.2.1 msize macts mspot mout mtext mnow o'.2.2.1 mdiary mkept misk o'.2.2.2 mwas ++ (famW cI 14 hadH hs ++ famW cI 2 hadL gs)) → va_S A s.heap H locs → lv_has ls 7 (lawL a am ao b i) → W p l e room_1 s m args below meth c H locs (cells + 1) (slots + 6) Q (F0 m 1417 ls [])) :
    W p l e room_1 s m args below meth c H locs cells slots Q (F0 m 955 ls []) := by
  obtain ⟨hF, hK, hG, hA, hX, hbl, hbA, hst, hL⟩ := C0
  obtain ⟨hx, hb, hml, hown, hts⟩ := id hF
  have hc0 : cells ≤ room_1.cells ∧ slots ≤ room_1.slots := ⟨by show cells ≤ 601024; omega, by show slots ≤ 7293034; omega⟩
  have hc1 : cells + 1 ≤ room_1.cells ∧ slots + 6 ≤ room_1.slots := hcs
  refine lv_aload_n hx hb dL_law_955 rfl (lv_at hl 1 rfl) ?_
  refine lv_aload_n hx hb dL_law_956 rfl (lv_at hl 0 rfl) ?_
  refine lv_iload hx hb dL_law_957 (lv_at hl 4 rfl) ?_
  refine lv_iconst (v := 1) hx hb dL_law_959 (by decide) ?_
  refine lv_iadd hx hb dL_law_960 ?_
  refine k_sld (j := i + 1) hx hb hX hbl hbA hS (nI_add i 1) (by omega) (by omega) dL_law_961 ?_
  refine lv_aload_n hx hb dL_law_962 rfl (lv_at hl 3 rfl) ?_
  refine kw_Si (av := [.ref (a 0), .int (xs (i + 1)), .ref ao]) (rest := []) hF hK hG hA (mk_L_bestBoard l hst D cI (a 0) (a 1) (a 3) (a 11) (a 19) (a 21) (a 4) (a 7) (a 10) (a 5) (a 6) (a 12) (a 15) (a 18) (a 13) (a 14) ao H.size n.1 n.2.1 n.2.2.1 n.2.2.2.1 n.2.2.2.2.1 n.2.2.2.2.2.1 n.2.2.2.2.2.2.1 n.2.2.2.2.2.2.2.1 n.2.2.2.2.2.2.2.2.2.2.2.2 t.1 t.2.1 t.2.2.1 t.2.2.2.1 t.2.2.2.2.1 t.2.2.2.2.2.1 t.2.2.2.2.2.2.1 t.2.2.2.2.2.2.2.1 out (xs (i + 1)) o ho) (vx_cwSW 3 hts gL_law_L_bestBoard rfl rfl rfl (by decide +kernel) ⟨Nat.le_of_ble_eq_true rfl, Nat.le_of_ble_eq_true rfl⟩) hP hD hS (kSub0 [0, 3, 4, 5, 6, 10, 11, 12, 13, 14, 33] (by decide) rfl rfl) rfl hl.1 rfl (Nat.le_of_ble_eq_true rfl) hcs dL_law_963 (fun H locs hP hD hS => ?_)
  have hP : va_P D vwCl (lawP cI a am ao hadH hadL n (t.1, t.2.1, t.2.2.1, o.2.1, o.2.2.1, o.2.2.2.1, o.2.2.2.2.1, o.2.2.2.2.2.1, t.2.2.2.2.2.2.2.2.1, t.2.2.2.2.2.2.2.2.2.1, t.2.2.2.2.2.2.2.2.2.2.1, t.2.2.2.2.2.2.2.2.2.2.2.1, t.2.2.2.2.2.2.2.2.2.2.2.2) sg len hsz hnx lk o.2.2.2.2.2.2 mref msize macts mspot mout mtext mnow mtrial mdiary mkept misk mside mwas ++ (famW cI 14 hadH hs ++ famW cI 2 hadL gs)) H := hP
  have hD : va_D A (lawP cI a am ao hadH hadL n (t.1, t.2.1, t.2.2.1, o.2.1, o.2.2.1, o.2.2.2.1, o.2.2.2.2.1, o.2.2.2.2.2.1, t.2.2.2.2.2.2.2.2.1, t.2.2.2.2.2.2.2.2.2.1, t.2.2.2.2.2.2.2.2.2.2.1, t.2.2.2.2.2.2.2.2.2.2.2.1, t.2.2.2.2.2.2.2.2.2.2.2.2) sg len hsz hnx lk o.2.2.2.2.2.2 mref msize macts mspot mout mtext mnow mtrial mdiary mkept misk mside mwas ++ (famW cI 14 hadH hs ++ famW cI 2 hadL gs)) := hD
  refine lv_istore (lv' := [(5, .int o.1), (0, .ref b), (1, .ref (a 0)), (2, .ref (am 0)), (3, .ref ao), (4, .int (nI i))]) hx hb dL_law_966 hl (by decide) rfl (fun ls hl => ?_)
  refine lv_aload_n hx hb dL_law_968 rfl (lv_at hl 3 rfl) ?_
  refine lv_aload_n hx hb dL_law_969 rfl (lv_at hl 1 rfl) ?_
  refine lv_iload hx hb dL_law_970 (lv_at hl 5 rfl) ?_
  refine lv_iconst (v := 1) hx hb dL_law_972 (by decide) ?_
  refine lv_iadd hx hb dL_law_973 ?_
  refine k_sld (j := i + 1) hx hb hX hbl hbA hS (nI_add i 1) (by omega) (by omega) dL_law_974 ?_
  refine kd_Vi (av := [.int (xs (i + 1))]) (rest := []) hF hK hG hA (mk_X8_bestBoard l D cI (am 0) (am 1) (am 2) (am 3) (am 4) (am 5) (am 6) (am 7) (am 8) H.size mref msize macts mspot mout mnow mtrial mside (xs (i + 1)) o' ho') (cwV 1 hts gL_law_X8_bestBoard rfl rfl rfl (by decide +kernel) ⟨Nat.le_of_ble_eq_true rfl, Nat.le_of_ble_eq_true rfl⟩) hP hD hS (kSub0 [24, 26, 27, 31] (by decide) rfl rfl) 0 rfl rfl rfl hl.1 rfl (Nat.le_of_ble_eq_true rfl) hc1 dL_law_975 (fun H locs hP hD hS => ?_)
  have hP : va_P D vwCl (lawP cI a am ao hadH hadL n (t.1, t.2.1, t.2.2.1, o.2.1, o.2.2.1, o.2.2.2.1, o.2.2.2.2.1, o.2.2.2.2.2.1, t.2.2.2.2.2.2.2.2.1, t.2.2.2.2.2.2.2.2.2.1, t.2.2.2.2.2.2.2.2.2.2.1, t.2.2.2.2.2.2.2.2.2.2.2.1, t.2.2.2.2.2.2.2.2.2.2.2.2) sg len hsz hnx lk o.2.2.2.2.2.2 o'.2.1 msize macts mspot mout mtext mnow o'.2.2.1 mdiary mkept misk o'.2.2.2 mwas ++ (famW cI 14 hadH hs ++ famW cI 2 hadL gs)) H := hP
  have hD : va_D A (lawP cI a am ao hadH hadL n (t.1, t.2.1, t.2.2.1, o.2.1, o.2.2.1, o.2.2.2.1, o.2.2.2.2.1, o.2.2.2.2.2.1, t.2.2.2.2.2.2.2.2.1, t.2.2.2.2.2.2.2.2.2.1, t.2.2.2.2.2.2.2.2.2.2.1, t.2.2.2.2.2.2.2.2.2.2.2.1, t.2.2.2.2.2.2.2.2.2.2.2.2) sg len hsz hnx lk o.2.2.2.2.2.2 o'.2.1 msize macts mspot mout mtext mnow o'.2.2.1 mdiary mkept misk o'.2.2.2 mwas ++ (famW cI 14 hadH hs ++ famW cI 2 hadL gs)) := hD
  refine lv_istore (lv' := [(6, .int o'.1), (5, .int o.1), (0, .ref b), (1, .ref (a 0)), (2, .ref (am 0)), (3, .ref ao), (4, .int (nI i))]) hx hb dL_law_978 hl (by decide) rfl (fun ls hl => ?_)
  refine lv_aload_n hx hb dL_law_980 rfl (lv_at hl 4 rfl) ?_
  refine kd_Vi (av := []) (rest := []) hF hK hG hA (mk_X8_thrown l D cI (am 0) (am 1) (am 2) (am 3) (am 4) (am 5) (am 6) (am 7) (am 8) H.size o'.2.1 msize macts mspot mout _ rfl) (cwV 0 hts gL_law_X8_thrown rfl rfl rfl (by decide +kernel) ⟨Nat.le_of_ble_eq_true rfl, Nat.le_of_ble_eq_true rfl⟩) hP hD hS (kSub0 [24] (by decide) rfl rfl) 0 rfl rfl rfl hl.1 rfl (Nat.le_of_ble_eq_true rfl) hc1 dL_law_981 (fun H locs hP hD hS => ?_)
  have hP : va_P D vwCl (lawP cI a am ao hadH hadL n (t.1, t.2.1, t.2.2.1, o.2.1, o.2.2.1, o.2.2.2.1, o.2.2.2.2.1, o.2.2.2.2.2.1, t.2.2.2.2.2.2.2.2.1, t.2.2.2.2.2.2.2.2.2.1, t.2.2.2.2.2.2.2.2.2.2.1, t.2.2.2.2.2.2.2.2.2.2.2.1, t.2.2.2.2.2.2.2.2.2.2.2.2) sg len hsz hnx lk o.2.2.2.2.2.2 o'.2.1 msize macts mspot mout mtext mnow o'.2.2.1 mdiary mkept misk o'.2.2.2 mwas ++ (famW cI 14 hadH hs ++ famW cI 2 hadL gs)) H := hP
  have hD : va_D A (lawP cI a am ao hadH hadL n (t.1, t.2.1, t.2.2.1, o.2.1, o.2.2.1, o.2.2.2.1, o.2.2.2.2.1, o.2.2.2.2.2.1, t.2.2.2.2.2.2.2.2.1, t.2.2.2.2.2.2.2.2.2.1, t.2.2.2.2.2.2.2.2.2.2.1, t.2.2.2.2.2.2.2.2.2.2.2.1, t.2.2.2.2.2.2.2.2.2.2.2.2) sg len hsz hnx lk o.2.2.2.2.2.2 o'.2.1 msize macts mspot mout mtext mnow o'.2.2.1 mdiary mkept misk o'.2.2.2 mwas ++ (famW cI 14 hadH hs ++ famW cI 2 hadL gs)) := hD
  refine lv_iload hx hb dL_law_984 (lv_at hl 1 rfl) ?_
  refine lv_icmp_eq (tgt := 991) hx hb dL_law_986 (by decide) (fun _ => ?_) (fun c9 => absurd e1 c9)
  refine lv_iload hx hb dL_law_991 (lv_at hl 1 rfl) ?_
  have tl : W p l e room_1 s m args below meth c H locs (cells + 1) (slots + 6) Q (F0 m 1008 ls []) := by
    refine lv_goto (tgt := 1417) hx hb dL_law_1008 (by decide) ?_
    exact kk _ _ _ hP hD hS (lv_sub hl [2, 3, 4, 5, 6] rfl)
  refine lv_if_ne (tgt := 1008) hx hb dL_law_993 (by decide) (fun _ => tl) (fun c9 => ?_)
  refine lv_aload_n hx hb dL_law_996 rfl (lv_at hl 5 rfl) ?_
  refine lv_iconst (v := 0) hx hb dL_law_997 (by decide) ?_
  refine k_lald (j := 0) hx hb hK.1 hP 33 3 rfl rfl (by decide) (by decide) dL_law_998 ?_
  refine lv_iload hx hb dL_law_999 (lv_at hl 0 rfl) ?_
  refine lv_i2l (v := (o'.1).toInt64) hx hb dL_law_1001 rfl ?_
  refine W.lcmp hx hb dL_law_1002 ?_
  exact lv_if_eq (tgt := 1008) hx hb dL_law_1003 (by decide) (fun _ => tl) (fun c8 => absurd ((lg_cmp_eq _ _).mpr (e2 c9)) c8)
set_option maxHeartbeats 4000000 in
set_option maxRecDepth 100000 in
theorem cs_slowest {p : Program} {l : Launch} {e : Env} {s : State} {m : MethodId} {args : Array Value} {below : List Frame} {meth : Method} {c : Code} {cells slots : Nat} {Q : State → Prop} {D : va_G} {cI : Nat → ClassId} {A : Nat → Prop} {b L i : Nat} {xs : Nat → Int32} {a am : Nat → Nat} {ao : Nat} {hadH hadL : Nat → Nat → Nat} {n t : kSt} {hs gs : Nat → kSt} {len hsz hnx mref msize macts mspot mout : Int32} {sg lk mtext mnow mtrial mdiary mkept misk mside mwas : kF} {out : Nat → Int64}
    (C0 : LC p l s m args c D cI A b L xs) (hcs : cells + 1 ≤ 601024 ∧ slots + 6 ≤ 7293034) (hi : i + 5 ≤ L) {o : Int32} (ho : fn_X7_slowest n.2.2.2.2.2.2.2.2.2.2.2.2 = some o) {o' : (Int32 × Int32)} (ho' : fn_X8_slowest mref mnow = some o') (e1 : o = o'.1)
    {H : Heap} {locs : List Loc} {ls : Array Slot} (hP : va_P D vwCl (lawP cI a am ao hadH hadL n t sg len hsz hnx lk out mref msize macts mspot mout mtext mnow mtrial mdiary mkept misk mside mwas ++ (famW cI 14 hadH hs ++ famW cI 2 hadL gs)) H) (hD : va_D A (lawP cI a am ao hadH hadL n t sg len hsz hnx lk out mref msize macts mspot mout mtext mnow mtrial mdiary mkept misk mside mwas ++ (famW cI 14 hadH hs ++ famW cI 2 hadL gs))) (hS : va_S A s.heap H locs) (hl : lv_has ls 7 (lawL a am ao b i))
    (kk : ∀ (H : Heap) (locs : List Loc) (ls : Array Slot), va_P D vwCl (lawP cI a am ao hadH hadL n t sg len hsz hnx lk out o'.2 msize macts mspot mout mtext mnow mtrial mdiary mkept misk mside mwas ++ (famW cI 14 hadH hs ++ famW cI 2 hadL gs)) H → va_D A (lawP cI a am ao hadH hadL n t sg len hsz hnx lk out o'.2 msize macts mspot mout mtext mnow mtrial mdiary mkept misk mside mwas ++ (famW cI 14 hadH hs ++ famW cI 2 hadL gs)) → va_S A s.heap H locs → lv_has ls 7 (lawL a am ao b i) → W p l e room_1 s m args below meth c H locs cells slots Q (F0 m 1417 ls [])) :
    W p l e room_1 s m args below meth c H locs cells slots Q (F0 m 1011 ls []) := by
  obtain ⟨hF, hK, hG, hA, hX, hbl, hbA, hst, hL⟩ := C0
  obtain ⟨hx, hb, hml, hown, hts⟩ := id hF
  have hc0 : cells ≤ room_1.cells ∧ slots ≤ room_1.slots := ⟨by show cells ≤ 601024; omega, by show slots ≤ 7293034; omega⟩
  have hc1 : cells + 1 ≤ room_1.cells ∧ slots + 6 ≤ room_1.slots := hcs
  refine lv_aload_n hx hb dL_law_1011 rfl (lv_at hl 1 rfl) ?_
  refine kd_Vi (av := []) (rest := []) hF hK hG hA (mk_X7_slowest l D cI (a 0) (a 1) (a 3) (a 11) (a 19) (a 21) (a 4) (a 7) (a 10) H.size n.1 n.2.1 n.2.2.1 n.2.2.2.2.2.2.2.2.2.2.2.2 o ho) (cwV 0 hts gL_law_X7_slowest rfl rfl rfl (by decide +kernel) ⟨Nat.le_of_ble_eq_true rfl, Nat.le_of_ble_eq_true rfl⟩) hP hD hS (kSub0 [0, 3, 10] (by decide) rfl rfl) 0 rfl rfl rfl hl.1 rfl (Nat.le_of_ble_eq_true rfl) hc0 dL_law_1012 (fun H locs hP hD hS => ?_)
  have hP : va_P D vwCl (lawP cI a am ao hadH hadL n t sg len hsz hnx lk out mref msize macts mspot mout mtext mnow mtrial mdiary mkept misk mside mwas ++ (famW cI 14 hadH hs ++ famW cI 2 hadL gs)) H := hP
  have hD : va_D A (lawP cI a am ao hadH hadL n t sg len hsz hnx lk out mref msize macts mspot mout mtext mnow mtrial mdiary mkept misk mside mwas ++ (famW cI 14 hadH hs ++ famW cI 2 hadL gs)) := hD
  refine lv_aload_n hx hb dL_law_1015 rfl (lv_at hl 2 rfl) ?_
  refine kd_Vi (av := []) (rest := [.int o]) hF hK hG hA (mk_X8_slowest l D cI (am 0) (am 1) (am 2) (am 3) (am 4) (am 5) (am 6) (am 7) (am 8) H.size mref msize macts mspot mout mnow o' ho') (cwV 0 hts gL_law_X8_slowest rfl rfl rfl (by decide +kernel) ⟨Nat.le_of_ble_eq_true rfl, Nat.le_of_ble_eq_true rfl⟩) hP hD hS (kSub0 [24, 26] (by decide) rfl rfl) 0 rfl rfl rfl hl.1 rfl (Nat.le_of_ble_eq_true rfl) hc0 dL_law_1016 (fun H locs hP hD hS => ?_)
  have hP : va_P D vwCl (lawP cI a am ao hadH hadL n t sg len hsz hnx lk out o'.2 msize macts mspot mout mtext mnow mtrial mdiary mkept misk mside mwas ++ (famW cI 14 hadH hs ++ famW cI 2 hadL gs)) H := hP
  have hD : va_D A (lawP cI a am ao hadH hadL n t sg len hsz hnx lk out o'.2 msize macts mspot mout mtext mnow mtrial mdiary mkept misk mside mwas ++ (famW cI 14 hadH hs ++ famW cI 2 hadL gs)) := hD
  refine lv_icmp_eq (tgt := 1417) hx hb dL_law_1019 (by decide) (fun _ => ?_) (fun c9 => absurd e1 c9)
  exact kk _ _ _ hP hD hS (lv_sub hl [0, 1, 2, 3, 4] rfl)
set_option maxHeartbeats 4000000 in
set_option maxRecDepth 100000 in
theorem cs_goesOn {p : Program} {l : Launch} {e : Env} {s : State} {m : MethodId} {args : Array Value} {below : List Frame} {meth : Method} {c : Code} {cells slots : Nat} {Q : State → Prop} {D : va_G} {cI : Nat → ClassId} {A : Nat → Prop} {b L i : Nat} {xs : Nat → Int32} {a am : Nat → Nat} {ao : Nat} {hadH hadL : Nat → Nat → Nat} {n t : kSt} {hs gs : Nat → kSt} {len hsz hnx mref msize macts mspot mout : Int32} {sg lk mtext mnow mtrial mdiary mkept misk mside mwas : kF} {out : Nat → Int64}
    (C0 : LC p l s m args c D cI A b L xs) (hcs : cells + 1 ≤ 601024 ∧ slots + 6 ≤ 7293034) (hi : i + 5 ≤ L) {o : (Int32 × Int32 × Int32 × Int32 × Int32 × Int32 × Int32 × kF × kF × Int32 × Int32 × kF × kF × kF × (Nat → Int64))} (ho : fn_L_goesOn n.1 n.2.1 n.2.2.1 n.2.2.2.1 n.2.2.2.2.2.2.1 n.2.2.2.2.2.2.2.1 n.2.2.2.2.2.2.2.2.1 n.2.2.2.2.2.2.2.2.2.1 n.2.2.2.2.2.2.2.2.2.2.1 n.2.2.2.2.2.2.2.2.2.2.2.1 n.2.2.2.2.2.2.2.2.2.2.2.2 t.1 t.2.1 t.2.2.1 t.2.2.2.1 t.2.2.2.2.1 t.2.2.2.2.2.1 t.2.2.2.2.2.2.1 t.2.2.2.2.2.2.2.1 t.2.2.2.2.2.2.2.2.1 t.2.2.2.2.2.2.2.2.2.1 t.2.2.2.2.2.2.2.2.2.2.1 t.2.2.2.2.2.2.2.2.2.2.2.1 t.2.2.2.2.2.2.2.2.2.2.2.2 out (xs (i + 1)) (xs (i + 2)) = some o) {o' : (Int32 × Int32 × kF × kF × kF)} (ho' : fn_X8_goesOn mref mnow mtrial mside mwas (xs (i + 1)) (xs (i + 2)) = some o') (e1 : o'.2.1 = o.1) (e2 : o.1 = 0 → (o.2.2.2.2.2.2.2.2.2.2.2.2.2.2 0) = (o'.1).toInt64)
    {H : Heap} {locs : List Loc} {ls : Array Slot} (hP : va_P D vwCl (lawP cI a am ao hadH hadL n t sg len hsz hnx lk out mref msize macts mspot mout mtext mnow mtrial mdiary mkept misk mside mwas ++ (famW cI 14 hadH hs ++ famW cI 2 hadL gs)) H) (hD : va_D A (lawP cI a am ao hadH hadL n t sg len hsz hnx lk out mref msize macts mspot mout mtext mnow mtrial mdiary mkept misk mside mwas ++ (famW cI 14 hadH hs ++ famW cI 2 hadL gs))) (hS : va_S A s.heap H locs) (hl : lv_has ls 7 (lawL a am ao b i))
    (kk : ∀ (H : Heap) (locs : List Loc) (ls : Array Slot), va_P D vwCl (lawP cI a am ao hadH hadL n (o.2.1, o.2.2.1, o.2.2.2.1, o.2.2.2.2.1, o.2.2.2.2.2.1, o.2.2.2.2.2.2.1, o.2.2.2.2.2.2.2.1, o.2.2.2.2.2.2.2.2.1, o.2.2.2.2.2.2.2.2.2.1, o.2.2.2.2.2.2.2.2.2.2.1, o.2.2.2.2.2.2.2.2.2.2.2.1, o.2.2.2.2.2.2.2.2.2.2.2.2.1, o.2.2.2.2.2.2.2.2.2.2.2.2.2.1) sg len hsz hnx lk o.2.2.2.2.2.2.2.2.2.2.2.2.2.2 o'.2.1 msize macts mspot mout mtext mnow o'.2.2.1 mdiary mkept misk o'.2.2.2.1 o'.2.2.2.2 ++ (famW cI 14 hadH hs ++ famW cI 2 hadL gs)) H → va_D A (lawP cI a am ao hadH hadL n (o.2.1, o.2.2.1, o.2.2.2.1, o.2.2.2.2.1, o.2.2.2.2.2.1, o.2.2.2.2.2.2.1, o.2.2.2.2.2.2.2.1, o.2.2.2.2.2.2.2.2.1, o.2.2.2.2.2.2.2.2.2.1, o.2.2.2.2.2.2.2.2.2.2.1, o.2.2.2.2.2.2.2.2.2.2.2.1, o.2.2.2.2.2.2.2.2.2.2.2.2.1, o.2.2.2.2.2.2.2.2.2.2.2.2.2.1) sg len hsz hnx lk o.2.2.2.2.2.2.2.2.2.2.2.2.2.2 o'.2.1 msize macts mspot mout mtext mnow o'.2.2.1 mdiary mkept misk o'.2.2.2.1 o'.2.2.2.2 ++ (famW cI 14 hadH hs ++ famW cI 2 hadL gs)) → va_S A s.heap H locs → lv_has ls 7 (lawL a am ao b i) → W p l e room_1 s m args below meth c H locs (cells + 1) (slots + 6) Q (F0 m 1417 ls [])) :
    W p l e room_1 s m args below meth c H locs cells slots Q (F0 m 1024 ls []) := by
  obtain ⟨hF, hK, hG, hA, hX, hbl, hbA, hst, hL⟩ := C0
  obtain ⟨hx, hb, hml, hown, hts⟩ := id hF
  have hc0 : cells ≤ room_1.cells ∧ slots ≤ room_1.slots := ⟨by show cells ≤ 601024; omega, by show slots ≤ 7293034; omega⟩
  have hc1 : cells + 1 ≤ room_1.cells ∧ slots + 6 ≤ room_1.slots := hcs
  refine lv_aload_n hx hb dL_law_1024 rfl (lv_at hl 1 rfl) ?_
  refine lv_aload_n hx hb dL_law_1025 rfl (lv_at hl 0 rfl) ?_
  refine lv_iload hx hb dL_law_1026 (lv_at hl 4 rfl) ?_
  refine lv_iconst (v := 1) hx hb dL_law_1028 (by decide) ?_
  refine lv_iadd hx hb dL_law_1029 ?_
  refine k_sld (j := i + 1) hx hb hX hbl hbA hS (nI_add i 1) (by omega) (by omega) dL_law_1030 ?_
  refine lv_aload_n hx hb dL_law_1031 rfl (lv_at hl 0 rfl) ?_
  refine lv_iload hx hb dL_law_1032 (lv_at hl 4 rfl) ?_
  refine lv_iconst (v := 2) hx hb dL_law_1034 (by decide) ?_
  refine lv_iadd hx hb dL_law_1035 ?_
  refine k_sld (j := i + 2) hx hb hX hbl hbA hS (nI_add i 2) (by omega) (by omega) dL_law_1036 ?_
  refine lv_aload_n hx hb dL_law_1037 rfl (lv_at hl 3 rfl) ?_
  refine kw_Si (av := [.ref (a 0), .int (xs (i + 1)), .int (xs (i + 2)), .ref ao]) (rest := []) hF hK hG hA (mk_L_goesOn l hst D cI (a 0) (a 1) (a 3) (a 11) (a 19) (a 21) (a 4) (a 7) (a 10) (a 5) (a 6) (a 8) (a 9) (a 12) (a 15) (a 18) (a 13) (a 14) (a 16) (a 17) ao H.size n.1 n.2.1 n.2.2.1 n.2.2.2.1 n.2.2.2.2.1 n.2.2.2.2.2.1 n.2.2.2.2.2.2.1 n.2.2.2.2.2.2.2.1 n.2.2.2.2.2.2.2.2.1 n.2.2.2.2.2.2.2.2.2.1 n.2.2.2.2.2.2.2.2.2.2.1 n.2.2.2.2.2.2.2.2.2.2.2.1 n.2.2.2.2.2.2.2.2.2.2.2.2 t.1 t.2.1 t.2.2.1 t.2.2.2.1 t.2.2.2.2.1 t.2.2.2.2.2.1 t.2.2.2.2.2.2.1 t.2.2.2.2.2.2.2.1 t.2.2.2.2.2.2.2.2.1 t.2.2.2.2.2.2.2.2.2.1 t.2.2.2.2.2.2.2.2.2.2.1 t.2.2.2.2.2.2.2.2.2.2.2.1 t.2.2.2.2.2.2.2.2.2.2.2.2 out (xs (i + 1)) (xs (i + 2)) o ho) (vx_cwSW 4 hts gL_law_L_goesOn rfl rfl rfl (by decide +kernel) ⟨Nat.le_of_ble_eq_true rfl, Nat.le_of_ble_eq_true rfl⟩) hP hD hS (kSub0 [0, 3, 4, 5, 6, 7, 8, 9, 10, 11, 12, 13, 14, 15, 16, 17, 18, 33] (by decide) rfl rfl) rfl hl.1 rfl (Nat.le_of_ble_eq_true rfl) hcs dL_law_1038 (fun H locs hP hD hS => ?_)
  have hP : va_P D vwCl (lawP cI a am ao hadH hadL n (o.2.1, o.2.2.1, o.2.2.2.1, o.2.2.2.2.1, o.2.2.2.2.2.1, o.2.2.2.2.2.2.1, o.2.2.2.2.2.2.2.1, o.2.2.2.2.2.2.2.2.1, o.2.2.2.2.2.2.2.2.2.1, o.2.2.2.2.2.2.2.2.2.2.1, o.2.2.2.2.2.2.2.2.2.2.2.1, o.2.2.2.2.2.2.2.2.2.2.2.2.1, o.2.2.2.2.2.2.2.2.2.2.2.2.2.1) sg len hsz hnx lk o.2.2.2.2.2.2.2.2.2.2.2.2.2.2 mref msize macts mspot mout mtext mnow mtrial mdiary mkept misk mside mwas ++ (famW cI 14 hadH hs ++ famW cI 2 hadL gs)) H := hP
  have hD : va_D A (lawP cI a am ao hadH hadL n (o.2.1, o.2.2.1, o.2.2.2.1, o.2.2.2.2.1, o.2.2.2.2.2.1, o.2.2.2.2.2.2.1, o.2.2.2.2.2.2.2.1, o.2.2.2.2.2.2.2.2.1, o.2.2.2.2.2.2.2.2.2.1, o.2.2.2.2.2.2.2.2.2.2.1, o.2.2.2.2.2.2.2.2.2.2.2.1, o.2.2.2.2.2.2.2.2.2.2.2.2.1, o.2.2.2.2.2.2.2.2.2.2.2.2.2.1) sg len hsz hnx lk o.2.2.2.2.2.2.2.2.2.2.2.2.2.2 mref msize macts mspot mout mtext mnow mtrial mdiary mkept misk mside mwas ++ (famW cI 14 hadH hs ++ famW cI 2 hadL gs)) := hD
  refine lv_istore (lv' := [(5, .int o.1), (0, .ref b), (1, .ref (a 0)), (2, .ref (am 0)), (3, .ref ao), (4, .int (nI i))]) hx hb dL_law_1041 hl (by decide) rfl (fun ls hl => ?_)
  refine lv_aload_n hx hb dL_law_1043 rfl (lv_at hl 3 rfl) ?_
  refine lv_aload_n hx hb dL_law_1044 rfl (lv_at hl 1 rfl) ?_
  refine lv_iload hx hb dL_law_1045 (lv_at hl 5 rfl) ?_
  refine lv_iconst (v := 1) hx hb dL_law_1047 (by decide) ?_
  refine lv_iadd hx hb dL_law_1048 ?_
  refine k_sld (j := i + 1) hx hb hX hbl hbA hS (nI_add i 1) (by omega) (by omega) dL_law_1049 ?_
  refine lv_aload_n hx hb dL_law_1050 rfl (lv_at hl 1 rfl) ?_
  refine lv_iload hx hb dL_law_1051 (lv_at hl 5 rfl) ?_
  refine lv_iconst (v := 2) hx hb dL_law_1053 (by decide) ?_
  refine lv_iadd hx hb dL_law_1054 ?_
  refine k_sld (j := i + 2) hx hb hX hbl hbA hS (nI_add i 2) (by omega) (by omega) dL_law_1055 ?_
  refine kd_Vi (av := [.int (xs (i + 1)), .int (xs (i + 2))]) (rest := []) hF hK hG hA (mk_X8_goesOn l D cI (am 0) (am 1) (am 2) (am 3) (am 4) (am 5) (am 6) (am 7) (am 8) H.size mref msize macts mspot mout mnow mtrial mside mwas (xs (i + 1)) (xs (i + 2)) o' ho') (cwV 2 hts gL_law_X8_goesOn rfl rfl rfl (by decide +kernel) ⟨Nat.le_of_ble_eq_true rfl, Nat.le_of_ble_eq_true rfl⟩) hP hD hS (kSub0 [24, 26, 27, 31, 32] (by decide) rfl rfl) 0 rfl rfl rfl hl.1 rfl (Nat.le_of_ble_eq_true rfl) hc1 dL_law_1056 (fun H locs hP hD hS => ?_)
  have hP : va_P D vwCl (lawP cI a am ao hadH hadL n (o.2.1, o.2.2.1, o.2.2.2.1, o.2.2.2.2.1, o.2.2.2.2.2.1, o.2.2.2.2.2.2.1, o.2.2.2.2.2.2.2.1, o.2.2.2.2.2.2.2.2.1, o.2.2.2.2.2.2.2.2.2.1, o.2.2.2.2.2.2.2.2.2.2.1, o.2.2.2.2.2.2.2.2.2.2.2.1, o.2.2.2.2.2.2.2.2.2.2.2.2.1, o.2.2.2.2.2.2.2.2.2.2.2.2.2.1) sg len hsz hnx lk o.2.2.2.2.2.2.2.2.2.2.2.2.2.2 o'.2.1 msize macts mspot mout mtext mnow o'.2.2.1 mdiary mkept misk o'.2.2.2.1 o'.2.2.2.2 ++ (famW cI 14 hadH hs ++ famW cI 2 hadL gs)) H := hP
  have hD : va_D A (lawP cI a am ao hadH hadL n (o.2.1, o.2.2.1, o.2.2.2.1, o.2.2.2.2.1, o.2.2.2.2.2.1, o.2.2.2.2.2.2.1, o.2.2.2.2.2.2.2.1, o.2.2.2.2.2.2.2.2.1, o.2.2.2.2.2.2.2.2.2.1, o.2.2.2.2.2.2.2.2.2.2.1, o.2.2.2.2.2.2.2.2.2.2.2.1, o.2.2.2.2.2.2.2.2.2.2.2.2.1, o.2.2.2.2.2.2.2.2.2.2.2.2.2.1) sg len hsz hnx lk o.2.2.2.2.2.2.2.2.2.2.2.2.2.2 o'.2.1 msize macts mspot mout mtext mnow o'.2.2.1 mdiary mkept misk o'.2.2.2.1 o'.2.2.2.2 ++ (famW cI 14 hadH hs ++ famW cI 2 hadL gs)) := hD
  refine lv_istore (lv' := [(6, .int o'.1), (5, .int o.1), (0, .ref b), (1, .ref (a 0)), (2, .ref (am 0)), (3, .ref ao), (4, .int (nI i))]) hx hb dL_law_1059 hl (by decide) rfl (fun ls hl => ?_)
  refine lv_aload_n hx hb dL_law_1061 rfl (lv_at hl 4 rfl) ?_
  refine kd_Vi (av := []) (rest := []) hF hK hG hA (mk_X8_thrown l D cI (am 0) (am 1) (am 2) (am 3) (am 4) (am 5) (am 6) (am 7) (am 8) H.size o'.2.1 msize macts mspot mout _ rfl) (cwV 0 hts gL_law_X8_thrown rfl rfl rfl (by decide +kernel) ⟨Nat.le_of_ble_eq_true rfl, Nat.le_of_ble_eq_true rfl⟩) hP hD hS (kSub0 [24] (by decide) rfl rfl) 0 rfl rfl rfl hl.1 rfl (Nat.le_of_ble_eq_true rfl) hc1 dL_law_1062 (fun H locs hP hD hS => ?_)
  have hP : va_P D vwCl (lawP cI a am ao hadH hadL n (o.2.1, o.2.2.1, o.2.2.2.1, o.2.2.2.2.1, o.2.2.2.2.2.1, o.2.2.2.2.2.2.1, o.2.2.2.2.2.2.2.1, o.2.2.2.2.2.2.2.2.1, o.2.2.2.2.2.2.2.2.2.1, o.2.2.2.2.2.2.2.2.2.2.1, o.2.2.2.2.2.2.2.2.2.2.2.1, o.2.2.2.2.2.2.2.2.2.2.2.2.1, o.2.2.2.2.2.2.2.2.2.2.2.2.2.1) sg len hsz hnx lk o.2.2.2.2.2.2.2.2.2.2.2.2.2.2 o'.2.1 msize macts mspot mout mtext mnow o'.2.2.1 mdiary mkept misk o'.2.2.2.1 o'.2.2.2.2 ++ (famW cI 14 hadH hs ++ famW cI 2 hadL gs)) H := hP
  have hD : va_D A (lawP cI a am ao hadH hadL n (o.2.1, o.2.2.1, o.2.2.2.1, o.2.2.2.2.1, o.2.2.2.2.2.1, o.2.2.2.2.2.2.1, o.2.2.2.2.2.2.2.1, o.2.2.2.2.2.2.2.2.1, o.2.2.2.2.2.2.2.2.2.1, o.2.2.2.2.2.2.2.2.2.2.1, o.2.2.2.2.2.2.2.2.2.2.2.1, o.2.2.2.2.2.2.2.2.2.2.2.2.1, o.2.2.2.2.2.2.2.2.2.2.2.2.2.1) sg len hsz hnx lk o.2.2.2.2.2.2.2.2.2.2.2.2.2.2 o'.2.1 msize macts mspot mout mtext mnow o'.2.2.1 mdiary mkept misk o'.2.2.2.1 o'.2.2.2.2 ++ (famW cI 14 hadH hs ++ famW cI 2 hadL gs)) := hD
  refine lv_iload hx hb dL_law_1065 (lv_at hl 1 rfl) ?_
  refine lv_icmp_eq (tgt := 1072) hx hb dL_law_1067 (by decide) (fun _ => ?_) (fun c9 => absurd e1 c9)
  refine lv_iload hx hb dL_law_1072 (lv_at hl 1 rfl) ?_
  have tl : W p l e room_1 s m args below meth c H locs (cells + 1) (slots + 6) Q (F0 m 1089 ls []) := by
    refine lv_goto (tgt := 1417) hx hb dL_law_1089 (by decide) ?_
    exact kk _ _ _ hP hD hS (lv_sub hl [2, 3, 4, 5, 6] rfl)
  refine lv_if_ne (tgt := 1089) hx hb dL_law_1074 (by decide) (fun _ => tl) (fun c9 => ?_)
  refine lv_aload_n hx hb dL_law_1077 rfl (lv_at hl 5 rfl) ?_
  refine lv_iconst (v := 0) hx hb dL_law_1078 (by decide) ?_
  refine k_lald (j := 0) hx hb hK.1 hP 33 3 rfl rfl (by decide) (by decide) dL_law_1079 ?_
  refine lv_iload hx hb dL_law_1080 (lv_at hl 0 rfl) ?_
  refine lv_i2l (v := (o'.1).toInt64) hx hb dL_law_1082 rfl ?_
  refine W.lcmp hx hb dL_law_1083 ?_
  exact lv_if_eq (tgt := 1089) hx hb dL_law_1084 (by decide) (fun _ => tl) (fun c8 => absurd ((lg_cmp_eq _ _).mpr (e2 c9)) c8)
