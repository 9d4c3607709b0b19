/-! the law's cases, walked, 1 (written by wip/whole/gen/gen_law.py) -/
set_option maxHeartbeats 4000000 in
set_option maxRecDepth 100000 in
theorem cs_append {p : Program} {l : Launch} {e : Env} {s : State} {m : MethodId} {args : Array Value} {below : List Frame} {meth : Method} {c : Code} {cells slots : Nat} {Q : State → Prop} {D : va_G} {cI : Nat → ClassId} {A : Nat → Prop} {b L i : Nat} {xs : Nat → Int32} {a am : Nat → Nat} {ao : Nat} {hadH hadL : Nat → Nat → Nat} {n t : kSt} {hs gs : Nat → kSt} {len hsz hnx mref msize macts mspot mout : Int32} {sg lk mtext mnow mtrial mdiary mkept misk mside mwas : kF} {out : Nat → Int64}
    (C0 : LC p l s m args c D cI A b L xs) (hcs : cells + 1 ≤ 601024 ∧ slots + 6 ≤ 7293034) (hi : i + 5 ≤ L) {o : (Int32 × Int32 × kF × (Nat → Int64))} (ho : fn_L_append len sg out (xs (i + 1)) = some o) {o' : (Int32 × Int32 × Int32 × kF)} (ho' : fn_X8_append mref msize mtext (xs (i + 1)) = some o') (e1 : o'.2.1 = o.1) (e2 : o.1 = 0 → (o.2.2.2 0) = (o'.1).toInt64)
    {H : Heap} {locs : List Loc} {ls : Array Slot} (hP : va_P D vwCl (lawP cI a am ao hadH hadL n t sg len hsz hnx lk out mref msize macts mspot mout mtext mnow mtrial mdiary mkept misk mside mwas ++ (famW cI 14 hadH hs ++ famW cI 2 hadL gs)) H) (hD : va_D A (lawP cI a am ao hadH hadL n t sg len hsz hnx lk out mref msize macts mspot mout mtext mnow mtrial mdiary mkept misk mside mwas ++ (famW cI 14 hadH hs ++ famW cI 2 hadL gs))) (hS : va_S A s.heap H locs) (hl : lv_has ls 7 (lawL a am ao b i))
    (kk : ∀ (H : Heap) (locs : List Loc) (ls : Array Slot), va_P D vwCl (lawP cI a am ao hadH hadL n t o.2.2.1 o.2.1 hsz hnx lk o.2.2.2 o'.2.1 o'.2.2.1 macts mspot mout o'.2.2.2 mnow mtrial mdiary mkept misk mside mwas ++ (famW cI 14 hadH hs ++ famW cI 2 hadL gs)) H → va_D A (lawP cI a am ao hadH hadL n t o.2.2.1 o.2.1 hsz hnx lk o.2.2.2 o'.2.1 o'.2.2.1 macts mspot mout o'.2.2.2 mnow mtrial mdiary mkept misk mside mwas ++ (famW cI 14 hadH hs ++ famW cI 2 hadL gs)) → va_S A s.heap H locs → lv_has ls 7 (lawL a am ao b i) → W p l e room_1 s m args below meth c H locs (cells + 1) (slots + 6) Q (F0 m 1417 ls [])) :
    W p l e room_1 s m args below meth c H locs cells slots Q (F0 m 144 ls []) := by
  obtain ⟨hF, hK, hG, hA, hX, hbl, hbA, hst, hL⟩ := C0
  obtain ⟨hx, hb, hml, hown, hts⟩ := id hF
  have hc0 : cells ≤ room_1.cells ∧ slots ≤ room_1.slots := ⟨by show cells ≤ 601024; omega, by show slots ≤ 7293034; omega⟩
  have hc1 : cells + 1 ≤ room_1.cells ∧ slots + 6 ≤ room_1.slots := hcs
  refine lv_aload_n hx hb dL_law_144 rfl (lv_at hl 1 rfl) ?_
  refine lv_aload_n hx hb dL_law_145 rfl (lv_at hl 0 rfl) ?_
  refine lv_iload hx hb dL_law_146 (lv_at hl 4 rfl) ?_
  refine lv_iconst (v := 1) hx hb dL_law_148 (by decide) ?_
  refine lv_iadd hx hb dL_law_149 ?_
  refine k_sld (j := i + 1) hx hb hX hbl hbA hS (nI_add i 1) (by omega) (by omega) dL_law_150 ?_
  refine lv_aload_n hx hb dL_law_151 rfl (lv_at hl 3 rfl) ?_
  refine kw_Si (av := [.ref (a 0), .int (xs (i + 1)), .ref ao]) (rest := []) hF hK hG hA (mk_L_append l hst D cI (a 0) (a 1) (a 3) (a 11) (a 19) (a 21) (a 2) ao H.size len sg out (xs (i + 1)) o ho) (vx_cwSW 3 hts gL_law_L_append rfl rfl rfl (by decide +kernel) ⟨Nat.le_of_ble_eq_true rfl, Nat.le_of_ble_eq_true rfl⟩) hP hD hS (kSub0 [0, 1, 2, 33] (by decide) rfl rfl) rfl hl.1 rfl (Nat.le_of_ble_eq_true rfl) hcs dL_law_152 (fun H locs hP hD hS => ?_)
  have hP : va_P D vwCl (lawP cI a am ao hadH hadL n t o.2.2.1 o.2.1 hsz hnx lk o.2.2.2 mref msize macts mspot mout mtext mnow mtrial mdiary mkept misk mside mwas ++ (famW cI 14 hadH hs ++ famW cI 2 hadL gs)) H := hP
  have hD : va_D A (lawP cI a am ao hadH hadL n t o.2.2.1 o.2.1 hsz hnx lk o.2.2.2 mref msize macts mspot mout mtext mnow mtrial mdiary mkept misk mside mwas ++ (famW cI 14 hadH hs ++ famW cI 2 hadL gs)) := hD
  refine lv_istore (lv' := [(5, .int o.1), (0, .ref b), (1, .ref (a 0)), (2, .ref (am 0)), (3, .ref ao), (4, .int (nI i))]) hx hb dL_law_155 hl (by decide) rfl (fun ls hl => ?_)
  refine lv_aload_n hx hb dL_law_157 rfl (lv_at hl 3 rfl) ?_
  refine lv_aload_n hx hb dL_law_158 rfl (lv_at hl 1 rfl) ?_
  refine lv_iload hx hb dL_law_159 (lv_at hl 5 rfl) ?_
  refine lv_iconst (v := 1) hx hb dL_law_161 (by decide) ?_
  refine lv_iadd hx hb dL_law_162 ?_
  refine k_sld (j := i + 1) hx hb hX hbl hbA hS (nI_add i 1) (by omega) (by omega) dL_law_163 ?_
  refine kd_Vi (av := [.int (xs (i + 1))]) (rest := []) hF hK hG hA (mk_X8_append l D cI (am 0) (am 1) (am 2) (am 3) (am 4) (am 5) (am 6) (am 7) (am 8) H.size mref msize macts mspot mout mtext (xs (i + 1)) o' ho') (cwV 1 hts gL_law_X8_append rfl rfl rfl (by decide +kernel) ⟨Nat.le_of_ble_eq_true rfl, Nat.le_of_ble_eq_true rfl⟩) hP hD hS (kSub0 [24, 25] (by decide) rfl rfl) 0 rfl rfl rfl hl.1 rfl (Nat.le_of_ble_eq_true rfl) hc1 dL_law_164 (fun H locs hP hD hS => ?_)
  have hP : va_P D vwCl (lawP cI a am ao hadH hadL n t o.2.2.1 o.2.1 hsz hnx lk o.2.2.2 o'.2.1 o'.2.2.1 macts mspot mout o'.2.2.2 mnow mtrial mdiary mkept misk mside mwas ++ (famW cI 14 hadH hs ++ famW cI 2 hadL gs)) H := hP
  have hD : va_D A (lawP cI a am ao hadH hadL n t o.2.2.1 o.2.1 hsz hnx lk o.2.2.2 o'.2.1 o'.2.2.1 macts mspot mout o'.2.2.2 mnow mtrial mdiary mkept misk mside mwas ++ (famW cI 14 hadH hs ++ famW cI 2 hadL gs)) := hD
  refine lv_istore (lv' := [(6, .int o'.1), (5, .int o.1), (0, .ref b), (1, .ref (a 0)), (2, .ref (am 0)), (3, .ref ao), (4, .int (nI i))]) hx hb dL_law_167 hl (by decide) rfl (fun ls hl => ?_)
  refine lv_aload_n hx hb dL_law_169 rfl (lv_at hl 4 rfl) ?_
  refine kd_Vi (av := []) (rest := []) hF hK hG hA (mk_X8_thrown l D cI (am 0) (am 1) (am 2) (am 3) (am 4) (am 5) (am 6) (am 7) (am 8) H.size o'.2.1 o'.2.2.1 macts mspot mout _ rfl) (cwV 0 hts gL_law_X8_thrown rfl rfl rfl (by decide +kernel) ⟨Nat.le_of_ble_eq_true rfl, Nat.le_of_ble_eq_true rfl⟩) hP hD hS (kSub0 [24] (by decide) rfl rfl) 0 rfl rfl rfl hl.1 rfl (Nat.le_of_ble_eq_true rfl) hc1 dL_law_170 (fun H locs hP hD hS => ?_)
  have hP : va_P D vwCl (lawP cI a am ao hadH hadL n t o.2.2.1 o.2.1 hsz hnx lk o.2.2.2 o'.2.1 o'.2.2.1 macts mspot mout o'.2.2.2 mnow mtrial mdiary mkept misk mside mwas ++ (famW cI 14 hadH hs ++ famW cI 2 hadL gs)) H := hP
  have hD : va_D A (lawP cI a am ao hadH hadL n t o.2.2.1 o.2.1 hsz hnx lk o.2.2.2 o'.2.1 o'.2.2.1 macts mspot mout o'.2.2.2 mnow mtrial mdiary mkept misk mside mwas ++ (famW cI 14 hadH hs ++ famW cI 2 hadL gs)) := hD
  refine lv_iload hx hb dL_law_173 (lv_at hl 1 rfl) ?_
  refine lv_icmp_eq (tgt := 180) hx hb dL_law_175 (by decide) (fun _ => ?_) (fun c9 => absurd e1 c9)
  refine lv_iload hx hb dL_law_180 (lv_at hl 1 rfl) ?_
  have tl : W p l e room_1 s m args below meth c H locs (cells + 1) (slots + 6) Q (F0 m 197 ls []) := by
    refine lv_goto (tgt := 1417) hx hb dL_law_197 (by decide) ?_
    exact kk _ _ _ hP hD hS (lv_sub hl [2, 3, 4, 5, 6] rfl)
  refine lv_if_ne (tgt := 197) hx hb dL_law_182 (by decide) (fun _ => tl) (fun c9 => ?_)
  refine lv_aload_n hx hb dL_law_185 rfl (lv_at hl 5 rfl) ?_
  refine lv_iconst (v := 0) hx hb dL_law_186 (by decide) ?_
  refine k_lald (j := 0) hx hb hK.1 hP 33 3 rfl rfl (by decide) (by decide) dL_law_187 ?_
  refine lv_iload hx hb dL_law_188 (lv_at hl 0 rfl) ?_
  refine lv_i2l (v := (o'.1).toInt64) hx hb dL_law_190 rfl ?_
  refine W.lcmp hx hb dL_law_191 ?_
  exact lv_if_eq (tgt := 197) hx hb dL_law_192 (by decide) (fun _ => tl) (fun c8 => absurd ((lg_cmp_eq _ _).mpr (e2 c9)) c8)
set_option maxHeartbeats 4000000 in
set_option maxRecDepth 100000 in
theorem cs_clearText {p : Program} {l : Launch} {e : Env} {s : State} {m : MethodId} {args : Array Value} {below : List Frame} {meth : Method} {c : Code} {cells slots : Nat} {Q : State → Prop} {D : va_G} {cI : Nat → ClassId} {A : Nat → Prop} {b L i : Nat} {xs : Nat → Int32} {a am : Nat → Nat} {ao : Nat} {hadH hadL : Nat → Nat → Nat} {n t : kSt} {hs gs : Nat → kSt} {len hsz hnx mref msize macts mspot mout : Int32} {sg lk mtext mnow mtrial mdiary mkept misk mside mwas : kF} {out : Nat → Int64}
    (C0 : LC p l s m args c D cI A b L xs) (hcs : cells + 1 ≤ 601024 ∧ slots + 6 ≤ 7293034) (hi : i + 5 ≤ L) {o : (Int32 × Int32)} (ho : fn_X7_clearText len = some o) {o' : (Int32 × Int32 × Int32)} (ho' : fn_X8_clearText mref msize = some o') (e1 : o.1 = o'.1)
    {H : Heap} {locs : List Loc} {ls : Array Slot} (hP : va_P D vwCl (lawP cI a am ao hadH hadL n t sg len hsz hnx lk out mref msize macts mspot mout mtext mnow mtrial mdiary mkept misk mside mwas ++ (famW cI 14 hadH hs ++ famW cI 2 hadL gs)) H) (hD : va_D A (lawP cI a am ao hadH hadL n t sg len hsz hnx lk out mref msize macts mspot mout mtext mnow mtrial mdiary mkept misk mside mwas ++ (famW cI 14 hadH hs ++ famW cI 2 hadL gs))) (hS : va_S A s.heap H locs) (hl : lv_has ls 7 (lawL a am ao b i))
    (kk : ∀ (H : Heap) (locs : List Loc) (ls : Array Slot), va_P D vwCl (lawP cI a am ao hadH hadL n t sg o.2 hsz hnx lk out o'.2.1 o'.2.2 macts mspot mout mtext mnow mtrial mdiary mkept misk mside mwas ++ (famW cI 14 hadH hs ++ famW cI 2 hadL gs)) H → va_D A (lawP cI a am ao hadH hadL n t sg o.2 hsz hnx lk out o'.2.1 o'.2.2 macts mspot mout mtext mnow mtrial mdiary mkept misk mside mwas ++ (famW cI 14 hadH hs ++ famW cI 2 hadL gs)) → va_S A s.heap H locs → lv_has ls 7 (lawL a am ao b i) → W p l e room_1 s m args below meth c H locs cells slots Q (F0 m 1417 ls [])) :
    W p l e room_1 s m args below meth c H locs cells slots Q (F0 m 200 ls []) := by
  obtain ⟨hF, hK, hG, hA, hX, hbl, hbA, hst, hL⟩ := C0
  obtain ⟨hx, hb, hml, hown, hts⟩ := id hF
  have hc0 : cells ≤ room_1.cells ∧ slots ≤ room_1.slots := ⟨by show cells ≤ 601024; omega, by show slots ≤ 7293034; omega⟩
  have hc1 : cells + 1 ≤ room_1.cells ∧ slots + 6 ≤ room_1.slots := hcs
  refine lv_aload_n hx hb dL_law_200 rfl (lv_at hl 1 rfl) ?_
  refine kd_Vi (av := []) (rest := []) hF hK hG hA (mk_X7_clearText l D cI (a 0) (a 1) (a 3) (a 11) (a 19) (a 21) (a 2) H.size len o ho) (cwV 0 hts gL_law_X7_clearText rfl rfl rfl (by decide +kernel) ⟨Nat.le_of_ble_eq_true rfl, Nat.le_of_ble_eq_true rfl⟩) hP hD hS (kSub0 [0, 1] (by decide) rfl rfl) 0 rfl rfl rfl hl.1 rfl (Nat.le_of_ble_eq_true rfl) hc0 dL_law_201 (fun H locs hP hD hS => ?_)
  have hP : va_P D vwCl (lawP cI a am ao hadH hadL n t sg o.2 hsz hnx lk out mref msize macts mspot mout mtext mnow mtrial mdiary mkept misk mside mwas ++ (famW cI 14 hadH hs ++ famW cI 2 hadL gs)) H := hP
  have hD : va_D A (lawP cI a am ao hadH hadL n t sg o.2 hsz hnx lk out mref msize macts mspot mout mtext mnow mtrial mdiary mkept misk mside mwas ++ (famW cI 14 hadH hs ++ famW cI 2 hadL gs)) := hD
  refine lv_aload_n hx hb dL_law_204 rfl (lv_at hl 2 rfl) ?_
  refine kd_Vi (av := []) (rest := [.int o.1]) hF hK hG hA (mk_X8_clearText l D cI (am 0) (am 1) (am 2) (am 3) (am 4) (am 5) (am 6) (am 7) (am 8) H.size mref msize macts mspot mout o' ho') (cwV 0 hts gL_law_X8_clearText rfl rfl rfl (by decide +kernel) ⟨Nat.le_of_ble_eq_true rfl, Nat.le_of_ble_eq_true rfl⟩) hP hD hS (kSub0 [24] (by decide) rfl rfl) 0 rfl rfl rfl hl.1 rfl (Nat.le_of_ble_eq_true rfl) hc0 dL_law_205 (fun H locs hP hD hS => ?_)
  have hP : va_P D vwCl (lawP cI a am ao hadH hadL n t sg o.2 hsz hnx lk out o'.2.1 o'.2.2 macts mspot mout mtext mnow mtrial mdiary mkept misk mside mwas ++ (famW cI 14 hadH hs ++ famW cI 2 hadL gs)) H := hP
  have hD : va_D A (lawP cI a am ao hadH hadL n t sg o.2 hsz hnx lk out o'.2.1 o'.2.2 macts mspot mout mtext mnow mtrial mdiary mkept misk mside mwas ++ (famW cI 14 hadH hs ++ famW cI 2 hadL gs)) := hD
  refine lv_icmp_eq (tgt := 1417) hx hb dL_law_208 (by decide) (fun _ => ?_) (fun c9 => absurd e1 c9)
  exact kk _ _ _ hP hD hS (lv_sub hl [0, 1, 2, 3, 4] rfl)
set_option maxHeartbeats 4000000 in
set_option maxRecDepth 100000 in
theorem cs_errorPosition {p : Program} {l : Launch} {e : Env} {s : State} {m : MethodId} {args : Array Value} {below : List Frame} {meth : Method} {c : Code} {cells slots : Nat} {Q : State → Prop} {D : va_G} {cI : Nat → ClassId} {A : Nat → Prop} {b L i : Nat} {xs : Nat → Int32} {a am : Nat → Nat} {ao : Nat} {hadH hadL : Nat → Nat → Nat} {n t : kSt} {hs gs : Nat → kSt} {len hsz hnx mref msize macts mspot mout : Int32} {sg lk mtext mnow mtrial mdiary mkept misk mside mwas : kF} {out : Nat → Int64}
    (C0 : LC p l s m args c D cI A b L xs) (hcs : cells + 1 ≤ 601024 ∧ slots + 6 ≤ 7293034) (hi : i + 5 ≤ L) {o : Int32} (ho : fn_X7_errorPosition len sg = some o) {o' : (Int32 × Int32 × Int32 × Int32 × kF × kF × kF)} (ho' : fn_X8_errorPosition mref msize mspot mout mtext mtrial mside mwas = some o') (e1 : o = o'.1)
    {H : Heap} {locs : List Loc} {ls : Array Slot} (hP : va_P D vwCl (lawP cI a am ao hadH hadL n t sg len hsz hnx lk out mref msize macts mspot mout mtext mnow mtrial mdiary mkept misk mside mwas ++ (famW cI 14 hadH hs ++ famW cI 2 hadL gs)) H) (hD : va_D A (lawP cI a am ao hadH hadL n t sg len hsz hnx lk out mref msize macts mspot mout mtext mnow mtrial mdiary mkept misk mside mwas ++ (famW cI 14 hadH hs ++ famW cI 2 hadL gs))) (hS : va_S A s.heap H locs) (hl : lv_has ls 7 (lawL a am ao b i))
    (kk : ∀ (H : Heap) (locs : List Loc) (ls : Array Slot), va_P D vwCl (lawP cI a am ao hadH hadL n t sg len hsz hnx lk out o'.2.1 msize macts o'.2.2.1 o'.2.2.2.1 mtext mnow o'.2.2.2.2.1 mdiary mkept misk o'.2.2.2.2.2.1 o'.2.2.2.2.2.2 ++ (famW cI 14 hadH hs ++ famW cI 2 hadL gs)) H → va_D A (lawP cI a am ao hadH hadL n t sg len hsz hnx lk out o'.2.1 msize macts o'.2.2.1 o'.2.2.2.1 mtext mnow o'.2.2.2.2.1 mdiary mkept misk o'.2.2.2.2.2.1 o'.2.2.2.2.2.2 ++ (famW cI 14 hadH hs ++ famW cI 2 hadL gs)) → va_S A s.heap H locs → lv_has ls 7 (lawL a am ao b i) → W p l e room_1 s m args below meth c H locs cells slots Q (F0 m 1417 ls [])) :
    W p l e room_1 s m args below meth c H locs cells slots Q (F0 m 213 ls []) := by
  obtain ⟨hF, hK, hG, hA, hX, hbl, hbA, hst, hL⟩ := C0
  obtain ⟨hx, hb, hml, hown, hts⟩ := id hF
  have hc0 : cells ≤ room_1.cells ∧ slots ≤ room_1.slots := ⟨by show cells ≤ 601024; omega, by show slots ≤ 7293034; omega⟩
  have hc1 : cells + 1 ≤ room_1.cells ∧ slots + 6 ≤ room_1.slots := hcs
  refine lv_aload_n hx hb dL_law_213 rfl (lv_at hl 1 rfl) ?_
  refine kd_Vi (av := []) (rest := []) hF hK hG hA (mk_X7_errorPosition l D cI (a 0) (a 1) (a 3) (a 11) (a 19) (a 21) (a 2) H.size len sg o ho) (cwV 0 hts gL_law_X7_errorPosition rfl rfl rfl (by decide +kernel) ⟨Nat.le_of_ble_eq_true rfl, Nat.le_of_ble_eq_true rfl⟩) hP hD hS (kSub0 [0, 1, 2] (by decide) rfl rfl) 0 rfl rfl rfl hl.1 rfl (Nat.le_of_ble_eq_true rfl) hc0 dL_law_214 (fun H locs hP hD hS => ?_)
  have hP : va_P D vwCl (lawP cI a am ao hadH hadL n t sg len hsz hnx lk out mref msize macts mspot mout mtext mnow mtrial mdiary mkept misk mside mwas ++ (famW cI 14 hadH hs ++ famW cI 2 hadL gs)) H := hP
  have hD : va_D A (lawP cI a am ao hadH hadL n t sg len hsz hnx lk out mref msize macts mspot mout mtext mnow mtrial mdiary mkept misk mside mwas ++ (famW cI 14 hadH hs ++ famW cI 2 hadL gs)) := hD
  refine lv_aload_n hx hb dL_law_217 rfl (lv_at hl 2 rfl) ?_
  refine kd_Vi (av := []) (rest := [.int o]) hF hK hG hA (mk_X8_errorPosition l D cI (am 0) (am 1) (am 2) (am 3) (am 4) (am 5) (am 6) (am 7) (am 8) H.size mref msize macts mspot mout mtext mtrial mside mwas o' ho') (cwV 0 hts gL_law_X8_errorPosition rfl rfl rfl (by decide +kernel) ⟨Nat.le_of_ble_eq_true rfl, Nat.le_of_ble_eq_true rfl⟩) hP hD hS (kSub0 [24, 25, 27, 31, 32] (by decide) rfl rfl) 0 rfl rfl rfl hl.1 rfl (Nat.le_of_ble_eq_true rfl) hc0 dL_law_218 (fun H locs hP hD hS => ?_)
  have hP : va_P D vwCl (lawP cI a am ao hadH hadL n t sg len hsz hnx lk out o'.2.1 msize macts o'.2.2.1 o'.2.2.2.1 mtext mnow o'.2.2.2.2.1 mdiary mkept misk o'.2.2.2.2.2.1 o'.2.2.2.2.2.2 ++ (famW cI 14 hadH hs ++ famW cI 2 hadL gs)) H := hP
  have hD : va_D A (lawP cI a am ao hadH hadL n t sg len hsz hnx lk out o'.2.1 msize macts o'.2.2.1 o'.2.2.2.1 mtext mnow o'.2.2.2.2.1 mdiary mkept misk o'.2.2.2.2.2.1 o'.2.2.2.2.2.2 ++ (famW cI 14 hadH hs ++ famW cI 2 hadL gs)) := hD
  refine lv_icmp_eq (tgt := 1417) hx hb dL_law_221 (by decide) (fun _ => ?_) (fun c9 => absurd e1 c9)
  exact kk _ _ _ hP hD hS (lv_sub hl [0, 1, 2, 3, 4] rfl)
set_option maxHeartbeats 4000000 in
set_option maxRecDepth 100000 in
theorem cs_load {p : Program} {l : Launch} {e : Env} {s : State} {m : MethodId} {args : Array Value} {below : List Frame} {meth : Method} {c : Code} {cells slots : Nat} {Q : State → Prop} {D : va_G} {cI : Nat → ClassId} {A : Nat → Prop} {b L i : Nat} {xs : Nat → Int32} {a am : Nat → Nat} {ao : Nat} {hadH hadL : Nat → Nat → Nat} {n t : kSt} {hs gs : Nat → kSt} {len hsz hnx mref msize macts mspot mout : Int32} {sg lk mtext mnow mtrial mdiary mkept misk mside mwas : kF} {out : Nat → Int64}
    (C0 : LC p l s m args c D cI A b L xs) (hcs : cells + 1 ≤ 601024 ∧ slots + 6 ≤ 7293034) (hi : i + 5 ≤ L) {o : (Int32 × Int32 × Int32 × Int32 × Int32 × Int32 × Int32 × kF × kF × Int32 × Int32 × kF × kF × kF × Int32 × kF × (Nat → Int64))} (ho : fn_L_load len sg n.1 n.2.1 n.2.2.1 n.2.2.2.1 n.2.2.2.2.1 n.2.2.2.2.2.1 n.2.2.2.2.2.2.1 n.2.2.2.2.2.2.2.1 n.2.2.2.2.2.2.2.2.1 n.2.2.2.2.2.2.2.2.2.1 n.2.2.2.2.2.2.2.2.2.2.1 n.2.2.2.2.2.2.2.2.2.2.2.1 n.2.2.2.2.2.2.2.2.2.2.2.2 hsz lk out = some o) {o' : (Int32 × Int32 × Int32 × Int32 × Int32 × kF × kF × kF × kF × kF)} (ho' : fn_X8_load mref msize macts mspot mout mtext mnow mtrial misk mside mwas = some o') (e1 : o'.2.1 = o.1) (e2 : o.1 = 0 → (o.2.2.2.2.2.2.2.2.2.2.2.2.2.2.2.2 0) = (o'.1).toInt64)
    {H : Heap} {locs : List Loc} {ls : Array Slot} (hP : va_P D vwCl (lawP cI a am ao hadH hadL n t sg len hsz hnx lk out mref msize macts mspot mout mtext mnow mtrial mdiary mkept misk mside mwas ++ (famW cI 14 hadH hs ++ famW cI 2 hadL gs)) H) (hD : va_D A (lawP cI a am ao hadH hadL n t sg len hsz hnx lk out mref msize macts mspot mout mtext mnow mtrial mdiary mkept misk mside mwas ++ (famW cI 14 hadH hs ++ famW cI 2 hadL gs))) (hS : va_S A s.heap H locs) (hl : lv_has ls 7 (lawL a am ao b i))
    (kk : ∀ (H : Heap) (locs : List Loc) (ls : Array Slot), va_P D vwCl (lawP cI a am ao hadH hadL (o.2.1, o.2.2.1, o.2.2.2.1, o.2.2.2.2.1, o.2.2.2.2.2.1, o.2.2.2.2.2.2.1, o.2.2.2.2.2.2.2.1, o.2.2.2.2.2.2.2.2.1, o.2.2.2.2.2.2.2.2.2.1, o.2.2.2.2.2.2.2.2.2.2.1, o.2.2.2.2.2.2.2.2.2.2.2.1, o.2.2.2.2.2.2.2.2.2.2.2.2.1, o.2.2.2.2.2.2.2.2.2.2.2.2.2.1) t sg len o.2.2.2.2.2.2.2.2.2.2.2.2.2.2.1 hnx o.2.2.2.2.2.2.2.2.2.2.2.2.2.2.2.1 o.2.2.2.2.2.2.2.2.2.2.2.2.2.2.2.2 o'.2.1 msize o'.2.2.1 o'.2.2.2.1 o'.2.2.2.2.1 mtext o'.2.2.2.2.2.1 o'.2.2.2.2.2.2.1 mdiary mkept o'.2.2.2.2.2.2.2.1 o'.2.2.2.2.2.2.2.2.1 o'.2.2.2.2.2.2.2.2.2 ++ (famW cI 14 hadH hs ++ famW cI 2 hadL gs)) H → va_D A (lawP cI a am ao hadH hadL (o.2.1, o.2.2.1, o.2.2.2.1, o.2.2.2.2.1, o.2.2.2.2.2.1, o.2.2.2.2.2.2.1, o.2.2.2.2.2.2.2.1, o.2.2.2.2.2.2.2.2.1, o.2.2.2.2.2.2.2.2.2.1, o.2.2.2.2.2.2.2.2.2.2.1, o.2.2.2.2.2.2.2.2.2.2.2.1, o.2.2.2.2.2.2.2.2.2.2.2.2.1, o.2.2.2.2.2.2.2.2.2.2.2.2.2.1) t sg len o.2.2.2.2.2.2.2.2.2.2.2.2.2.2.1 hnx o.2.2.2.2.2.2.2.2.2.2.2.2.2.2.2.1 o.2.2.2.2.2.2.2.2.2.2.2.2.2.2.2.2 o'.2.1 msize o'.2.2.1 o'.2.2.2.1 o'.2.2.2.2.1 mtext o'.2.2.2.2.2.1 o'.2.2.2.2.2.2.1 mdiary mkept o'.2.2.2.2.2.2.2.1 o'.2.2.2.2.2.2.2.2.1 o'.2.2.2.2.2.2.2.2.2 ++ (famW cI 14 hadH hs ++ famW cI 2 hadL gs)) → va_S A s.heap H locs → lv_has ls 7 (lawL a am ao b i) → W p l e room_1 s m args below meth c H locs (cells + 1) (slots + 6) Q (F0 m 1417 ls [])) :
    W p l e room_1 s m args below meth c H locs cells slots Q (F0 m 226 ls []) := by
  obtain ⟨hF, hK, hG, hA, hX, hbl, hbA, hst, hL⟩ := C0
  obtain ⟨hx, hb, hml, hown, hts⟩ := id hF
  have hc0 : cells ≤ room_1.cells ∧ slots ≤ room_1.slots := ⟨by show cells ≤ 601024; omega, by show slots ≤ 7293034; omega⟩
  have hc1 : cells + 1 ≤ room_1.cells ∧ slots + 6 ≤ room_1.slots := hcs
  refine lv_aload_n hx hb dL_law_226 rfl (lv_at hl 1 rfl) ?_
  refine lv_aload_n hx hb dL_law_227 rfl (lv_at hl 3 rfl) ?_
  refine kw_Si (av := [.ref (a 0), .ref ao]) (rest := []) hF hK hG hA (mk_L_load l hst D cI (a 0) (a 1) (a 3) (a 11) (a 19) (a 21) (a 2) (a 4) (a 7) (a 10) (a 5) (a 6) (a 8) (a 9) (a 20) (a 22) (a 23) ao H.size len sg n.1 n.2.1 n.2.2.1 n.2.2.2.1 n.2.2.2.2.1 n.2.2.2.2.2.1 n.2.2.2.2.2.2.1 n.2.2.2.2.2.2.2.1 n.2.2.2.2.2.2.2.2.1 n.2.2.2.2.2.2.2.2.2.1 n.2.2.2.2.2.2.2.2.2.2.1 n.2.2.2.2.2.2.2.2.2.2.2.1 n.2.2.2.2.2.2.2.2.2.2.2.2 hsz hnx lk out o ho) (vx_cwSW 2 hts gL_law_L_load rfl rfl rfl (by decide +kernel) ⟨Nat.le_of_ble_eq_true rfl, Nat.le_of_ble_eq_true rfl⟩) hP hD hS (kSub0 [0, 1, 2, 3, 4, 5, 6, 7, 8, 9, 10, 19, 21, 23, 33] (by decide) rfl rfl) rfl hl.1 rfl (Nat.le_of_ble_eq_true rfl) hcs dL_law_228 (fun H locs hP hD hS => ?_)
  have hP : va_P D vwCl (lawP cI a am ao hadH hadL (o.2.1, o.2.2.1, o.2.2.2.1, o.2.2.2.2.1, o.2.2.2.2.2.1, o.2.2.2.2.2.2.1, o.2.2.2.2.2.2.2.1, o.2.2.2.2.2.2.2.2.1, o.2.2.2.2.2.2.2.2.2.1, o.2.2.2.2.2.2.2.2.2.2.1, o.2.2.2.2.2.2.2.2.2.2.2.1, o.2.2.2.2.2.2.2.2.2.2.2.2.1, o.2.2.2.2.2.2.2.2.2.2.2.2.2.1) t sg len o.2.2.2.2.2.2.2.2.2.2.2.2.2.2.1 hnx o.2.2.2.2.2.2.2.2.2.2.2.2.2.2.2.1 o.2.2.2.2.2.2.2.2.2.2.2.2.2.2.2.2 mref msize macts mspot mout mtext mnow mtrial mdiary mkept misk mside mwas ++ (famW cI 14 hadH hs ++ famW cI 2 hadL gs)) H := hP
  have hD : va_D A (lawP cI a am ao hadH hadL (o.2.1, o.2.2.1, o.2.2.2.1, o.2.2.2.2.1, o.2.2.2.2.2.1, o.2.2.2.2.2.2.1, o.2.2.2.2.2.2.2.1, o.2.2.2.2.2.2.2.2.1, o.2.2.2.2.2.2.2.2.2.1, o.2.2.2.2.2.2.2.2.2.2.1, o.2.2.2.2.2.2.2.2.2.2.2.1, o.2.2.2.2.2.2.2.2.2.2.2.2.1, o.2.2.2.2.2.2.2.2.2.2.2.2.2.1) t sg len o.2.2.2.2.2.2.2.2.2.2.2.2.2.2.1 hnx o.2.2.2.2.2.2.2.2.2.2.2.2.2.2.2.1 o.2.2.2.2.2.2.2.2.2.2.2.2.2.2.2.2 mref msize macts mspot mout mtext mnow mtrial mdiary mkept misk mside mwas ++ (famW cI 14 hadH hs ++ famW cI 2 hadL gs)) := hD
  refine lv_istore (lv' := [(5, .int o.1), (0, .ref b), (1, .ref (a 0)), (2, .ref (am 0)), (3, .ref ao), (4, .int (nI i))]) hx hb dL_law_231 hl (by decide) rfl (fun ls hl => ?_)
  refine lv_aload_n hx hb dL_law_233 rfl (lv_at hl 3 rfl) ?_
  refine kd_Vi (av := []) (rest := []) hF hK hG hA (mk_X8_load l D cI (am 0) (am 1) (am 2) (am 3) (am 4) (am 5) (am 6) (am 7) (am 8) H.size mref msize macts mspot mout mtext mnow mtrial misk mside mwas o' ho') (cwV 0 hts gL_law_X8_load rfl rfl rfl (by decide +kernel) ⟨Nat.le_of_ble_eq_true rfl, Nat.le_of_ble_eq_true rfl⟩) hP hD hS (kSub0 [24, 25, 26, 27, 30, 31, 32] (by decide) rfl rfl) 0 rfl rfl rfl hl.1 rfl (Nat.le_of_ble_eq_true rfl) hc1 dL_law_234 (fun H locs hP hD hS => ?_)
  have hP : va_P D vwCl (lawP cI a am ao hadH hadL (o.2.1, o.2.2.1, o.2.2.2.1, o.2.2.2.2.1, o.2.2.2.2.2.1, o.2.2.2.2.2.2.1, o.2.2.2.2.2.2.2.1, o.2.2.2.2.2.2.2.2.1, o.2.2.2.2.2.2.2.2.2.1, o.2.2.2.2.2.2.2.2.2.2.1, o.2.2.2.2.2.2.2.2.2.2.2.1, o.2.2.2.2.2.2.2.2.2.2.2.2.1, o.2.2.2.2.2.2.2.2.2.2.2.2.2.1) t sg len o.2.2.2.2.2.2.2.2.2.2.2.2.2.2.1 hnx o.2.2.2.2.2.2.2.2.2.2.2.2.2.2.2.1 o.2.2.2.2.2.2.2.2.2.2.2.2.2.2.2.2 o'.2.1 msize o'.2.2.1 o'.2.2.2.1 o'.2.2.2.2.1 mtext o'.2.2.2.2.2.1 o'.2.2.2.2.2.2.1 mdiary mkept o'.2.2.2.2.2.2.2.1 o'.2.2.2.2.2.2.2.2.1 o'.2.2.2.2.2.2.2.2.2 ++ (famW cI 14 hadH hs ++ famW cI 2 hadL gs)) H := hP
  have hD : va_D A (lawP cI a am ao hadH hadL (o.2.1, o.2.2.1, o.2.2.2.1, o.2.2.2.2.1, o.2.2.2.2.2.1, o.2.2.2.2.2.2.1, o.2.2.2.2.2.2.2.1, o.2.2.2.2.2.2.2.2.1, o.2.2.2.2.2.2.2.2.2.1, o.2.2.2.2.2.2.2.2.2.2.1, o.2.2.2.2.2.2.2.2.2.2.2.1, o.2.2.2.2.2.2.2.2.2.2.2.2.1, o.2.2.2.2.2.2.2.2.2.2.2.2.2.1) t sg len o.2.2.2.2.2.2.2.2.2.2.2.2.2.2.1 hnx o.2.2.2.2.2.2.2.2.2.2.2.2.2.2.2.1 o.2.2.2.2.2.2.2.2.2.2.2.2.2.2.2.2 o'.2.1 msize o'.2.2.1 o'.2.2.2.1 o'.2.2.2.2.1 mtext o'.2.2.2.2.2.1 o'.2.2.2.2.2.2.1 mdiary mkept o'.2.2.2.2.2.2.2.1 o'.2.2.2.2.2.2.2.2.1 o'.2.2.2.2.2.2.2.2.2 ++ (famW cI 14 hadH hs ++ famW cI 2 hadL gs)) := hD
  refine lv_istore (lv' := [(6, .int o'.1), (5, .int o.1), (0, .ref b), (1, .ref (a 0)), (2, .ref (am 0)), (3, .ref ao), (4, .int (nI i))]) hx hb dL_law_237 hl (by decide) rfl (fun ls hl => ?_)
  refine lv_aload_n hx hb dL_law_239 rfl (lv_at hl 4 rfl) ?_
  refine kd_Vi (av := []) (rest := []) hF hK hG hA (mk_X8_thrown l D cI (am 0) (am 1) (am 2) (am 3) (am 4) (am 5) (am 6) (am 7) (am 8) H.size o'.2.1 msize o'.2.2.1 o'.2.2.2.1 o'.2.2.2.2.1 _ rfl) (cwV 0 hts gL_law_X8_thrown rfl rfl rfl (by decide +kernel) ⟨Nat.le_of_ble_eq_true rfl, Nat.le_of_ble_eq_true rfl⟩) hP hD hS (kSub0 [24] (by decide) rfl rfl) 0 rfl rfl rfl hl.1 rfl (Nat.le_of_ble_eq_true rfl) hc1 dL_law_240 (fun H locs hP hD hS => ?_)
  have hP : va_P D vwCl (lawP cI a am ao hadH hadL (o.2.1, o.2.2.1, o.2.2.2.1, o.2.2.2.2.1, o.2.2.2.2.2.1, o.2.2.2.2.2.2.1, o.2.2.2.2.2.2.2.1, o.2.2.2.2.2.2.2.2.1, o.2.2.2.2.2.2.2.2.2.1, o.2.2.2.2.2.2.2.2.2.2.1, o.2.2.2.2.2.2.2.2.2.2.2.1, o.2.2.2.2.2.2.2.2.2.2.2.2.1, o.2.2.2.2.2.2.2.2.2.2.2.2.2.1) t sg len o.2.2.2.2.2.2.2.2.2.2.2.2.2.2.1 hnx o.2.2.2.2.2.2.2.2.2.2.2.2.2.2.2.1 o.2.2.2.2.2.2.2.2.2.2.2.2.2.2.2.2 o'.2.1 msize o'.2.2.1 o'.2.2.2.1 o'.2.2.2.2.1 mtext o'.2.2.2.2.2.1 o'.2.2.2.2.2.2.1 mdiary mkept o'.2.2.2.2.2.2.2.1 o'.2.2.2.2.2.2.2.2.1 o'.2.2.2.2.2.2.2.2.2 ++ (famW cI 14 hadH hs ++ famW cI 2 hadL gs)) H := hP
  have hD : va_D A (lawP cI a am ao hadH hadL (o.2.1, o.2.2.1, o.2.2.2.1, o.2.2.2.2.1, o.2.2.2.2.2.1, o.2.2.2.2.2.2.1, o.2.2.2.2.2.2.2.1, o.2.2.2.2.2.2.2.2.1, o.2.2.2.2.2.2.2.2.2.1, o.2.2.2.2.2.2.2.2.2.2.1, o.2.2.2.2.2.2.2.2.2.2.2.1, o.2.2.2.2.2.2.2.2.2.2.2.2.1, o.2.2.2.2.2.2.2.2.2.2.2.2.2.1) t sg len o.2.2.2.2.2.2.2.2.2.2.2.2.2.2.1 hnx o.2.2.2.2.2.2.2.2.2.2.2.2.2.2.2.1 o.2.2.2.2.2.2.2.2.2.2.2.2.2.2.2.2 o'.2.1 msize o'.2.2.1 o'.2.2.2.1 o'.2.2.2.2.1 mtext o'.2.2.2.2.2.1 o'.2.2.2.2.2.2.1 mdiary mkept o'.2.2.2.2.2.2.2.1 o'.2.2.2.2.2.2.2.2.1 o'.2.2.2.2.2.2.2.2.2 ++ (famW cI 14 hadH hs ++ famW cI 2 hadL gs)) := hD
  refine lv_iload hx hb dL_law_243 (lv_at hl 1 rfl) ?_
  refine lv_icmp_eq (tgt := 250) hx hb dL_law_245 (by decide) (fun _ => ?_) (fun c9 => absurd e1 c9)
  refine lv_iload hx hb dL_law_250 (lv_at hl 1 rfl) ?_
  have tl : W p l e room_1 s m args below meth c H locs (cells + 1) (slots + 6) Q (F0 m 267 ls []) := by
    refine lv_goto (tgt := 1417) hx hb dL_law_267 (by decide) ?_
    exact kk _ _ _ hP hD hS (lv_sub hl [2, 3, 4, 5, 6] rfl)
  refine lv_if_ne (tgt := 267) hx hb dL_law_252 (by decide) (fun _ => tl) (fun c9 => ?_)
  refine lv_aload_n hx hb dL_law_255 rfl (lv_at hl 5 rfl) ?_
  refine lv_iconst (v := 0) hx hb dL_law_256 (by decide) ?_
  refine k_lald (j := 0) hx hb hK.1 hP 33 3 rfl rfl (by decide) (by decide) dL_law_257 ?_
  refine lv_iload hx hb dL_law_258 (lv_at hl 0 rfl) ?_
  refine lv_i2l (v := (o'.1).toInt64) hx hb dL_law_260 rfl ?_
  refine W.lcmp hx hb dL_law_261 ?_
  exact lv_if_eq (tgt := 267) hx hb dL_law_262 (by decide) (fun _ => tl) (fun c8 => absurd ((lg_cmp_eq _ _).mpr (e2 c9)) c8)
set_option maxHeartbeats 4000000 in
set_option maxRecDepth 100000 in
theorem cs_about {p : Program} {l : Launch} {e : Env} {s : State} {m : MethodId} {args : Array Value} {below : List Frame} {meth : Method} {c : Code} {cells slots : Nat} {Q : State → Prop} {D : va_G} {cI : Nat → ClassId} {A : Nat → Prop} {b L i : Nat} {xs : Nat → Int32} {a am : Nat → Nat} {ao : Nat} {hadH hadL : Nat → Nat → Nat} {n t : kSt} {hs gs : Nat → kSt} {len hsz hnx mref msize macts mspot mout : Int32} {sg lk mtext mnow mtrial mdiary mkept misk mside mwas : kF} {out : Nat → Int64}
    (C0 : LC p l s m args c D cI A b L xs) (hcs : cells + 1 ≤ 601024 ∧ slots + 6 ≤ 7293034) (hi : i + 5 ≤ L) {o : (Int32 × (Nat → Int64))} (ho : fn_L_about n.1 n.2.1 n.2.2.1 n.2.2.2.1 n.2.2.2.2.2.2.1 n.2.2.2.2.2.2.2.2.1 n.2.2.2.2.2.2.2.2.2.1 n.2.2.2.2.2.2.2.2.2.2.1 n.2.2.2.2.2.2.2.2.2.2.2.1 out (xs (i + 1)) = some o) {o' : (Int32 × Int32)} (ho' : fn_X8_about mref mnow (xs (i + 1)) = some o') (e1 : o'.2 = o.1) (e2 : o.1 = 0 → (o.2 0) = (o'.1).toInt64)
    {H : Heap} {locs : List Loc} {ls : Array Slot} (hP : va_P D vwCl (lawP cI a am ao hadH hadL n t sg len hsz hnx lk out mref msize macts mspot mout mtext mnow mtrial mdiary mkept misk mside mwas ++ (famW cI 14 hadH hs ++ famW cI 2 hadL gs)) H) (hD : va_D A (lawP cI a am ao hadH hadL n t sg len hsz hnx lk out mref msize macts mspot mout mtext mnow mtrial mdiary mkept misk mside mwas ++ (famW cI 14 hadH hs ++ famW cI 2 hadL gs))) (hS : va_S A s.heap H locs) (hl : lv_has ls 7 (lawL a am ao b i))
    (kk : ∀ (H : Heap) (locs : List Loc) (ls : Array Slot), va_P D vwCl (lawP cI a am ao hadH hadL n t sg len hsz hnx lk o.2 o'.2 msize macts mspot mout mtext mnow mtrial mdiary mkept misk mside mwas ++ (famW cI 14 hadH hs ++ famW cI 2 hadL gs)) H → va_D A (lawP cI a am ao hadH hadL n t sg len hsz hnx lk o.2 o'.2 msize macts mspot mout mtext mnow mtrial mdiary mkept misk mside mwas ++ (famW cI 14 hadH hs ++ famW cI 2 hadL gs)) → va_S A s.heap H locs → lv_has ls 7 (lawL a am ao b i) → W p l e room_1 s m args below meth c H locs (cells + 1) (slots + 6) Q (F0 m 1417 ls [])) :
    W p l e room_1 s m args below meth c H locs cells slots Q (F0 m 270 ls []) := by
  obtain ⟨hF, hK, hG, hA, hX, hbl, hbA, hst, hL⟩ := C0
  obtain ⟨hx, hb, hml, hown, hts⟩ := id hF
  have hc0 : cells ≤ room_1.cells ∧ slots ≤ room_1.slots := ⟨by show cells ≤ 601024; omega, by show slots ≤ 7293034; omega⟩
  have hc1 : cells + 1 ≤ room_1.cells ∧ slots + 6 ≤ room_1.slots := hcs
  refine lv_aload_n hx hb dL_law_270 rfl (lv_at hl 1 rfl) ?_
  refine lv_aload_n hx hb dL_law_271 rfl (lv_at hl 0 rfl) ?_
  refine lv_iload hx hb dL_law_272 (lv_at hl 4 rfl) ?_
  refine lv_iconst (v := 1) hx hb dL_law_274 (by decide) ?_
  refine lv_iadd hx hb dL_law_275 ?_
  refine k_sld (j := i + 1) hx hb hX hbl hbA hS (nI_add i 1) (by omega) (by omega) dL_law_276 ?_
  refine lv_aload_n hx hb dL_law_277 rfl (lv_at hl 3 rfl) ?_
  refine kw_Si (av := [.ref (a 0), .int (xs (i + 1)), .ref ao]) (rest := []) hF hK hG hA (mk_L_about l hst D cI (a 0) (a 1) (a 3) (a 11) (a 19) (a 21) (a 4) (a 7) (a 10) (a 5) (a 6) (a 8) (a 9) ao H.size n.1 n.2.1 n.2.2.1 n.2.2.2.1 n.2.2.2.2.1 n.2.2.2.2.2.1 n.2.2.2.2.2.2.1 n.2.2.2.2.2.2.2.2.1 n.2.2.2.2.2.2.2.2.2.1 n.2.2.2.2.2.2.2.2.2.2.1 n.2.2.2.2.2.2.2.2.2.2.2.1 out (xs (i + 1)) o ho) (vx_cwSW 3 hts gL_law_L_about rfl rfl rfl (by decide +kernel) ⟨Nat.le_of_ble_eq_true rfl, Nat.le_of_ble_eq_true rfl⟩) hP hD hS (kSub0 [0, 3, 4, 5, 7, 8, 9, 33] (by decide) rfl rfl) rfl hl.1 rfl (Nat.le_of_ble_eq_true rfl) hcs dL_law_278 (fun H locs hP hD hS => ?_)
  have hP : va_P D vwCl (lawP cI a am ao hadH hadL n t sg len hsz hnx lk o.2 mref msize macts mspot mout mtext mnow mtrial mdiary mkept misk mside mwas ++ (famW cI 14 hadH hs ++ famW cI 2 hadL gs)) H := hP
  have hD : va_D A (lawP cI a am ao hadH hadL n t sg len hsz hnx lk o.2 mref msize macts mspot mout mtext mnow mtrial mdiary mkept misk mside mwas ++ (famW cI 14 hadH hs ++ famW cI 2 hadL gs)) := hD
  refine lv_istore (lv' := [(5, .int o.1), (0, .ref b), (1, .ref (a 0)), (2, .ref (am 0)), (3, .ref ao), (4, .int (nI i))]) hx hb dL_law_281 hl (by decide) rfl (fun ls hl => ?_)
  refine lv_aload_n hx hb dL_law_283 rfl (lv_at hl 3 rfl) ?_
  refine lv_aload_n hx hb dL_law_284 rfl (lv_at hl 1 rfl) ?_
  refine lv_iload hx hb dL_law_285 (lv_at hl 5 rfl) ?_
  refine lv_iconst (v := 1) hx hb dL_law_287 (by decide) ?_
  refine lv_iadd hx hb dL_law_288 ?_
  refine k_sld (j := i + 1) hx hb hX hbl hbA hS (nI_add i 1) (by omega) (by omega) dL_law_289 ?_
  refine kd_Vi (av := [.int (xs (i + 1))]) (rest := []) hF hK hG hA (mk_X8_about l D cI (am 0) (am 1) (am 2) (am 3) (am 4) (am 5) (am 6) (am 7) (am 8) H.size mref msize macts mspot mout mnow (xs (i + 1)) o' ho') (cwV 1 hts gL_law_X8_about rfl rfl rfl (by decide +kernel) ⟨Nat.le_of_ble_eq_true rfl, Nat.le_of_ble_eq_true rfl⟩) hP hD hS (kSub0 [24, 26] (by decide) rfl rfl) 0 rfl rfl rfl hl.1 rfl (Nat.le_of_ble_eq_true rfl) hc1 dL_law_290 (fun H locs hP hD hS => ?_)
  have hP : va_P D vwCl (lawP cI a am ao hadH hadL n t sg len hsz hnx lk o.2 o'.2 msize macts mspot mout mtext mnow mtrial mdiary mkept misk mside mwas ++ (famW cI 14 hadH hs ++ famW cI 2 hadL gs)) H := hP
  have hD : va_D A (lawP cI a am ao hadH hadL n t sg len hsz hnx lk o.2 o'.2 msize macts mspot mout mtext mnow mtrial mdiary mkept misk mside mwas ++ (famW cI 14 hadH hs ++ famW cI 2 hadL gs)) := hD
  refine lv_istore (lv' := [(6, .int o'.1), (5, .int o.1), (0, .ref b), (1, .ref (a 0)), (2, .ref (am 0)), (3, .ref ao), (4, .int (nI i))]) hx hb dL_law_293 hl (by decide) rfl (fun ls hl => ?_)
  refine lv_aload_n hx hb dL_law_295 rfl (lv_at hl 4 rfl) ?_
  refine kd_Vi (av := []) (rest := []) hF hK hG hA (mk_X8_thrown l D cI (am 0) (am 1) (am 2) (am 3) (am 4) (am 5) (am 6) (am 7) (am 8) H.size o'.2 msize macts mspot mout _ rfl) (cwV 0 hts gL_law_X8_thrown rfl rfl rfl (by decide +kernel) ⟨Nat.le_of_ble_eq_true rfl, Nat.le_of_ble_eq_true rfl⟩) hP hD hS (kSub0 [24] (by decide) rfl rfl) 0 rfl rfl rfl hl.1 rfl (Nat.le_of_ble_eq_true rfl) hc1 dL_law_296 (fun H locs hP hD hS => ?_)
  have hP : va_P D vwCl (lawP cI a am ao hadH hadL n t sg len hsz hnx lk o.2 o'.2 msize macts mspot mout mtext mnow mtrial mdiary mkept misk mside mwas ++ (famW cI 14 hadH hs ++ famW cI 2 hadL gs)) H := hP
  have hD : va_D A (lawP cI a am ao hadH hadL n t sg len hsz hnx lk o.2 o'.2 msize macts mspot mout mtext mnow mtrial mdiary mkept misk mside mwas ++ (famW cI 14 hadH hs ++ famW cI 2 hadL gs)) := hD
  refine lv_iload hx hb dL_law_299 (lv_at hl 1 rfl) ?_
  refine lv_icmp_eq (tgt := 306) hx hb dL_law_301 (by decide) (fun _ => ?_) (fun c9 => absurd e1 c9)
  refine lv_iload hx hb dL_law_306 (lv_at hl 1 rfl) ?_
  have tl : W p l e room_1 s m args below meth c H locs (cells + 1) (slots + 6) Q (F0 m 323 ls []) := by
    refine lv_goto (tgt := 1417) hx hb dL_law_323 (by decide) ?_
    exact kk _ _ _ hP hD hS (lv_sub hl [2, 3, 4, 5, 6] rfl)
  refine lv_if_ne (tgt := 323) hx hb dL_law_308 (by decide) (fun _ => tl) (fun c9 => ?_)
  refine lv_aload_n hx hb dL_law_311 rfl (lv_at hl 5 rfl) ?_
  refine lv_iconst (v := 0) hx hb dL_law_312 (by decide) ?_
  refine k_lald (j := 0) hx hb hK.1 hP 33 3 rfl rfl (by decide) (by decide) dL_law_313 ?_
  refine lv_iload hx hb dL_law_314 (lv_at hl 0 rfl) ?_
  refine lv_i2l (v := (o'.1).toInt64) hx hb dL_law_316 rfl ?_
  refine W.lcmp hx hb dL_law_317 ?_
  exact lv_if_eq (tgt := 323) hx hb dL_law_318 (by decide) (fun _ => tl) (fun c8 => absurd ((lg_cmp_eq _ _).mpr (e2 c9)) c8)
set_option maxHeartbeats 4000000 in
set_option maxRecDepth 100000 in
theorem cs_pin {p : Program} {l : Launch} {e : Env} {s : State} {m : MethodId} {args : Array Value} {below : List Frame} {meth : Method} {c : Code} {cells slots : Nat} {Q : State → Prop} {D : va_G} {cI : Nat → ClassId} {A : Nat → Prop} {b L i : Nat} {xs : Nat → Int32} {a am : Nat → Nat} {ao : Nat} {hadH hadL : Nat → Nat → Nat} {n t : kSt} {hs gs : Nat → kSt} {len hsz hnx mref msize macts mspot mout : Int32} {sg lk mtext mnow mtrial mdiary mkept misk mside mwas : kF} {out : Nat → Int64}
    (C0 : LC p l s m args c D cI A b L xs) (hcs : cells + 1 ≤ 601024 ∧ slots + 6 ≤ 7293034) (hi : i + 5 ≤ L) {o : (Int32 × (Nat → Int64))} (ho : fn_L_pin n.2.2.2.1 n.2.2.2.2.2.2.1 n.2.2.2.2.2.2.2.1 out (xs (i + 1)) (xs (i + 2)) = some o) {o' : (Int32 × Int32)} (ho' : fn_X8_pin mref mnow (xs (i + 1)) (xs (i + 2)) = some o') (e1 : o'.2 = o.1) (e2 : o.1 = 0 → (o.2 0) = (o'.1).toInt64)
    {H : Heap} {locs : List Loc} {ls : Array Slot} (hP : va_P D vwCl (lawP cI a am ao hadH hadL n t sg len hsz hnx lk out mref msize macts mspot mout mtext mnow mtrial mdiary mkept misk mside mwas ++ (famW cI 14 hadH hs ++ famW cI 2 hadL gs)) H) (hD : va_D A (lawP cI a am ao hadH hadL n t sg len hsz hnx lk out mref msize macts mspot mout mtext mnow mtrial mdiary mkept misk mside mwas ++ (famW cI 14 hadH hs ++ famW cI 2 hadL gs))) (hS : va_S A s.heap H locs) (hl : lv_has ls 7 (lawL a am ao b i))
    (kk : ∀ (H : Heap) (locs : List Loc) (ls : Array Slot), va_P D vwCl (lawP cI a am ao hadH hadL n t sg len hsz hnx lk o.2 o'.2 msize macts mspot mout mtext mnow mtrial mdiary mkept misk mside mwas ++ (famW cI 14 hadH hs ++ famW cI 2 hadL gs)) H → va_D A (lawP cI a am ao hadH hadL n t sg len hsz hnx lk o.2 o'.2 msize macts mspot mout mtext mnow mtrial mdiary mkept misk mside mwas ++ (famW cI 14 hadH hs ++ famW cI 2 hadL gs)) → va_S A s.heap H locs → lv_has ls 7 (lawL a am ao b i) → W p l e room_1 s m args below meth c H locs (cells + 1) (slots + 6) Q (F0 m 1417 ls [])) :
    W p l e room_1 s m args below meth c H locs cells slots Q (F0 m 326 ls []) := by
  obtain ⟨hF, hK, hG, hA, hX, hbl, hbA, hst, hL⟩ := C0
  obtain ⟨hx, hb, hml, hown, hts⟩ := id hF
  have hc0 : cells ≤ room_1.cells ∧ slots ≤ room_1.slots := ⟨by show cells ≤ 601024; omega, by show slots ≤ 7293034; omega⟩
  have hc1 : cells + 1 ≤ room_1.cells ∧ slots + 6 ≤ room_1.slots := hcs
  refine lv_aload_n hx hb dL_law_326 rfl (lv_at hl 1 rfl) ?_
  refine lv_aload_n hx hb dL_law_327 rfl (lv_at hl 0 rfl) ?_
  refine lv_iload hx hb dL_law_328 (lv_at hl 4 rfl) ?_
  refine lv_iconst (v := 1) hx hb dL_law_330 (by decide) ?_
  refine lv_iadd hx hb dL_law_331 ?_
  refine k_sld (j := i + 1) hx hb hX hbl hbA hS (nI_add i 1) (by omega) (by omega) dL_law_332 ?_
  refine lv_aload_n hx hb dL_law_333 rfl (lv_at hl 0 rfl) ?_
  refine lv_iload hx hb dL_law_334 (lv_at hl 4 rfl) ?_
  refine lv_iconst (v := 2) hx hb dL_law_336 (by decide) ?_
  refine lv_iadd hx hb dL_law_337 ?_
  refine k_sld (j := i + 2) hx hb hX hbl hbA hS (nI_add i 2) (by omega) (by omega) dL_law_338 ?_
  refine lv_aload_n hx hb dL_law_339 rfl (lv_at hl 3 rfl) ?_
  refine kw_Si (av := [.ref (a 0), .int (xs (i + 1)), .int (xs (i + 2)), .ref ao]) (rest := []) hF hK hG hA (mk_L_pin l hst D cI (a 0) (a 1) (a 3) (a 11) (a 19) (a 21) (a 4) (a 7) (a 10) (a 5) (a 6) ao H.size n.1 n.2.1 n.2.2.1 n.2.2.2.1 n.2.2.2.2.1 n.2.2.2.2.2.1 n.2.2.2.2.2.2.1 n.2.2.2.2.2.2.2.1 out (xs (i + 1)) (xs (i + 2)) o ho) (vx_cwSW 4 hts gL_law_L_pin rfl rfl rfl (by decide +kernel) ⟨Nat.le_of_ble_eq_true rfl, Nat.le_of_ble_eq_true rfl⟩) hP hD hS (kSub0 [0, 3, 4, 5, 6, 33] (by decide) rfl rfl) rfl hl.1 rfl (Nat.le_of_ble_eq_true rfl) hcs dL_law_340 (fun H locs hP hD hS => ?_)
  have hP : va_P D vwCl (lawP cI a am ao hadH hadL n t sg len hsz hnx lk o.2 mref msize macts mspot mout mtext mnow mtrial mdiary mkept misk mside mwas ++ (famW cI 14 hadH hs ++ famW cI 2 hadL gs)) H := hP
  have hD : va_D A (lawP cI a am ao hadH hadL n t sg len hsz hnx lk o.2 mref msize macts mspot mout mtext mnow mtrial mdiary mkept misk mside mwas ++ (famW cI 14 hadH hs ++ famW cI 2 hadL gs)) := hD
  refine lv_istore (lv' := [(5, .int o.1), (0, .ref b), (1, .ref (a 0)), (2, .ref (am 0)), (3, .ref ao), (4, .int (nI i))]) hx hb dL_law_343 hl (by decide) rfl (fun ls hl => ?_)
  refine lv_aload_n hx hb dL_law_345 rfl (lv_at hl 3 rfl) ?_
  refine lv_aload_n hx hb dL_law_346 rfl (lv_at hl 1 rfl) ?_
  refine lv_iload hx hb dL_law_347 (lv_at hl 5 rfl) ?_
  refine lv_iconst (v := 1) hx hb dL_law_349 (by decide) ?_
  refine lv_iadd hx hb dL_law_350 ?_
  refine k_sld (j := i + 1) hx hb hX hbl hbA hS (nI_add i 1) (by omega) (by omega) dL_law_351 ?_
  refine lv_aload_n hx hb dL_law_352 rfl (lv_at hl 1 rfl) ?_
  refine lv_iload hx hb dL_law_353 (lv_at hl 5 rfl) ?_
  refine lv_iconst (v := 2) hx hb dL_law_355 (by decide) ?_
  refine lv_iadd hx hb dL_law_356 ?_
  refine k_sld (j := i + 2) hx hb hX hbl hbA hS (nI_add i 2) (by omega) (by omega) dL_law_357 ?_
  refine kd_Vi (av := [.int (xs (i + 1)), .int (xs (i + 2))]) (rest := []) hF hK hG hA (mk_X8_pin l D cI (am 0) (am 1) (am 2) (am 3) (am 4) (am 5) (am 6) (am 7) (am 8) H.size mref msize macts mspot mout mnow (xs (i + 1)) (xs (i + 2)) o' ho') (cwV 2 hts gL_law_X8_pin rfl rfl rfl (by decide +kernel) ⟨Nat.le_of_ble_eq_true rfl, Nat.le_of_ble_eq_true rfl⟩) hP hD hS (kSub0 [24, 26] (by decide) rfl rfl) 0 rfl rfl rfl hl.1 rfl (Nat.le_of_ble_eq_true rfl) hc1 dL_law_358 (fun H locs hP hD hS => ?_)
  have hP : va_P D vwCl (lawP cI a am ao hadH hadL n t sg len hsz hnx lk o.2 o'.2 msize macts mspot mout mtext mnow mtrial mdiary mkept misk mside mwas ++ (famW cI 14 hadH hs ++ famW cI 2 hadL gs)) H := hP
  have hD : va_D A (lawP cI a am ao hadH hadL n t sg len hsz hnx lk o.2 o'.2 msize macts mspot mout mtext mnow mtrial mdiary mkept misk mside mwas ++ (famW cI 14 hadH hs ++ famW cI 2 hadL gs)) := hD
  refine lv_istore (lv' := [(6, .int o'.1), (5, .int o.1), (0, .ref b), (1, .ref (a 0)), (2, .ref (am 0)), (3, .ref ao), (4, .int (nI i))]) hx hb dL_law_361 hl (by decide) rfl (fun ls hl => ?_)
  refine lv_aload_n hx hb dL_law_363 rfl (lv_at hl 4 rfl) ?_
  refine kd_Vi (av := []) (rest := []) hF hK hG hA (mk_X8_thrown l D cI (am 0) (am 1) (am 2) (am 3) (am 4) (am 5) (am 6) (am 7) (am 8) H.size o'.2 msize macts mspot mout _ rfl) (cwV 0 hts gL_law_X8_thrown rfl rfl rfl (by decide +kernel) ⟨Nat.le_of_ble_eq_true rfl, Nat.le_of_ble_eq_true rfl⟩) hP hD hS (kSub0 [24] (by decide) rfl rfl) 0 rfl rfl rfl hl.1 rfl (Nat.le_of_ble_eq_true rfl) hc1 dL_law_364 (fun H locs hP hD hS => ?_)
  have hP : va_P D vwCl (lawP cI a am ao hadH hadL n t sg len hsz hnx lk o.2 o'.2 msize macts mspot mout mtext mnow mtrial mdiary mkept misk mside mwas ++ (famW cI 14 hadH hs ++ famW cI 2 hadL gs)) H := hP
  have hD : va_D A (lawP cI a am ao hadH hadL n t sg len hsz hnx lk o.2 o'.2 msize macts mspot mout mtext mnow mtrial mdiary mkept misk mside mwas ++ (famW cI 14 hadH hs ++ famW cI 2 hadL gs)) := hD
  refine lv_iload hx hb dL_law_367 (lv_at hl 1 rfl) ?_
  refine lv_icmp_eq (tgt := 374) hx hb dL_law_369 (by decide) (fun _ => ?_) (fun c9 => absurd e1 c9)
  refine lv_iload hx hb dL_law_374 (lv_at hl 1 rfl) ?_
  have tl : W p l e room_1 s m args below meth c H locs (cells + 1) (slots + 6) Q (F0 m 391 ls []) := by
    refine lv_goto (tgt := 1417) hx hb dL_law_391 (by decide) ?_
    exact kk _ _ _ hP hD hS (lv_sub hl [2, 3, 4, 5, 6] rfl)
  refine lv_if_ne (tgt := 391) hx hb dL_law_376 (by decide) (fun _ => tl) (fun c9 => ?_)
  refine lv_aload_n hx hb dL_law_379 rfl (lv_at hl 5 rfl) ?_
  refine lv_iconst (v := 0) hx hb dL_law_380 (by decide) ?_
  refine k_lald (j := 0) hx hb hK.1 hP 33 3 rfl rfl (by decide) (by decide) dL_law_381 ?_
  refine lv_iload hx hb dL_law_382 (lv_at hl 0 rfl) ?_
  refine lv_i2l (v := (o'.1).toInt64) hx hb dL_law_384 rfl ?_
  refine W.lcmp hx hb dL_law_385 ?_
  exact lv_if_eq (tgt := 391) hx hb dL_law_386 (by decide) (fun _ => tl) (fun c8 => absurd ((lg_cmp_eq _ _).mpr (e2 c9)) c8)
