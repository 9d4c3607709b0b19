/-! the law's loop (written by wip/whole/gen/gen_start.py) -/
theorem k_sub5 {L : Nat} (h : L ≤ 2560) : (nI L - 5).toInt = (L : Int) - 5 := by
  rw [Int32.toInt_sub, nI_toInt (by omega), show (5 : Int32).toInt = 5 from by decide, Int.bmod_def]
  omega
theorem k_hd {L i : Nat} (h : L ≤ 2560) (hi : i ≤ 2560) : (nI L - 5 < nI i) ↔ ¬ (i + 5 ≤ L) := by
  rw [Int32.lt_iff_toInt_lt, k_sub5 h, nI_toInt (show i < 2 ^ 31 by omega)]
  omega
set_option maxHeartbeats 4000000 in
set_option maxRecDepth 100000 in
theorem law_loop {p : Program} {l : Launch} {e : Env} {s : State} {m : MethodId} {args : Array Value} {below : List Frame} {meth : Method} {c : Code} {Q : State → Prop} {D : va_G} {cI : Nat → ClassId} {A : Nat → Prop} {b L : Nat} {xs : Nat → Int32} {a am : Nat → Nat} {ao : Nat} {hadH hadL : Nat → Nat → Nat}
    (C0 : LC p l s m args c D cI A b L xs) (hend : ∀ (H : Heap) (locs : List Loc) (ls : Array Slot), va_S A s.heap H locs → W p l e room_1 s m args below meth c H locs 674 6080 Q (F0 m 1423 ls [])) :
    ∀ (d j i : Nat), j + d = 512 → i = 5 * j → ∀ {n t : kSt} {hs gs : Nat → kSt} {len hsz hnx mref msize macts mspot mout : Int32} {sg lk mtext mnow mtrial mdiary mkept misk mside mwas : kF} {out : Nat → Int64} (hI : LI n sg len hsz hnx hs lk gs msize macts mtext mnow mdiary mkept misk) {H : Heap} {locs : List Loc} {ls : Array Slot} (hP : va_P D vwCl (lawP cI a am ao hadH hadL n t sg len hsz hnx lk out mref msize macts mspot mout mtext mnow mtrial mdiary mkept misk mside mwas ++ (famW cI 14 hadH hs ++ famW cI 2 hadL gs)) H) (hD : va_D A (lawP cI a am ao hadH hadL n t sg len hsz hnx lk out mref msize macts mspot mout mtext mnow mtrial mdiary mkept misk mside mwas ++ (famW cI 14 hadH hs ++ famW cI 2 hadL gs))) (hS : va_S A s.heap H locs) (hl : lv_has ls 7 (lawL a am ao b i)), W p l e room_1 s m args below meth c H locs (162 + j) (3008 + 6 * j) Q (F0 m 23 ls []) := by
  obtain ⟨hF, hK, hG, hA, hX, hbl, hbA, hst, hL⟩ := id C0
  obtain ⟨hx, hb, hml, hown, hts⟩ := id hF
  intro d
  induction d with
  | zero =>
    intro j i hj hi n t hs gs len hsz hnx mref msize macts mspot mout sg lk mtext mnow mtrial mdiary mkept misk mside mwas out hI H locs ls hP hD hS hl
    refine lv_iload hx hb dL_law_23 (lv_at hl 4 rfl) ?_
    refine lv_aload_n hx hb dL_law_25 rfl (lv_at hl 0 rfl) ?_
    refine va_slen hx hb hX hbl hbA hS dL_law_26 ?_
    refine lv_iconst (v := 5) hx hb dL_law_27 (by decide) ?_
    refine lv_isub hx hb dL_law_28 ?_
    have e9 : Int32.ofNat L - (5 : Int32) = nI L - 5 := rfl
    rw [e9]
    refine lv_icmp_gt (tgt := 1423) hx hb dL_law_29 (by decide) (fun _ => ?_) (fun c9 => absurd ((k_hd hL (by omega)).mpr (by omega)) c9)
    refine W.widen (k := 674) (n := 6080) (by omega) (by omega) ?_
    exact hend _ _ _ hS
  | succ d ih =>
    intro j i hj hi n t hs gs len hsz hnx mref msize macts mspot mout sg lk mtext mnow mtrial mdiary mkept misk mside mwas out hI H locs ls hP hD hS hl
    refine lv_iload hx hb dL_law_23 (lv_at hl 4 rfl) ?_
    refine lv_aload_n hx hb dL_law_25 rfl (lv_at hl 0 rfl) ?_
    refine va_slen hx hb hX hbl hbA hS dL_law_26 ?_
    refine lv_iconst (v := 5) hx hb dL_law_27 (by decide) ?_
    refine lv_isub hx hb dL_law_28 ?_
    have e9 : Int32.ofNat L - (5 : Int32) = nI L - 5 := rfl
    rw [e9]
    refine lv_icmp_gt (tgt := 1423) hx hb dL_law_29 (by decide) (fun _ => ?_) (fun c9 => ?_)
    · refine W.widen (k := 674) (n := 6080) (by omega) (by omega) ?_
      exact hend _ _ _ hS
    have hi5 : i + 5 ≤ L := Decidable.byContradiction fun h => c9 ((k_hd hL (by omega)).mpr h)
    have hcs : (162 + j) + 1 ≤ 601024 ∧ (3008 + 6 * j) + 6 ≤ 7293034 := ⟨by omega, by omega⟩
    have back : ∀ {n t : kSt} {hs gs : Nat → kSt} {len hsz hnx mref msize macts mspot mout : Int32} {sg lk mtext mnow mtrial mdiary mkept misk mside mwas : kF} {out : Nat → Int64} (hI : LI n sg len hsz hnx hs lk gs msize macts mtext mnow mdiary mkept misk) {H : Heap} {locs : List Loc} {ls : Array Slot} (hP : va_P D vwCl (lawP cI a am ao hadH hadL n t sg len hsz hnx lk out mref msize macts mspot mout mtext mnow mtrial mdiary mkept misk mside mwas ++ (famW cI 14 hadH hs ++ famW cI 2 hadL gs)) H) (hD : va_D A (lawP cI a am ao hadH hadL n t sg len hsz hnx lk out mref msize macts mspot mout mtext mnow mtrial mdiary mkept misk mside mwas ++ (famW cI 14 hadH hs ++ famW cI 2 hadL gs))) (hS : va_S A s.heap H locs) (hl : lv_has ls 7 (lawL a am ao b i)), W p l e room_1 s m args below meth c H locs ((162 + j) + 1) ((3008 + 6 * j) + 6) Q (F0 m 1417 ls []) := by
      intro n t hs gs len hsz hnx mref msize macts mspot mout sg lk mtext mnow mtrial mdiary mkept misk mside mwas out hI H locs ls hP hD hS hl
      refine lv_iinc (v := nI (i + 5)) (lv' := [(4, .int (nI (i + 5))), (0, .ref b), (1, .ref (a 0)), (2, .ref (am 0)), (3, .ref ao)]) hx hb dL_law_1417 hl (k := 4) rfl (nI_add i 5) (by decide) rfl (fun ls hl => ?_)
      refine lv_goto (tgt := 23) hx hb dL_law_1420 (by decide) ?_
      refine W.widen (k := 162 + (j + 1)) (n := 3008 + 6 * (j + 1)) (by omega) (by omega) ?_
      exact ih (j + 1) (i + 5) (by omega) (by omega) hI hP hD hS (lv_sub hl [1, 2, 3, 4, 0] rfl)
    refine lv_aload_n hx hb dL_law_32 rfl (lv_at hl 0 rfl) ?_
    refine lv_iload hx hb dL_law_33 (lv_at hl 4 rfl) ?_
    refine k_sld (j := i) hx hb hX hbl hbA hS rfl (by omega) (by omega) dL_law_35 ?_
    refine lv_bipush (v := 31) hx hb dL_law_36 (by decide) ?_
    refine lv_iand hx hb dL_law_38 ?_
    generalize hv : xs i &&& (31 : Int32) = v
    by_cases c0 : v = 0
    · refine lv_tableIn (off := 105) (tgt := 144) hx hb dL_law_39 (by rw [c0]; decide) (by rw [c0]; decide) (by rw [c0]; decide +kernel) (by decide) ?_
      obtain ⟨o, o', ho, ho', e1, e2, hI2⟩ := gl_append (n := n) (t := t) (hs := hs) (gs := gs) (len := len) (hsz := hsz) (hnx := hnx) (mref := mref) (msize := msize) (macts := macts) (mspot := mspot) (mout := mout) (sg := sg) (lk := lk) (mtext := mtext) (mnow := mnow) (mtrial := mtrial) (mdiary := mdiary) (mkept := mkept) (misk := misk) (mside := mside) (mwas := mwas) (out := out) (x1 := xs (i + 1)) hI
      exact cs_append C0 hcs hi5 ho ho' e1 e2 hP hD hS hl (fun H locs ls hP hD hS hl => back hI2 hP hD hS hl)
    by_cases c1 : v = 1
    · refine lv_tableIn (off := 161) (tgt := 200) hx hb dL_law_39 (by rw [c1]; decide) (by rw [c1]; decide) (by rw [c1]; decide +kernel) (by decide) ?_
      obtain ⟨o, o', ho, ho', e1, hI2⟩ := gl_clearText (n := n) (t := t) (hs := hs) (gs := gs) (len := len) (hsz := hsz) (hnx := hnx) (mref := mref) (msize := msize) (macts := macts) (mspot := mspot) (mout := mout) (sg := sg) (lk := lk) (mtext := mtext) (mnow := mnow) (mtrial := mtrial) (mdiary := mdiary) (mkept := mkept) (misk := misk) (mside := mside) (mwas := mwas) (out := out)  hI
      exact cs_clearText C0 hcs hi5 ho ho' e1 hP hD hS hl (fun H locs ls hP hD hS hl => W.widen (by omega) (by omega) (back hI2 hP hD hS hl))
    by_cases c2 : v = 2
    · refine lv_tableIn (off := 174) (tgt := 213) hx hb dL_law_39 (by rw [c2]; decide) (by rw [c2]; decide) (by rw [c2]; decide +kernel) (by decide) ?_
      obtain ⟨o, o', ho, ho', e1, hI2⟩ := gl_errorPosition (n := n) (t := t) (hs := hs) (gs := gs) (len := len) (hsz := hsz) (hnx := hnx) (mref := mref) (msize := msize) (macts := macts) (mspot := mspot) (mout := mout) (sg := sg) (lk := lk) (mtext := mtext) (mnow := mnow) (mtrial := mtrial) (mdiary := mdiary) (mkept := mkept) (misk := misk) (mside := mside) (mwas := mwas) (out := out)  hI
      exact cs_errorPosition C0 hcs hi5 ho ho' e1 hP hD hS hl (fun H locs ls hP hD hS hl => W.widen (by omega) (by omega) (back hI2 hP hD hS hl))
    by_cases c3 : v = 3
    · refine lv_tableIn (off := 187) (tgt := 226) hx hb dL_law_39 (by rw [c3]; decide) (by rw [c3]; decide) (by rw [c3]; decide +kernel) (by decide) ?_
      obtain ⟨o, o', ho, ho', e1, e2, hI2⟩ := gl_load (n := n) (t := t) (hs := hs) (gs := gs) (len := len) (hsz := hsz) (hnx := hnx) (mref := mref) (msize := msize) (macts := macts) (mspot := mspot) (mout := mout) (sg := sg) (lk := lk) (mtext := mtext) (mnow := mnow) (mtrial := mtrial) (mdiary := mdiary) (mkept := mkept) (misk := misk) (mside := mside) (mwas := mwas) (out := out)  hI
      exact cs_load C0 hcs hi5 ho ho' e1 e2 hP hD hS hl (fun H locs ls hP hD hS hl => back hI2 hP hD hS hl)
    by_cases c4 : v = 4
    · refine lv_tableIn (off := 231) (tgt := 270) hx hb dL_law_39 (by rw [c4]; decide) (by rw [c4]; decide) (by rw [c4]; decide +kernel) (by decide) ?_
      obtain ⟨o, o', ho, ho', e1, e2, hI2⟩ := gl_about (n := n) (t := t) (hs := hs) (gs := gs) (len := len) (hsz := hsz) (hnx := hnx) (mref := mref) (msize := msize) (macts := macts) (mspot := mspot) (mout := mout) (sg := sg) (lk := lk) (mtext := mtext) (mnow := mnow) (mtrial := mtrial) (mdiary := mdiary) (mkept := mkept) (misk := misk) (mside := mside) (mwas := mwas) (out := out) (x1 := xs (i + 1)) hI
      exact cs_about C0 hcs hi5 ho ho' e1 e2 hP hD hS hl (fun H locs ls hP hD hS hl => back hI2 hP hD hS hl)
    by_cases c5 : v = 5
    · refine lv_tableIn (off := 287) (tgt := 326) hx hb dL_law_39 (by rw [c5]; decide) (by rw [c5]; decide) (by rw [c5]; decide +kernel) (by decide) ?_
      obtain ⟨o, o', ho, ho', e1, e2, hI2⟩ := gl_pin (n := n) (t := t) (hs := hs) (gs := gs) (len := len) (hsz := hsz) (hnx := hnx) (mref := mref) (msize := msize) (macts := macts) (mspot := mspot) (mout := mout) (sg := sg) (lk := lk) (mtext := mtext) (mnow := mnow) (mtrial := mtrial) (mdiary := mdiary) (mkept := mkept) (misk := misk) (mside := mside) (mwas := mwas) (out := out) (x1 := xs (i + 1)) (x2 := xs (i + 2)) hI
      exact cs_pin C0 hcs hi5 ho ho' e1 e2 hP hD hS hl (fun H locs ls hP hD hS hl => back hI2 hP hD hS hl)
    by_cases c6 : v = 6
    · refine lv_tableIn (off := 355) (tgt := 394) hx hb dL_law_39 (by rw [c6]; decide) (by rw [c6]; decide) (by rw [c6]; decide +kernel) (by decide) ?_
      obtain ⟨o, o', ho, ho', e1, e2, hI2⟩ := gl_frame (n := n) (t := t) (hs := hs) (gs := gs) (len := len) (hsz := hsz) (hnx := hnx) (mref := mref) (msize := msize) (macts := macts) (mspot := mspot) (mout := mout) (sg := sg) (lk := lk) (mtext := mtext) (mnow := mnow) (mtrial := mtrial) (mdiary := mdiary) (mkept := mkept) (misk := misk) (mside := mside) (mwas := mwas) (out := out) (x1 := xs (i + 1)) (x2 := xs (i + 2)) hI
      exact cs_frame C0 hcs hi5 ho ho' e1 e2 hP hD hS hl (fun H locs ls hP hD hS hl => back hI2 hP hD hS hl)
    by_cases c7 : v = 7
    · refine lv_tableIn (off := 423) (tgt := 462) hx hb dL_law_39 (by rw [c7]; decide) (by rw [c7]; decide) (by rw [c7]; decide +kernel) (by decide) ?_
      obtain ⟨o, o', ho, ho', e1, e2, hI2⟩ := gl_taken (n := n) (t := t) (hs := hs) (gs := gs) (len := len) (hsz := hsz) (hnx := hnx) (mref := mref) (msize := msize) (macts := macts) (mspot := mspot) (mout := mout) (sg := sg) (lk := lk) (mtext := mtext) (mnow := mnow) (mtrial := mtrial) (mdiary := mdiary) (mkept := mkept) (misk := misk) (mside := mside) (mwas := mwas) (out := out) (x1 := xs (i + 1)) hI
      exact cs_taken C0 hcs hi5 ho ho' e1 e2 hP hD hS hl (fun H locs ls hP hD hS hl => back hI2 hP hD hS hl)
    by_cases c8 : v = 8
    · refine lv_tableIn (off := 479) (tgt := 518) hx hb dL_law_39 (by rw [c8]; decide) (by rw [c8]; decide) (by rw [c8]; decide +kernel) (by decide) ?_
      obtain ⟨o, o', ho, ho', e1, e2, hI2⟩ := gl_setting (n := n) (t := t) (hs := hs) (gs := gs) (len := len) (hsz := hsz) (hnx := hnx) (mref := mref) (msize := msize) (macts := macts) (mspot := mspot) (mout := mout) (sg := sg) (lk := lk) (mtext := mtext) (mnow := mnow) (mtrial := mtrial) (mdiary := mdiary) (mkept := mkept) (misk := misk) (mside := mside) (mwas := mwas) (out := out) (x1 := xs (i + 1)) hI
      exact cs_setting C0 hcs hi5 ho ho' e1 e2 hP hD hS hl (fun H locs ls hP hD hS hl => back hI2 hP hD hS hl)
    by_cases c9 : v = 9
    · refine lv_tableIn (off := 535) (tgt := 574) hx hb dL_law_39 (by rw [c9]; decide) (by rw [c9]; decide) (by rw [c9]; decide +kernel) (by decide) ?_
      obtain ⟨o, o', ho, ho', e1, hI2⟩ := gl_begin (n := n) (t := t) (hs := hs) (gs := gs) (len := len) (hsz := hsz) (hnx := hnx) (mref := mref) (msize := msize) (macts := macts) (mspot := mspot) (mout := mout) (sg := sg) (lk := lk) (mtext := mtext) (mnow := mnow) (mtrial := mtrial) (mdiary := mdiary) (mkept := mkept) (misk := misk) (mside := mside) (mwas := mwas) (out := out)  hI
      exact cs_begin C0 hcs hi5 ho ho' e1 hP hD hS hl (fun H locs ls hP hD hS hl => W.widen (by omega) (by omega) (back hI2 hP hD hS hl))
    by_cases c10 : v = 10
    · refine lv_tableIn (off := 548) (tgt := 587) hx hb dL_law_39 (by rw [c10]; decide) (by rw [c10]; decide) (by rw [c10]; decide +kernel) (by decide) ?_
      obtain ⟨o, o', ho, ho', e1, e2, hI2⟩ := gl_roll (n := n) (t := t) (hs := hs) (gs := gs) (len := len) (hsz := hsz) (hnx := hnx) (mref := mref) (msize := msize) (macts := macts) (mspot := mspot) (mout := mout) (sg := sg) (lk := lk) (mtext := mtext) (mnow := mnow) (mtrial := mtrial) (mdiary := mdiary) (mkept := mkept) (misk := misk) (mside := mside) (mwas := mwas) (out := out) (x1 := xs (i + 1)) (x2 := xs (i + 2)) (x3 := xs (i + 3)) (x4 := (if xs (i + 4) = 0 then 0 else 1)) hI
      exact cs_roll C0 hcs hi5 ho ho' e1 e2 hP hD hS hl (fun H locs ls hP hD hS hl => back hI2 hP hD hS hl)
    by_cases c11 : v = 11
    · refine lv_tableIn (off := 656) (tgt := 695) hx hb dL_law_39 (by rw [c11]; decide) (by rw [c11]; decide) (by rw [c11]; decide +kernel) (by decide) ?_
      obtain ⟨o, o', ho, ho', e1, e2, hI2⟩ := gl_touch (n := n) (t := t) (hs := hs) (gs := gs) (len := len) (hsz := hsz) (hnx := hnx) (mref := mref) (msize := msize) (macts := macts) (mspot := mspot) (mout := mout) (sg := sg) (lk := lk) (mtext := mtext) (mnow := mnow) (mtrial := mtrial) (mdiary := mdiary) (mkept := mkept) (misk := misk) (mside := mside) (mwas := mwas) (out := out) (x1 := xs (i + 1)) (x2 := xs (i + 2)) hI
      exact cs_touch C0 hcs hi5 ho ho' e1 e2 hP hD hS hl (fun H locs ls hP hD hS hl => back hI2 hP hD hS hl)
    by_cases c12 : v = 12
    · refine lv_tableIn (off := 724) (tgt := 763) hx hb dL_law_39 (by rw [c12]; decide) (by rw [c12]; decide) (by rw [c12]; decide +kernel) (by decide) ?_
      obtain ⟨o, o', ho, ho', e1, e2, hI2⟩ := gl_set (n := n) (t := t) (hs := hs) (gs := gs) (len := len) (hsz := hsz) (hnx := hnx) (mref := mref) (msize := msize) (macts := macts) (mspot := mspot) (mout := mout) (sg := sg) (lk := lk) (mtext := mtext) (mnow := mnow) (mtrial := mtrial) (mdiary := mdiary) (mkept := mkept) (misk := misk) (mside := mside) (mwas := mwas) (out := out) (x1 := xs (i + 1)) (x2 := xs (i + 2)) hI
      exact cs_set C0 hcs hi5 ho ho' e1 e2 hP hD hS hl (fun H locs ls hP hD hS hl => back hI2 hP hD hS hl)
    by_cases c13 : v = 13
    · refine lv_tableIn (off := 792) (tgt := 831) hx hb dL_law_39 (by rw [c13]; decide) (by rw [c13]; decide) (by rw [c13]; decide +kernel) (by decide) ?_
      obtain ⟨o, o', ho, ho', e1, e2, hI2⟩ := gl_undo (n := n) (t := t) (hs := hs) (gs := gs) (len := len) (hsz := hsz) (hnx := hnx) (mref := mref) (msize := msize) (macts := macts) (mspot := mspot) (mout := mout) (sg := sg) (lk := lk) (mtext := mtext) (mnow := mnow) (mtrial := mtrial) (mdiary := mdiary) (mkept := mkept) (misk := misk) (mside := mside) (mwas := mwas) (out := out)  hI
      exact cs_undo C0 hcs hi5 ho ho' e1 e2 hP hD hS hl (fun H locs ls hP hD hS hl => back hI2 hP hD hS hl)
    by_cases c14 : v = 14
    · refine lv_tableIn (off := 836) (tgt := 875) hx hb dL_law_39 (by rw [c14]; decide) (by rw [c14]; decide) (by rw [c14]; decide +kernel) (by decide) ?_
      obtain ⟨o, o', ho, ho', e1, e2, hI2⟩ := gl_would (n := n) (t := t) (hs := hs) (gs := gs) (len := len) (hsz := hsz) (hnx := hnx) (mref := mref) (msize := msize) (macts := macts) (mspot := mspot) (mout := mout) (sg := sg) (lk := lk) (mtext := mtext) (mnow := mnow) (mtrial := mtrial) (mdiary := mdiary) (mkept := mkept) (misk := misk) (mside := mside) (mwas := mwas) (out := out) (x1 := xs (i + 1)) (x2 := xs (i + 2)) (x3 := xs (i + 3)) hI
      exact cs_would C0 hcs hi5 ho ho' e1 e2 hP hD hS hl (fun H locs ls hP hD hS hl => back hI2 hP hD hS hl)
    by_cases c15 : v = 15
    · refine lv_tableIn (off := 916) (tgt := 955) hx hb dL_law_39 (by rw [c15]; decide) (by rw [c15]; decide) (by rw [c15]; decide +kernel) (by decide) ?_
      obtain ⟨o, o', ho, ho', e1, e2, hI2⟩ := gl_bestBoard (n := n) (t := t) (hs := hs) (gs := gs) (len := len) (hsz := hsz) (hnx := hnx) (mref := mref) (msize := msize) (macts := macts) (mspot := mspot) (mout := mout) (sg := sg) (lk := lk) (mtext := mtext) (mnow := mnow) (mtrial := mtrial) (mdiary := mdiary) (mkept := mkept) (misk := misk) (mside := mside) (mwas := mwas) (out := out) (x1 := xs (i + 1)) hI
      exact cs_bestBoard C0 hcs hi5 ho ho' e1 e2 hP hD hS hl (fun H locs ls hP hD hS hl => back hI2 hP hD hS hl)
    by_cases c16 : v = 16
    · refine lv_tableIn (off := 972) (tgt := 1011) hx hb dL_law_39 (by rw [c16]; decide) (by rw [c16]; decide) (by rw [c16]; decide +kernel) (by decide) ?_
      obtain ⟨o, o', ho, ho', e1, hI2⟩ := gl_slowest (n := n) (t := t) (hs := hs) (gs := gs) (len := len) (hsz := hsz) (hnx := hnx) (mref := mref) (msize := msize) (macts := macts) (mspot := mspot) (mout := mout) (sg := sg) (lk := lk) (mtext := mtext) (mnow := mnow) (mtrial := mtrial) (mdiary := mdiary) (mkept := mkept) (misk := misk) (mside := mside) (mwas := mwas) (out := out)  hI
      exact cs_slowest C0 hcs hi5 ho ho' e1 hP hD hS hl (fun H locs ls hP hD hS hl => W.widen (by omega) (by omega) (back hI2 hP hD hS hl))
    by_cases c17 : v = 17
    · refine lv_tableIn (off := 985) (tgt := 1024) hx hb dL_law_39 (by rw [c17]; decide) (by rw [c17]; decide) (by rw [c17]; decide +kernel) (by decide) ?_
      obtain ⟨o, o', ho, ho', e1, e2, hI2⟩ := gl_goesOn (n := n) (t := t) (hs := hs) (gs := gs) (len := len) (hsz := hsz) (hnx := hnx) (mref := mref) (msize := msize) (macts := macts) (mspot := mspot) (mout := mout) (sg := sg) (lk := lk) (mtext := mtext) (mnow := mnow) (mtrial := mtrial) (mdiary := mdiary) (mkept := mkept) (misk := misk) (mside := mside) (mwas := mwas) (out := out) (x1 := xs (i + 1)) (x2 := xs (i + 2)) hI
      exact cs_goesOn C0 hcs hi5 ho ho' e1 e2 hP hD hS hl (fun H locs ls hP hD hS hl => back hI2 hP hD hS hl)
    by_cases c18 : v = 18
    · refine lv_tableIn (off := 1053) (tgt := 1092) hx hb dL_law_39 (by rw [c18]; decide) (by rw [c18]; decide) (by rw [c18]; decide +kernel) (by decide) ?_
      obtain ⟨o, o', ho, ho', e1, hI2⟩ := gl_drops (n := n) (t := t) (hs := hs) (gs := gs) (len := len) (hsz := hsz) (hnx := hnx) (mref := mref) (msize := msize) (macts := macts) (mspot := mspot) (mout := mout) (sg := sg) (lk := lk) (mtext := mtext) (mnow := mnow) (mtrial := mtrial) (mdiary := mdiary) (mkept := mkept) (misk := misk) (mside := mside) (mwas := mwas) (out := out)  hI
      exact cs_drops C0 hcs hi5 ho ho' e1 hP hD hS hl (fun H locs ls hP hD hS hl => W.widen (by omega) (by omega) (back hI2 hP hD hS hl))
    by_cases c19 : v = 19
    · refine lv_tableIn (off := 1066) (tgt := 1105) hx hb dL_law_39 (by rw [c19]; decide) (by rw [c19]; decide) (by rw [c19]; decide +kernel) (by decide) ?_
      obtain ⟨o, o', ho, ho', e1, e2, hI2⟩ := gl_runScript (n := n) (t := t) (hs := hs) (gs := gs) (len := len) (hsz := hsz) (hnx := hnx) (mref := mref) (msize := msize) (macts := macts) (mspot := mspot) (mout := mout) (sg := sg) (lk := lk) (mtext := mtext) (mnow := mnow) (mtrial := mtrial) (mdiary := mdiary) (mkept := mkept) (misk := misk) (mside := mside) (mwas := mwas) (out := out) (x1 := xs (i + 1)) (x2 := (((xs (i + 2)).toInt64 <<< (((32 : Int32)).toInt64 &&& 63)) ||| ((xs (i + 3)).toInt64 &&& (4294967295 : Int64)))) hI
      exact cs_runScript C0 hcs hi5 ho ho' e1 e2 hP hD hS hl (fun H locs ls hP hD hS hl => back hI2 hP hD hS hl)
    by_cases c20 : v = 20
    · refine lv_tableIn (off := 1166) (tgt := 1205) hx hb dL_law_39 (by rw [c20]; decide) (by rw [c20]; decide) (by rw [c20]; decide +kernel) (by decide) ?_
      obtain ⟨o, o', ho, ho', e1, e2, hI2⟩ := gl_simulate (n := n) (t := t) (hs := hs) (gs := gs) (len := len) (hsz := hsz) (hnx := hnx) (mref := mref) (msize := msize) (macts := macts) (mspot := mspot) (mout := mout) (sg := sg) (lk := lk) (mtext := mtext) (mnow := mnow) (mtrial := mtrial) (mdiary := mdiary) (mkept := mkept) (misk := misk) (mside := mside) (mwas := mwas) (out := out) (x1 := (((xs (i + 1)).toInt64 <<< (((32 : Int32)).toInt64 &&& 63)) ||| ((xs (i + 2)).toInt64 &&& (4294967295 : Int64)))) (x3 := xs (i + 3)) hI
      exact cs_simulate C0 hcs hi5 ho ho' e1 e2 hP hD hS hl (fun H locs ls hP hD hS hl => back hI2 hP hD hS hl)
    by_cases c21 : v = 21
    · refine lv_tableIn (off := 1266) (tgt := 1305) hx hb dL_law_39 (by rw [c21]; decide) (by rw [c21]; decide) (by rw [c21]; decide +kernel) (by decide) ?_
      obtain ⟨o, o', ho, ho', e1, e2, hI2⟩ := gl_save (n := n) (t := t) (hs := hs) (gs := gs) (len := len) (hsz := hsz) (hnx := hnx) (mref := mref) (msize := msize) (macts := macts) (mspot := mspot) (mout := mout) (sg := sg) (lk := lk) (mtext := mtext) (mnow := mnow) (mtrial := mtrial) (mdiary := mdiary) (mkept := mkept) (misk := misk) (mside := mside) (mwas := mwas) (out := out) (x1 := xs (i + 1)) hI
      exact cs_save C0 hcs hi5 ho ho' e1 e2 hP hD hS hl (fun H locs ls hP hD hS hl => back hI2 hP hD hS hl)
    by_cases c22 : v = 22
    · refine lv_tableIn (off := 1322) (tgt := 1361) hx hb dL_law_39 (by rw [c22]; decide) (by rw [c22]; decide) (by rw [c22]; decide +kernel) (by decide) ?_
      obtain ⟨o, o', ho, ho', e1, e2, hI2⟩ := gl_restore (n := n) (t := t) (hs := hs) (gs := gs) (len := len) (hsz := hsz) (hnx := hnx) (mref := mref) (msize := msize) (macts := macts) (mspot := mspot) (mout := mout) (sg := sg) (lk := lk) (mtext := mtext) (mnow := mnow) (mtrial := mtrial) (mdiary := mdiary) (mkept := mkept) (misk := misk) (mside := mside) (mwas := mwas) (out := out) (x1 := xs (i + 1)) hI
      exact cs_restore C0 hcs hi5 ho ho' e1 e2 hP hD hS hl (fun H locs ls hP hD hS hl => back hI2 hP hD hS hl)
    have hsw : v.toInt < 0 ∨ 22 < v.toInt := by
      refine Decidable.byContradiction fun hn => ?_
      have h9 : v.toInt = 0 ∨ v.toInt = 1 ∨ v.toInt = 2 ∨ v.toInt = 3 ∨ v.toInt = 4 ∨ v.toInt = 5 ∨ v.toInt = 6 ∨ v.toInt = 7 ∨ v.toInt = 8 ∨ v.toInt = 9 ∨ v.toInt = 10 ∨ v.toInt = 11 ∨ v.toInt = 12 ∨ v.toInt = 13 ∨ v.toInt = 14 ∨ v.toInt = 15 ∨ v.toInt = 16 ∨ v.toInt = 17 ∨ v.toInt = 18 ∨ v.toInt = 19 ∨ v.toInt = 20 ∨ v.toInt = 21 ∨ v.toInt = 22 := by omega
      rcases h9 with h9 | h9 | h9 | h9 | h9 | h9 | h9 | h9 | h9 | h9 | h9 | h9 | h9 | h9 | h9 | h9 | h9 | h9 | h9 | h9 | h9 | h9 | h9
      · exact c0 (Int32.toInt_inj.mp (h9.trans (by decide)))
      · exact c1 (Int32.toInt_inj.mp (h9.trans (by decide)))
      · exact c2 (Int32.toInt_inj.mp (h9.trans (by decide)))
      · exact c3 (Int32.toInt_inj.mp (h9.trans (by decide)))
      · exact c4 (Int32.toInt_inj.mp (h9.trans (by decide)))
      · exact c5 (Int32.toInt_inj.mp (h9.trans (by decide)))
      · exact c6 (Int32.toInt_inj.mp (h9.trans (by decide)))
      · exact c7 (Int32.toInt_inj.mp (h9.trans (by decide)))
      · exact c8 (Int32.toInt_inj.mp (h9.trans (by decide)))
      · exact c9 (Int32.toInt_inj.mp (h9.trans (by decide)))
      · exact c10 (Int32.toInt_inj.mp (h9.trans (by decide)))
      · exact c11 (Int32.toInt_inj.mp (h9.trans (by decide)))
      · exact c12 (Int32.toInt_inj.mp (h9.trans (by decide)))
      · exact c13 (Int32.toInt_inj.mp (h9.trans (by decide)))
      · exact c14 (Int32.toInt_inj.mp (h9.trans (by decide)))
      · exact c15 (Int32.toInt_inj.mp (h9.trans (by decide)))
      · exact c16 (Int32.toInt_inj.mp (h9.trans (by decide)))
      · exact c17 (Int32.toInt_inj.mp (h9.trans (by decide)))
      · exact c18 (Int32.toInt_inj.mp (h9.trans (by decide)))
      · exact c19 (Int32.toInt_inj.mp (h9.trans (by decide)))
      · exact c20 (Int32.toInt_inj.mp (h9.trans (by decide)))
      · exact c21 (Int32.toInt_inj.mp (h9.trans (by decide)))
      · exact c22 (Int32.toInt_inj.mp (h9.trans (by decide)))
    refine lv_tableOut (tgt := 1417) hx hb dL_law_39 hsw (by decide) ?_
    exact W.widen (by omega) (by omega) (back hI hP hD hS hl)
