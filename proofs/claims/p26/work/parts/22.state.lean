/-! State -/
theorem iw_X6_firstSettings_X6 : ∀ w ∈ wsX60, w ∈ wsX6_firstSettings := by decide +kernel
set_option maxHeartbeats 4000000 in
set_option maxRecDepth 100000 in
theorem mk_X6_firstSettings (l : Launch) (D : va_G) (cI : Nat → ClassId) (aT aP aS aSe : Nat) (sz : Nat) (sto : Int32) (dro : Int32) (fou : Int32) (se : kF) (o : kF) (hq : fn_X6_firstSettings se = some o) : Met l yX6_firstSettings wsX6_firstSettings ({ frames := 0, cells := 0, slots := 0, locals := 0 }) (kPc D cI [(aT, .inr (5, [.ref aP, .ref aS, .ref aSe, .int sto, .int dro, .int fou])), (aSe, .inl (cI 0, 3, .inl se))] sz [.ref aT]) (kQv D [(aT, .inr (5, [.ref aP, .ref aS, .ref aSe, .int sto, .int dro, .int fou])), (aSe, .inl (cI 0, 3, .inl se))] [(aT, .inr (5, [.ref aP, .ref aS, .ref aSe, .int sto, .int dro, .int fou])), (aSe, .inl (cI 0, 3, .inl o))] sz) 0 0 (va_A [(aT, .inr (5, [.ref aP, .ref aS, .ref aSe, .int sto, .int dro, .int fou])), (aSe, .inl (cI 0, 3, .inl se))] sz) := by
  refine kM_v (cc := cX6_firstSettings) (maxL := 1) (by decide +kernel) rfl (Nat.le_of_ble_eq_true rfl) ?_
  intro p e s m args below meth c A Q hF hK hG hD hA hend ls hP hS hl
  obtain ⟨hx, hb, hml, hown, hts⟩ := id hF
  have hl : lv_has ls 1 [(0, .ref aT)] := hl
  refine lv_aload_n hx hb dX6_firstSettings_0 rfl (lv_at hl 0 rfl) ?_
  refine va_get (D := D) (ci := 5) (v := .ref aSe) (C := RX6) (T := TX6) (N := 6) hx hb hts iw_X6_firstSettings_X6 hown hK.1 hP 0 rfl rfl 2 (by decide) (hts (.fieldLink RX6 25 "PinDeck$State" "settings" "[I") (by decide +kernel)) (fun _ h9 => h9) rfl dX6_firstSettings_1 ?_
  refine lv_iconst (v := 0) hx hb dX6_firstSettings_4 (by decide) ?_
  refine lv_bipush (v := 18) hx hb dX6_firstSettings_5 (by decide) ?_
  refine k_iast (j := 0) hx hb hK.1 hP hD hS 1 0 rfl rfl (by decide) (by decide) dX6_firstSettings_7 (fun H locs hP hD hS => ?_)
  have hP : va_P D vwCl [(aT, .inr (5, [.ref aP, .ref aS, .ref aSe, .int sto, .int dro, .int fou])), (aSe, .inl (cI 0, 3, .inl (upd se 0 (18 : Int32))))] H := hP
  have hD : va_D A [(aT, .inr (5, [.ref aP, .ref aS, .ref aSe, .int sto, .int dro, .int fou])), (aSe, .inl (cI 0, 3, .inl (upd se 0 (18 : Int32))))] := hD
  refine lv_aload_n hx hb dX6_firstSettings_8 rfl (lv_at hl 0 rfl) ?_
  refine va_get (D := D) (ci := 5) (v := .ref aSe) (C := RX6) (T := TX6) (N := 6) hx hb hts iw_X6_firstSettings_X6 hown hK.1 hP 0 rfl rfl 2 (by decide) (hts (.fieldLink RX6 25 "PinDeck$State" "settings" "[I") (by decide +kernel)) (fun _ h9 => h9) rfl dX6_firstSettings_9 ?_
  refine lv_iconst (v := 1) hx hb dX6_firstSettings_12 (by decide) ?_
  refine lv_iconst (v := 2) hx hb dX6_firstSettings_13 (by decide) ?_
  refine k_iast (j := 1) hx hb hK.1 hP hD hS 1 0 rfl rfl (by decide) (by decide) dX6_firstSettings_14 (fun H locs hP hD hS => ?_)
  have hP : va_P D vwCl [(aT, .inr (5, [.ref aP, .ref aS, .ref aSe, .int sto, .int dro, .int fou])), (aSe, .inl (cI 0, 3, .inl (upd (upd se 0 (18 : Int32)) 1 (2 : Int32))))] H := hP
  have hD : va_D A [(aT, .inr (5, [.ref aP, .ref aS, .ref aSe, .int sto, .int dro, .int fou])), (aSe, .inl (cI 0, 3, .inl (upd (upd se 0 (18 : Int32)) 1 (2 : Int32))))] := hD
  refine lv_aload_n hx hb dX6_firstSettings_15 rfl (lv_at hl 0 rfl) ?_
  refine va_get (D := D) (ci := 5) (v := .ref aSe) (C := RX6) (T := TX6) (N := 6) hx hb hts iw_X6_firstSettings_X6 hown hK.1 hP 0 rfl rfl 2 (by decide) (hts (.fieldLink RX6 25 "PinDeck$State" "settings" "[I") (by decide +kernel)) (fun _ h9 => h9) rfl dX6_firstSettings_16 ?_
  refine lv_iconst (v := 2) hx hb dX6_firstSettings_19 (by decide) ?_
  refine lv_iconst (v := 1) hx hb dX6_firstSettings_20 (by decide) ?_
  refine k_iast (j := 2) hx hb hK.1 hP hD hS 1 0 rfl rfl (by decide) (by decide) dX6_firstSettings_21 (fun H locs hP hD hS => ?_)
  have hP : va_P D vwCl [(aT, .inr (5, [.ref aP, .ref aS, .ref aSe, .int sto, .int dro, .int fou])), (aSe, .inl (cI 0, 3, .inl (upd (upd (upd se 0 (18 : Int32)) 1 (2 : Int32)) 2 (1 : Int32))))] H := hP
  have hD : va_D A [(aT, .inr (5, [.ref aP, .ref aS, .ref aSe, .int sto, .int dro, .int fou])), (aSe, .inl (cI 0, 3, .inl (upd (upd (upd se 0 (18 : Int32)) 1 (2 : Int32)) 2 (1 : Int32))))] := hD
  have ho := Option.some.inj hq
  subst ho
  exact hend _ _ _ _ hP hS dX6_firstSettings_22

theorem iw_X6_renew_X6 : ∀ w ∈ wsX60, w ∈ wsX6_renew := by decide +kernel
set_option maxHeartbeats 4000000 in
set_option maxRecDepth 100000 in
theorem mk_X6_renew (l : Launch) (D : va_G) (cI : Nat → ClassId) (aT aP aS aSe aLe aSh aTk aSr : Nat) (sz : Nat) (sto : Int32) (dro : Int32) (fou : Int32) (told : Int32) (wl : Int32) (wr : Int32) (le : kF) (sh : kF) (rolls : Int32) (frm : Int32) (se : kF) (o : Int32 × Int32 × Int32 × Int32 × kF × kF × Int32 × Int32 × kF) (hq : fn_X6_renew sto dro fou told le sh rolls frm se = some o) : Met l yX6_renew wsX6_renew ({ frames := 1, cells := 0, slots := 0, locals := 21 }) (kPc D cI [(aT, .inr (5, [.ref aP, .ref aS, .ref aSe, .int sto, .int dro, .int fou])), (aP, .inr (2, [.ref aLe, .ref aSh, .int told, .int wl, .int wr])), (aLe, .inl (cI 0, 10, .inl le)), (aSh, .inl (cI 0, 10, .inl sh)), (aS, .inr (3, [.ref aTk, .ref aSr, .int rolls, .int frm])), (aSe, .inl (cI 0, 3, .inl se))] sz [.ref aT]) (kQv D [(aT, .inr (5, [.ref aP, .ref aS, .ref aSe, .int sto, .int dro, .int fou])), (aP, .inr (2, [.ref aLe, .ref aSh, .int told, .int wl, .int wr])), (aLe, .inl (cI 0, 10, .inl le)), (aSh, .inl (cI 0, 10, .inl sh)), (aS, .inr (3, [.ref aTk, .ref aSr, .int rolls, .int frm])), (aSe, .inl (cI 0, 3, .inl se))] [(aT, .inr (5, [.ref aP, .ref aS, .ref aSe, .int o.1, .int o.2.1, .int o.2.2.1])), (aP, .inr (2, [.ref aLe, .ref aSh, .int o.2.2.2.1, .int wl, .int wr])), (aLe, .inl (cI 0, 10, .inl o.2.2.2.2.1)), (aSh, .inl (cI 0, 10, .inl o.2.2.2.2.2.1)), (aS, .inr (3, [.ref aTk, .ref aSr, .int o.2.2.2.2.2.2.1, .int o.2.2.2.2.2.2.2.1])), (aSe, .inl (cI 0, 3, .inl o.2.2.2.2.2.2.2.2))] sz) 0 0 (va_A [(aT, .inr (5, [.ref aP, .ref aS, .ref aSe, .int sto, .int dro, .int fou])), (aP, .inr (2, [.ref aLe, .ref aSh, .int told, .int wl, .int wr])), (aLe, .inl (cI 0, 10, .inl le)), (aSh, .inl (cI 0, 10, .inl sh)), (aS, .inr (3, [.ref aTk, .ref aSr, .int rolls, .int frm])), (aSe, .inl (cI 0, 3, .inl se))] sz) := by
  refine kM_v (cc := cX6_renew) (maxL := 1) (by decide +kernel) rfl (Nat.le_of_ble_eq_true rfl) ?_
  intro p e s m args below meth c A Q hF hK hG hD hA hend ls hP hS hl
  obtain ⟨hx, hb, hml, hown, hts⟩ := id hF
  have hl : lv_has ls 1 [(0, .ref aT)] := hl
  refine lv_aload_n hx hb dX6_renew_0 rfl (lv_at hl 0 rfl) ?_
  refine va_get (D := D) (ci := 5) (v := .ref aP) (C := RX6) (T := TX6) (N := 6) hx hb hts iw_X6_renew_X6 hown hK.1 hP 0 rfl rfl 0 (by decide) (hts (.fieldLink RX6 12 "PinDeck$State" "pins" "LPinDeck$Pins;") (by decide +kernel)) (fun _ h9 => h9) rfl dX6_renew_1 ?_
  obtain ⟨o4, ho4, hq⟩ := kbind hq
  refine kc_Vv (av := []) (rest := []) hF hK hG hA (mk_X2_newRack l D cI aP aLe aSh s.heap.size told wl wr le sh o4 ho4) (cwV 0 hts gX6_renew_X2_newRack rfl rfl rfl (by decide +kernel) ⟨Nat.le_of_ble_eq_true rfl, Nat.le_of_ble_eq_true rfl⟩) hP hD hS [1, 2, 3] (by decide) rfl rfl 0 rfl rfl rfl hl.1 rfl (Nat.le_of_ble_eq_true rfl) ⟨Nat.zero_le _, Nat.zero_le _⟩ dX6_renew_4 (fun H locs hP hD hS => ?_)
  have hP : va_P D vwCl [(aT, .inr (5, [.ref aP, .ref aS, .ref aSe, .int sto, .int dro, .int fou])), (aP, .inr (2, [.ref aLe, .ref aSh, .int o4.1, .int wl, .int wr])), (aLe, .inl (cI 0, 10, .inl o4.2.1)), (aSh, .inl (cI 0, 10, .inl o4.2.2)), (aS, .inr (3, [.ref aTk, .ref aSr, .int rolls, .int frm])), (aSe, .inl (cI 0, 3, .inl se))] H := hP
  have hD : va_D A [(aT, .inr (5, [.ref aP, .ref aS, .ref aSe, .int sto, .int dro, .int fou])), (aP, .inr (2, [.ref aLe, .ref aSh, .int o4.1, .int wl, .int wr])), (aLe, .inl (cI 0, 10, .inl o4.2.1)), (aSh, .inl (cI 0, 10, .inl o4.2.2)), (aS, .inr (3, [.ref aTk, .ref aSr, .int rolls, .int frm])), (aSe, .inl (cI 0, 3, .inl se))] := hD
  refine lv_aload_n hx hb dX6_renew_7 rfl (lv_at hl 0 rfl) ?_
  refine va_get (D := D) (ci := 5) (v := .ref aS) (C := RX6) (T := TX6) (N := 6) hx hb hts iw_X6_renew_X6 hown hK.1 hP 0 rfl rfl 1 (by decide) (hts (.fieldLink RX6 21 "PinDeck$State" "sheet" "LPinDeck$Sheet;") (by decide +kernel)) (fun _ h9 => h9) rfl dX6_renew_8 ?_
  obtain ⟨o11, ho11, hq⟩ := kbind hq
  refine kc_Vv (av := []) (rest := []) hF hK hG hA (mk_X4_clear l D cI aS aTk aSr H.size rolls frm o11 ho11) (cwV 0 hts gX6_renew_X4_clear rfl rfl rfl (by decide +kernel) ⟨Nat.le_of_ble_eq_true rfl, Nat.le_of_ble_eq_true rfl⟩) hP hD hS [4] (by decide) rfl rfl 0 rfl rfl rfl hl.1 rfl (Nat.le_of_ble_eq_true rfl) ⟨Nat.zero_le _, Nat.zero_le _⟩ dX6_renew_11 (fun H locs hP hD hS => ?_)
  have hP : va_P D vwCl [(aT, .inr (5, [.ref aP, .ref aS, .ref aSe, .int sto, .int dro, .int fou])), (aP, .inr (2, [.ref aLe, .ref aSh, .int o4.1, .int wl, .int wr])), (aLe, .inl (cI 0, 10, .inl o4.2.1)), (aSh, .inl (cI 0, 10, .inl o4.2.2)), (aS, .inr (3, [.ref aTk, .ref aSr, .int o11.1, .int o11.2])), (aSe, .inl (cI 0, 3, .inl se))] H := hP
  have hD : va_D A [(aT, .inr (5, [.ref aP, .ref aS, .ref aSe, .int sto, .int dro, .int fou])), (aP, .inr (2, [.ref aLe, .ref aSh, .int o4.1, .int wl, .int wr])), (aLe, .inl (cI 0, 10, .inl o4.2.1)), (aSh, .inl (cI 0, 10, .inl o4.2.2)), (aS, .inr (3, [.ref aTk, .ref aSr, .int o11.1, .int o11.2])), (aSe, .inl (cI 0, 3, .inl se))] := hD
  refine lv_aload_n hx hb dX6_renew_14 rfl (lv_at hl 0 rfl) ?_
  obtain ⟨o15, ho15, hq⟩ := kbind hq
  refine kc_Vv (av := []) (rest := []) hF hK hG hA (mk_X6_firstSettings l D cI aT aP aS aSe H.size sto dro fou se o15 ho15) (cwV 0 hts gX6_renew_X6_firstSettings rfl rfl rfl (by decide +kernel) ⟨Nat.le_of_ble_eq_true rfl, Nat.le_of_ble_eq_true rfl⟩) hP hD hS [0, 5] (by decide) rfl rfl 0 rfl rfl rfl hl.1 rfl (Nat.le_of_ble_eq_true rfl) ⟨Nat.zero_le _, Nat.zero_le _⟩ dX6_renew_15 (fun H locs hP hD hS => ?_)
  have hP : va_P D vwCl [(aT, .inr (5, [.ref aP, .ref aS, .ref aSe, .int sto, .int dro, .int fou])), (aP, .inr (2, [.ref aLe, .ref aSh, .int o4.1, .int wl, .int wr])), (aLe, .inl (cI 0, 10, .inl o4.2.1)), (aSh, .inl (cI 0, 10, .inl o4.2.2)), (aS, .inr (3, [.ref aTk, .ref aSr, .int o11.1, .int o11.2])), (aSe, .inl (cI 0, 3, .inl o15))] H := hP
  have hD : va_D A [(aT, .inr (5, [.ref aP, .ref aS, .ref aSe, .int sto, .int dro, .int fou])), (aP, .inr (2, [.ref aLe, .ref aSh, .int o4.1, .int wl, .int wr])), (aLe, .inl (cI 0, 10, .inl o4.2.1)), (aSh, .inl (cI 0, 10, .inl o4.2.2)), (aS, .inr (3, [.ref aTk, .ref aSr, .int o11.1, .int o11.2])), (aSe, .inl (cI 0, 3, .inl o15))] := hD
  refine lv_aload_n hx hb dX6_renew_18 rfl (lv_at hl 0 rfl) ?_
  refine lv_iconst (v := 0) hx hb dX6_renew_19 (by decide) ?_
  refine va_put (D := D) (ci := 5) (v := .int (0 : Int32)) (ty := .int) (C := RX6) (T := TX6) (N := 6) hx hb hts iw_X6_renew_X6 tyX6 tyX6_ok nmX6 hown hK.1 hP hD hS 0 rfl rfl 3 (by decide) (hts (.fieldLink RX6 38 "PinDeck$State" "stopped" "I") (by decide +kernel)) (fun _ h9 => h9) rfl (by decide +kernel) rfl rfl (Nat.le_of_ble_eq_true rfl) dX6_renew_20 (fun H locs hP hD hS => ?_)
  have hP : va_P D vwCl [(aT, .inr (5, [.ref aP, .ref aS, .ref aSe, .int (0 : Int32), .int dro, .int fou])), (aP, .inr (2, [.ref aLe, .ref aSh, .int o4.1, .int wl, .int wr])), (aLe, .inl (cI 0, 10, .inl o4.2.1)), (aSh, .inl (cI 0, 10, .inl o4.2.2)), (aS, .inr (3, [.ref aTk, .ref aSr, .int o11.1, .int o11.2])), (aSe, .inl (cI 0, 3, .inl o15))] H := hP
  have hD : va_D A [(aT, .inr (5, [.ref aP, .ref aS, .ref aSe, .int (0 : Int32), .int dro, .int fou])), (aP, .inr (2, [.ref aLe, .ref aSh, .int o4.1, .int wl, .int wr])), (aLe, .inl (cI 0, 10, .inl o4.2.1)), (aSh, .inl (cI 0, 10, .inl o4.2.2)), (aS, .inr (3, [.ref aTk, .ref aSr, .int o11.1, .int o11.2])), (aSe, .inl (cI 0, 3, .inl o15))] := hD
  refine lv_aload_n hx hb dX6_renew_23 rfl (lv_at hl 0 rfl) ?_
  refine lv_iconst (v := 0) hx hb dX6_renew_24 (by decide) ?_
  refine va_put (D := D) (ci := 5) (v := .int (0 : Int32)) (ty := .int) (C := RX6) (T := TX6) (N := 6) hx hb hts iw_X6_renew_X6 tyX6 tyX6_ok nmX6 hown hK.1 hP hD hS 0 rfl rfl 4 (by decide) (hts (.fieldLink RX6 42 "PinDeck$State" "dropped" "I") (by decide +kernel)) (fun _ h9 => h9) rfl (by decide +kernel) rfl rfl (Nat.le_of_ble_eq_true rfl) dX6_renew_25 (fun H locs hP hD hS => ?_)
  have hP : va_P D vwCl [(aT, .inr (5, [.ref aP, .ref aS, .ref aSe, .int (0 : Int32), .int (0 : Int32), .int fou])), (aP, .inr (2, [.ref aLe, .ref aSh, .int o4.1, .int wl, .int wr])), (aLe, .inl (cI 0, 10, .inl o4.2.1)), (aSh, .inl (cI 0, 10, .inl o4.2.2)), (aS, .inr (3, [.ref aTk, .ref aSr, .int o11.1, .int o11.2])), (aSe, .inl (cI 0, 3, .inl o15))] H := hP
  have hD : va_D A [(aT, .inr (5, [.ref aP, .ref aS, .ref aSe, .int (0 : Int32), .int (0 : Int32), .int fou])), (aP, .inr (2, [.ref aLe, .ref aSh, .int o4.1, .int wl, .int wr])), (aLe, .inl (cI 0, 10, .inl o4.2.1)), (aSh, .inl (cI 0, 10, .inl o4.2.2)), (aS, .inr (3, [.ref aTk, .ref aSr, .int o11.1, .int o11.2])), (aSe, .inl (cI 0, 3, .inl o15))] := hD
  refine lv_aload_n hx hb dX6_renew_28 rfl (lv_at hl 0 rfl) ?_
  refine lv_iconst (v := 0) hx hb dX6_renew_29 (by decide) ?_
  refine va_put (D := D) (ci := 5) (v := .int (0 : Int32)) (ty := .int) (C := RX6) (T := TX6) (N := 6) hx hb hts iw_X6_renew_X6 tyX6 tyX6_ok nmX6 hown hK.1 hP hD hS 0 rfl rfl 5 (by decide) (hts (.fieldLink RX6 45 "PinDeck$State" "fouls" "I") (by decide +kernel)) (fun _ h9 => h9) rfl (by decide +kernel) rfl rfl (Nat.le_of_ble_eq_true rfl) dX6_renew_30 (fun H locs hP hD hS => ?_)
  have hP : va_P D vwCl [(aT, .inr (5, [.ref aP, .ref aS, .ref aSe, .int (0 : Int32), .int (0 : Int32), .int (0 : Int32)])), (aP, .inr (2, [.ref aLe, .ref aSh, .int o4.1, .int wl, .int wr])), (aLe, .inl (cI 0, 10, .inl o4.2.1)), (aSh, .inl (cI 0, 10, .inl o4.2.2)), (aS, .inr (3, [.ref aTk, .ref aSr, .int o11.1, .int o11.2])), (aSe, .inl (cI 0, 3, .inl o15))] H := hP
  have hD : va_D A [(aT, .inr (5, [.ref aP, .ref aS, .ref aSe, .int (0 : Int32), .int (0 : Int32), .int (0 : Int32)])), (aP, .inr (2, [.ref aLe, .ref aSh, .int o4.1, .int wl, .int wr])), (aLe, .inl (cI 0, 10, .inl o4.2.1)), (aSh, .inl (cI 0, 10, .inl o4.2.2)), (aS, .inr (3, [.ref aTk, .ref aSr, .int o11.1, .int o11.2])), (aSe, .inl (cI 0, 3, .inl o15))] := hD
  have ho := Option.some.inj hq
  subst ho
  exact hend _ _ _ _ hP hS dX6_renew_33

theorem iw_X6_copyFrom_X6 : ∀ w ∈ wsX60, w ∈ wsX6_copyFrom := by decide +kernel
set_option maxHeartbeats 4000000 in
set_option maxRecDepth 100000 in
theorem mk_X6_copyFrom (l : Launch) (D : va_G) (cI : Nat → ClassId) (aT aP aS aSe aLe aSh aTk aSr azT azP azS azSe azLe azSh azTk azSr : Nat) (sz : Nat) (sto : Int32) (dro : Int32) (fou : Int32) (told : Int32) (wl : Int32) (wr : Int32) (le : kF) (sh : kF) (rolls : Int32) (frm : Int32) (tk : kF) (sr : kF) (se : kF) (zsto : Int32) (zdro : Int32) (zfou : Int32) (ztold : Int32) (zwl : Int32) (zwr : Int32) (zle : kF) (zsh : kF) (zrolls : Int32) (zfrm : Int32) (ztk : kF) (zsr : kF) (zse : kF) (o : Int32 × Int32 × Int32 × Int32 × kF × kF × Int32 × Int32 × kF × kF × kF) (hq : fn_X6_copyFrom sto dro fou told le sh rolls frm tk sr se zsto zdro zfou ztold zle zsh zrolls zfrm ztk zsr zse = some o) : Met l yX6_copyFrom wsX6_copyFrom ({ frames := 1, cells := 0, slots := 0, locals := 22 }) (kPc D cI [(aT, .inr (5, [.ref aP, .ref aS, .ref aSe, .int sto, .int dro, .int fou])), (aP, .inr (2, [.ref aLe, .ref aSh, .int told, .int wl, .int wr])), (aLe, .inl (cI 0, 10, .inl le)), (aSh, .inl (cI 0, 10, .inl sh)), (aS, .inr (3, [.ref aTk, .ref aSr, .int rolls, .int frm])), (aTk, .inl (cI 0, 21, .inl tk)), (aSr, .inl (cI 0, 11, .inl sr)), (aSe, .inl (cI 0, 3, .inl se)), (azT, .inr (5, [.ref azP, .ref azS, .ref azSe, .int zsto, .int zdro, .int zfou])), (azP, .inr (2, [.ref azLe, .ref azSh, .int ztold, .int zwl, .int zwr])), (azLe, .inl (cI 0, 10, .inl zle)), (azSh, .inl (cI 0, 10, .inl zsh)), (azS, .inr (3, [.ref azTk, .ref azSr, .int zrolls, .int zfrm])), (azTk, .inl (cI 0, 21, .inl ztk)), (azSr, .inl (cI 0, 11, .inl zsr)), (azSe, .inl (cI 0, 3, .inl zse))] sz [.ref aT, .ref azT]) (kQv D [(aT, .inr (5, [.ref aP, .ref aS, .ref aSe, .int sto, .int dro, .int fou])), (aP, .inr (2, [.ref aLe, .ref aSh, .int told, .int wl, .int wr])), (aLe, .inl (cI 0, 10, .inl le)), (aSh, .inl (cI 0, 10, .inl sh)), (aS, .inr (3, [.ref aTk, .ref aSr, .int rolls, .int frm])), (aTk, .inl (cI 0, 21, .inl tk)), (aSr, .inl (cI 0, 11, .inl sr)), (aSe, .inl (cI 0, 3, .inl se)), (azT, .inr (5, [.ref azP, .ref azS, .ref azSe, .int zsto, .int zdro, .int zfou])), (azP, .inr (2, [.ref azLe, .ref azSh, .int ztold, .int zwl, .int zwr])), (azLe, .inl (cI 0, 10, .inl zle)), (azSh, .inl (cI 0, 10, .inl zsh)), (azS, .inr (3, [.ref azTk, .ref azSr, .int zrolls, .int zfrm])), (azTk, .inl (cI 0, 21, .inl ztk)), (azSr, .inl (cI 0, 11, .inl zsr)), (azSe, .inl (cI 0, 3, .inl zse))] [(aT, .inr (5, [.ref aP, .ref aS, .ref aSe, .int o.1, .int o.2.1, .int o.2.2.1])), (aP, .inr (2, [.ref aLe, .ref aSh, .int o.2.2.2.1, .int wl, .int wr])), (aLe, .inl (cI 0, 10, .inl o.2.2.2.2.1)), (aSh, .inl (cI 0, 10, .inl o.2.2.2.2.2.1)), (aS, .inr (3, [.ref aTk, .ref aSr, .int o.2.2.2.2.2.2.1, .int o.2.2.2.2.2.2.2.1])), (aTk, .inl (cI 0, 21, .inl o.2.2.2.2.2.2.2.2.1)), (aSr, .inl (cI 0, 11, .inl o.2.2.2.2.2.2.2.2.2.1)), (aSe, .inl (cI 0, 3, .inl o.2.2.2.2.2.2.2.2.2.2)), (azT, .inr (5, [.ref azP, .ref azS, .ref azSe, .int zsto, .int zdro, .int zfou])), (azP, .inr (2, [.ref azLe, .ref azSh, .int ztold, .int zwl, .int zwr])), (azLe, .inl (cI 0, 10, .inl zle)), (azSh, .inl (cI 0, 10, .inl zsh)), (azS, .inr (3, [.ref azTk, .ref azSr, .int zrolls, .int zfrm])), (azTk, .inl (cI 0, 21, .inl ztk)), (azSr, .inl (cI 0, 11, .inl zsr)), (azSe, .inl (cI 0, 3, .inl zse))] sz) 0 0 (va_A [(aT, .inr (5, [.ref aP, .ref aS, .ref aSe, .int sto, .int dro, .int fou])), (aP, .inr (2, [.ref aLe, .ref aSh, .int told, .int wl, .int wr])), (aLe, .inl (cI 0, 10, .inl le)), (aSh, .inl (cI 0, 10, .inl sh)), (aS, .inr (3, [.ref aTk, .ref aSr, .int rolls, .int frm])), (aTk, .inl (cI 0, 21, .inl tk)), (aSr, .inl (cI 0, 11, .inl sr)), (aSe, .inl (cI 0, 3, .inl se)), (azT, .inr (5, [.ref azP, .ref azS, .ref azSe, .int zsto, .int zdro, .int zfou])), (azP, .inr (2, [.ref azLe, .ref azSh, .int ztold, .int zwl, .int zwr])), (azLe, .inl (cI 0, 10, .inl zle)), (azSh, .inl (cI 0, 10, .inl zsh)), (azS, .inr (3, [.ref azTk, .ref azSr, .int zrolls, .int zfrm])), (azTk, .inl (cI 0, 21, .inl ztk)), (azSr, .inl (cI 0, 11, .inl zsr)), (azSe, .inl (cI 0, 3, .inl zse))] sz) := by
  refine kM_v (cc := cX6_copyFrom) (maxL := 3) (by decide +kernel) rfl (Nat.le_of_ble_eq_true rfl) ?_
  intro p e s m args below meth c A Q hF hK hG hD hA hend ls hP hS hl
  obtain ⟨hx, hb, hml, hown, hts⟩ := id hF
  have hl : lv_has ls 3 [(0, .ref aT), (1, .ref azT)] := hl
  have b_24 : ∀ (q : Nat), ∀ (H : Heap) (locs : List Loc) (ls : Array Slot) (sto : Int32) (dro : Int32) (fou : Int32) (told : Int32) (le : kF) (sh : kF) (rolls : Int32) (frm : Int32) (tk : kF) (sr : kF) (se : kF) (x2 : Int32), fn_X6_copyFrom_24 q sto dro fou told le sh rolls frm tk sr se zsto zdro zfou ztold zle zsh zrolls zfrm ztk zsr zse x2 = some o → va_P D vwCl [(aT, .inr (5, [.ref aP, .ref aS, .ref aSe, .int sto, .int dro, .int fou])), (aP, .inr (2, [.ref aLe, .ref aSh, .int told, .int wl, .int wr])), (aLe, .inl (cI 0, 10, .inl le)), (aSh, .inl (cI 0, 10, .inl sh)), (aS, .inr (3, [.ref aTk, .ref aSr, .int rolls, .int frm])), (aTk, .inl (cI 0, 21, .inl tk)), (aSr, .inl (cI 0, 11, .inl sr)), (aSe, .inl (cI 0, 3, .inl se)), (azT, .inr (5, [.ref azP, .ref azS, .ref azSe, .int zsto, .int zdro, .int zfou])), (azP, .inr (2, [.ref azLe, .ref azSh, .int ztold, .int zwl, .int zwr])), (azLe, .inl (cI 0, 10, .inl zle)), (azSh, .inl (cI 0, 10, .inl zsh)), (azS, .inr (3, [.ref azTk, .ref azSr, .int zrolls, .int zfrm])), (azTk, .inl (cI 0, 21, .inl ztk)), (azSr, .inl (cI 0, 11, .inl zsr)), (azSe, .inl (cI 0, 3, .inl zse))] H → va_D A [(aT, .inr (5, [.ref aP, .ref aS, .ref aSe, .int sto, .int dro, .int fou])), (aP, .inr (2, [.ref aLe, .ref aSh, .int told, .int wl, .int wr])), (aLe, .inl (cI 0, 10, .inl le)), (aSh, .inl (cI 0, 10, .inl sh)), (aS, .inr (3, [.ref aTk, .ref aSr, .int rolls, .int frm])), (aTk, .inl (cI 0, 21, .inl tk)), (aSr, .inl (cI 0, 11, .inl sr)), (aSe, .inl (cI 0, 3, .inl se)), (azT, .inr (5, [.ref azP, .ref azS, .ref azSe, .int zsto, .int zdro, .int zfou])), (azP, .inr (2, [.ref azLe, .ref azSh, .int ztold, .int zwl, .int zwr])), (azLe, .inl (cI 0, 10, .inl zle)), (azSh, .inl (cI 0, 10, .inl zsh)), (azS, .inr (3, [.ref azTk, .ref azSr, .int zrolls, .int zfrm])), (azTk, .inl (cI 0, 21, .inl ztk)), (azSr, .inl (cI 0, 11, .inl zsr)), (azSe, .inl (cI 0, 3, .inl zse))] → va_S A s.heap H locs → lv_has ls 3 [(0, .ref aT), (1, .ref azT), (2, .int x2)] → W p l e { frames := 1, cells := 0, slots := 0, locals := 22 } s m args below meth c H locs 0 0 Q (F0 m 24 ls []) := by
    intro q
    induction q with
    | zero =>
      intro H locs ls sto dro fou told le sh rolls frm tk sr se x2
      intro hq
      cases hq
    | succ q ih =>
      intro H locs ls sto dro fou told le sh rolls frm tk sr se x2
      intro hq hP hD hS hl
      refine lv_iload_n hx hb dX6_copyFrom_24 rfl (lv_at hl 2 rfl) ?_
      refine lv_iconst (v := 3) hx hb dX6_copyFrom_25 (by decide) ?_
      refine lv_icmp_ge (tgt := 47) hx hb dX6_copyFrom_26 (by decide) (fun c9 => ?_) (fun c9 => ?_)
      · have hq := kite_t c9 hq
        refine lv_aload_n hx hb dX6_copyFrom_47 rfl (lv_at hl 0 rfl) ?_
        refine lv_aload_n hx hb dX6_copyFrom_48 rfl (lv_at hl 1 rfl) ?_
        refine va_get (D := D) (ci := 5) (v := .int zsto) (C := RX6) (T := TX6) (N := 6) hx hb hts iw_X6_copyFrom_X6 hown hK.1 hP 8 rfl rfl 3 (by decide) (hts (.fieldLink RX6 38 "PinDeck$State" "stopped" "I") (by decide +kernel)) (fun _ h9 => h9) rfl dX6_copyFrom_49 ?_
        refine va_put (D := D) (ci := 5) (v := .int zsto) (ty := .int) (C := RX6) (T := TX6) (N := 6) hx hb hts iw_X6_copyFrom_X6 tyX6 tyX6_ok nmX6 hown hK.1 hP hD hS 0 rfl rfl 3 (by decide) (hts (.fieldLink RX6 38 "PinDeck$State" "stopped" "I") (by decide +kernel)) (fun _ h9 => h9) rfl (by decide +kernel) rfl rfl (Nat.le_of_ble_eq_true rfl) dX6_copyFrom_52 (fun H locs hP hD hS => ?_)
        have hP : va_P D vwCl [(aT, .inr (5, [.ref aP, .ref aS, .ref aSe, .int zsto, .int dro, .int fou])), (aP, .inr (2, [.ref aLe, .ref aSh, .int told, .int wl, .int wr])), (aLe, .inl (cI 0, 10, .inl le)), (aSh, .inl (cI 0, 10, .inl sh)), (aS, .inr (3, [.ref aTk, .ref aSr, .int rolls, .int frm])), (aTk, .inl (cI 0, 21, .inl tk)), (aSr, .inl (cI 0, 11, .inl sr)), (aSe, .inl (cI 0, 3, .inl se)), (azT, .inr (5, [.ref azP, .ref azS, .ref azSe, .int zsto, .int zdro, .int zfou])), (azP, .inr (2, [.ref azLe, .ref azSh, .int ztold, .int zwl, .int zwr])), (azLe, .inl (cI 0, 10, .inl zle)), (azSh, .inl (cI 0, 10, .inl zsh)), (azS, .inr (3, [.ref azTk, .ref azSr, .int zrolls, .int zfrm])), (azTk, .inl (cI 0, 21, .inl ztk)), (azSr, .inl (cI 0, 11, .inl zsr)), (azSe, .inl (cI 0, 3, .inl zse))] H := hP
        have hD : va_D A [(aT, .inr (5, [.ref aP, .ref aS, .ref aSe, .int zsto, .int dro, .int fou])), (aP, .inr (2, [.ref aLe, .ref aSh, .int told, .int wl, .int wr])), (aLe, .inl (cI 0, 10, .inl le)), (aSh, .inl (cI 0, 10, .inl sh)), (aS, .inr (3, [.ref aTk, .ref aSr, .int rolls, .int frm])), (aTk, .inl (cI 0, 21, .inl tk)), (aSr, .inl (cI 0, 11, .inl sr)), (aSe, .inl (cI 0, 3, .inl se)), (azT, .inr (5, [.ref azP, .ref azS, .ref azSe, .int zsto, .int zdro, .int zfou])), (azP, .inr (2, [.ref azLe, .ref azSh, .int ztold, .int zwl, .int zwr])), (azLe, .inl (cI 0, 10, .inl zle)), (azSh, .inl (cI 0, 10, .inl zsh)), (azS, .inr (3, [.ref azTk, .ref azSr, .int zrolls, .int zfrm])), (azTk, .inl (cI 0, 21, .inl ztk)), (azSr, .inl (cI 0, 11, .inl zsr)), (azSe, .inl (cI 0, 3, .inl zse))] := hD
        refine lv_aload_n hx hb dX6_copyFrom_55 rfl (lv_at hl 0 rfl) ?_
        refine lv_aload_n hx hb dX6_copyFrom_56 rfl (lv_at hl 1 rfl) ?_
        refine va_get (D := D) (ci := 5) (v := .int zdro) (C := RX6) (T := TX6) (N := 6) hx hb hts iw_X6_copyFrom_X6 hown hK.1 hP 8 rfl rfl 4 (by decide) (hts (.fieldLink RX6 42 "PinDeck$State" "dropped" "I") (by decide +kernel)) (fun _ h9 => h9) rfl dX6_copyFrom_57 ?_
        refine va_put (D := D) (ci := 5) (v := .int zdro) (ty := .int) (C := RX6) (T := TX6) (N := 6) hx hb hts iw_X6_copyFrom_X6 tyX6 tyX6_ok nmX6 hown hK.1 hP hD hS 0 rfl rfl 4 (by decide) (hts (.fieldLink RX6 42 "PinDeck$State" "dropped" "I") (by decide +kernel)) (fun _ h9 => h9) rfl (by decide +kernel) rfl rfl (Nat.le_of_ble_eq_true rfl) dX6_copyFrom_60 (fun H locs hP hD hS => ?_)
        have hP : va_P D vwCl [(aT, .inr (5, [.ref aP, .ref aS, .ref aSe, .int zsto, .int zdro, .int fou])), (aP, .inr (2, [.ref aLe, .ref aSh, .int told, .int wl, .int wr])), (aLe, .inl (cI 0, 10, .inl le)), (aSh, .inl (cI 0, 10, .inl sh)), (aS, .inr (3, [.ref aTk, .ref aSr, .int rolls, .int frm])), (aTk, .inl (cI 0, 21, .inl tk)), (aSr, .inl (cI 0, 11, .inl sr)), (aSe, .inl (cI 0, 3, .inl se)), (azT, .inr (5, [.ref azP, .ref azS, .ref azSe, .int zsto, .int zdro, .int zfou])), (azP, .inr (2, [.ref azLe, .ref azSh, .int ztold, .int zwl, .int zwr])), (azLe, .inl (cI 0, 10, .inl zle)), (azSh, .inl (cI 0, 10, .inl zsh)), (azS, .inr (3, [.ref azTk, .ref azSr, .int zrolls, .int zfrm])), (azTk, .inl (cI 0, 21, .inl ztk)), (azSr, .inl (cI 0, 11, .inl zsr)), (azSe, .inl (cI 0, 3, .inl zse))] H := hP
        have hD : va_D A [(aT, .inr (5, [.ref aP, .ref aS, .ref aSe, .int zsto, .int zdro, .int fou])), (aP, .inr (2, [.ref aLe, .ref aSh, .int told, .int wl, .int wr])), (aLe, .inl (cI 0, 10, .inl le)), (aSh, .inl (cI 0, 10, .inl sh)), (aS, .inr (3, [.ref aTk, .ref aSr, .int rolls, .int frm])), (aTk, .inl (cI 0, 21, .inl tk)), (aSr, .inl (cI 0, 11, .inl sr)), (aSe, .inl (cI 0, 3, .inl se)), (azT, .inr (5, [.ref azP, .ref azS, .ref azSe, .int zsto, .int zdro, .int zfou])), (azP, .inr (2, [.ref azLe, .ref azSh, .int ztold, .int zwl, .int zwr])), (azLe, .inl (cI 0, 10, .inl zle)), (azSh, .inl (cI 0, 10, .inl zsh)), (azS, .inr (3, [.ref azTk, .ref azSr, .int zrolls, .int zfrm])), (azTk, .inl (cI 0, 21, .inl ztk)), (azSr, .inl (cI 0, 11, .inl zsr)), (azSe, .inl (cI 0, 3, .inl zse))] := hD
        refine lv_aload_n hx hb dX6_copyFrom_63 rfl (lv_at hl 0 rfl) ?_
        refine lv_aload_n hx hb dX6_copyFrom_64 rfl (lv_at hl 1 rfl) ?_
        refine va_get (D := D) (ci := 5) (v := .int zfou) (C := RX6) (T := TX6) (N := 6) hx hb hts iw_X6_copyFrom_X6 hown hK.1 hP 8 rfl rfl 5 (by decide) (hts (.fieldLink RX6 45 "PinDeck$State" "fouls" "I") (by decide +kernel)) (fun _ h9 => h9) rfl dX6_copyFrom_65 ?_
        refine va_put (D := D) (ci := 5) (v := .int zfou) (ty := .int) (C := RX6) (T := TX6) (N := 6) hx hb hts iw_X6_copyFrom_X6 tyX6 tyX6_ok nmX6 hown hK.1 hP hD hS 0 rfl rfl 5 (by decide) (hts (.fieldLink RX6 45 "PinDeck$State" "fouls" "I") (by decide +kernel)) (fun _ h9 => h9) rfl (by decide +kernel) rfl rfl (Nat.le_of_ble_eq_true rfl) dX6_copyFrom_68 (fun H locs hP hD hS => ?_)
        have hP : va_P D vwCl [(aT, .inr (5, [.ref aP, .ref aS, .ref aSe, .int zsto, .int zdro, .int zfou])), (aP, .inr (2, [.ref aLe, .ref aSh, .int told, .int wl, .int wr])), (aLe, .inl (cI 0, 10, .inl le)), (aSh, .inl (cI 0, 10, .inl sh)), (aS, .inr (3, [.ref aTk, .ref aSr, .int rolls, .int frm])), (aTk, .inl (cI 0, 21, .inl tk)), (aSr, .inl (cI 0, 11, .inl sr)), (aSe, .inl (cI 0, 3, .inl se)), (azT, .inr (5, [.ref azP, .ref azS, .ref azSe, .int zsto, .int zdro, .int zfou])), (azP, .inr (2, [.ref azLe, .ref azSh, .int ztold, .int zwl, .int zwr])), (azLe, .inl (cI 0, 10, .inl zle)), (azSh, .inl (cI 0, 10, .inl zsh)), (azS, .inr (3, [.ref azTk, .ref azSr, .int zrolls, .int zfrm])), (azTk, .inl (cI 0, 21, .inl ztk)), (azSr, .inl (cI 0, 11, .inl zsr)), (azSe, .inl (cI 0, 3, .inl zse))] H := hP
        have hD : va_D A [(aT, .inr (5, [.ref aP, .ref aS, .ref aSe, .int zsto, .int zdro, .int zfou])), (aP, .inr (2, [.ref aLe, .ref aSh, .int told, .int wl, .int wr])), (aLe, .inl (cI 0, 10, .inl le)), (aSh, .inl (cI 0, 10, .inl sh)), (aS, .inr (3, [.ref aTk, .ref aSr, .int rolls, .int frm])), (aTk, .inl (cI 0, 21, .inl tk)), (aSr, .inl (cI 0, 11, .inl sr)), (aSe, .inl (cI 0, 3, .inl se)), (azT, .inr (5, [.ref azP, .ref azS, .ref azSe, .int zsto, .int zdro, .int zfou])), (azP, .inr (2, [.ref azLe, .ref azSh, .int ztold, .int zwl, .int zwr])), (azLe, .inl (cI 0, 10, .inl zle)), (azSh, .inl (cI 0, 10, .inl zsh)), (azS, .inr (3, [.ref azTk, .ref azSr, .int zrolls, .int zfrm])), (azTk, .inl (cI 0, 21, .inl ztk)), (azSr, .inl (cI 0, 11, .inl zsr)), (azSe, .inl (cI 0, 3, .inl zse))] := hD
        have ho := Option.some.inj hq
        subst ho
        exact hend _ _ _ _ hP hS dX6_copyFrom_71
      · have hq := kite_f c9 hq
        refine lv_aload_n hx hb dX6_copyFrom_29 rfl (lv_at hl 0 rfl) ?_
        refine va_get (D := D) (ci := 5) (v := .ref aSe) (C := RX6) (T := TX6) (N := 6) hx hb hts iw_X6_copyFrom_X6 hown hK.1 hP 0 rfl rfl 2 (by decide) (hts (.fieldLink RX6 25 "PinDeck$State" "settings" "[I") (by decide +kernel)) (fun _ h9 => h9) rfl dX6_copyFrom_30 ?_
        refine lv_iload_n hx hb dX6_copyFrom_33 rfl (lv_at hl 2 rfl) ?_
        refine lv_aload_n hx hb dX6_copyFrom_34 rfl (lv_at hl 1 rfl) ?_
        refine va_get (D := D) (ci := 5) (v := .ref azSe) (C := RX6) (T := TX6) (N := 6) hx hb hts iw_X6_copyFrom_X6 hown hK.1 hP 8 rfl rfl 2 (by decide) (hts (.fieldLink RX6 25 "PinDeck$State" "settings" "[I") (by decide +kernel)) (fun _ h9 => h9) rfl dX6_copyFrom_35 ?_
        refine lv_iload_n hx hb dX6_copyFrom_38 rfl (lv_at hl 2 rfl) ?_
        obtain ⟨hz, hq⟩ := kite_n hq
        refine k_iald (j := (x2.toNatClampNeg)) hx hb hK.1 hP 15 0 rfl rfl hz rfl dX6_copyFrom_39 ?_
        obtain ⟨hz, hq⟩ := kite_n hq
        refine k_iast (j := (x2.toNatClampNeg)) hx hb hK.1 hP hD hS 7 0 rfl rfl hz rfl dX6_copyFrom_40 (fun H locs hP hD hS => ?_)
        have hP : va_P D vwCl [(aT, .inr (5, [.ref aP, .ref aS, .ref aSe, .int sto, .int dro, .int fou])), (aP, .inr (2, [.ref aLe, .ref aSh, .int told, .int wl, .int wr])), (aLe, .inl (cI 0, 10, .inl le)), (aSh, .inl (cI 0, 10, .inl sh)), (aS, .inr (3, [.ref aTk, .ref aSr, .int rolls, .int frm])), (aTk, .inl (cI 0, 21, .inl tk)), (aSr, .inl (cI 0, 11, .inl sr)), (aSe, .inl (cI 0, 3, .inl (upd se (x2.toNatClampNeg) (zse (x2.toNatClampNeg))))), (azT, .inr (5, [.ref azP, .ref azS, .ref azSe, .int zsto, .int zdro, .int zfou])), (azP, .inr (2, [.ref azLe, .ref azSh, .int ztold, .int zwl, .int zwr])), (azLe, .inl (cI 0, 10, .inl zle)), (azSh, .inl (cI 0, 10, .inl zsh)), (azS, .inr (3, [.ref azTk, .ref azSr, .int zrolls, .int zfrm])), (azTk, .inl (cI 0, 21, .inl ztk)), (azSr, .inl (cI 0, 11, .inl zsr)), (azSe, .inl (cI 0, 3, .inl zse))] H := hP
        have hD : va_D A [(aT, .inr (5, [.ref aP, .ref aS, .ref aSe, .int sto, .int dro, .int fou])), (aP, .inr (2, [.ref aLe, .ref aSh, .int told, .int wl, .int wr])), (aLe, .inl (cI 0, 10, .inl le)), (aSh, .inl (cI 0, 10, .inl sh)), (aS, .inr (3, [.ref aTk, .ref aSr, .int rolls, .int frm])), (aTk, .inl (cI 0, 21, .inl tk)), (aSr, .inl (cI 0, 11, .inl sr)), (aSe, .inl (cI 0, 3, .inl (upd se (x2.toNatClampNeg) (zse (x2.toNatClampNeg))))), (azT, .inr (5, [.ref azP, .ref azS, .ref azSe, .int zsto, .int zdro, .int zfou])), (azP, .inr (2, [.ref azLe, .ref azSh, .int ztold, .int zwl, .int zwr])), (azLe, .inl (cI 0, 10, .inl zle)), (azSh, .inl (cI 0, 10, .inl zsh)), (azS, .inr (3, [.ref azTk, .ref azSr, .int zrolls, .int zfrm])), (azTk, .inl (cI 0, 21, .inl ztk)), (azSr, .inl (cI 0, 11, .inl zsr)), (azSe, .inl (cI 0, 3, .inl zse))] := hD
        refine lv_iinc (v := (x2 + 1)) (lv' := [(2, .int (x2 + 1)), (0, .ref aT), (1, .ref azT)]) hx hb dX6_copyFrom_41 hl (k := 2) rfl rfl (by decide) rfl (fun ls hl => ?_)
        refine lv_goto (tgt := 24) hx hb dX6_copyFrom_44 (by decide) ?_
        exact ih _ _ _ sto dro fou told le sh rolls frm tk sr (upd se (x2.toNatClampNeg) (zse (x2.toNatClampNeg))) (x2 + 1) hq hP hD hS (lv_sub hl [1, 2, 0] rfl)
  refine lv_aload_n hx hb dX6_copyFrom_0 rfl (lv_at hl 0 rfl) ?_
  refine va_get (D := D) (ci := 5) (v := .ref aP) (C := RX6) (T := TX6) (N := 6) hx hb hts iw_X6_copyFrom_X6 hown hK.1 hP 0 rfl rfl 0 (by decide) (hts (.fieldLink RX6 12 "PinDeck$State" "pins" "LPinDeck$Pins;") (by decide +kernel)) (fun _ h9 => h9) rfl dX6_copyFrom_1 ?_
  refine lv_aload_n hx hb dX6_copyFrom_4 rfl (lv_at hl 1 rfl) ?_
  refine va_get (D := D) (ci := 5) (v := .ref azP) (C := RX6) (T := TX6) (N := 6) hx hb hts iw_X6_copyFrom_X6 hown hK.1 hP 8 rfl rfl 0 (by decide) (hts (.fieldLink RX6 12 "PinDeck$State" "pins" "LPinDeck$Pins;") (by decide +kernel)) (fun _ h9 => h9) rfl dX6_copyFrom_5 ?_
  obtain ⟨o8, ho8, hq⟩ := kbind hq
  refine kc_Vv (av := [.ref azP]) (rest := []) hF hK hG hA (mk_X2_copyFrom l D cI aP aLe aSh azP azLe azSh s.heap.size told wl wr le sh ztold zwl zwr zle zsh o8 ho8) (cwV 1 hts gX6_copyFrom_X2_copyFrom rfl rfl rfl (by decide +kernel) ⟨Nat.le_of_ble_eq_true rfl, Nat.le_of_ble_eq_true rfl⟩) hP hD hS [1, 2, 3, 9, 10, 11] (by decide) rfl rfl 0 rfl rfl rfl hl.1 rfl (Nat.le_of_ble_eq_true rfl) ⟨Nat.zero_le _, Nat.zero_le _⟩ dX6_copyFrom_8 (fun H locs hP hD hS => ?_)
  have hP : va_P D vwCl [(aT, .inr (5, [.ref aP, .ref aS, .ref aSe, .int sto, .int dro, .int fou])), (aP, .inr (2, [.ref aLe, .ref aSh, .int o8.1, .int wl, .int wr])), (aLe, .inl (cI 0, 10, .inl o8.2.1)), (aSh, .inl (cI 0, 10, .inl o8.2.2)), (aS, .inr (3, [.ref aTk, .ref aSr, .int rolls, .int frm])), (aTk, .inl (cI 0, 21, .inl tk)), (aSr, .inl (cI 0, 11, .inl sr)), (aSe, .inl (cI 0, 3, .inl se)), (azT, .inr (5, [.ref azP, .ref azS, .ref azSe, .int zsto, .int zdro, .int zfou])), (azP, .inr (2, [.ref azLe, .ref azSh, .int ztold, .int zwl, .int zwr])), (azLe, .inl (cI 0, 10, .inl zle)), (azSh, .inl (cI 0, 10, .inl zsh)), (azS, .inr (3, [.ref azTk, .ref azSr, .int zrolls, .int zfrm])), (azTk, .inl (cI 0, 21, .inl ztk)), (azSr, .inl (cI 0, 11, .inl zsr)), (azSe, .inl (cI 0, 3, .inl zse))] H := hP
  have hD : va_D A [(aT, .inr (5, [.ref aP, .ref aS, .ref aSe, .int sto, .int dro, .int fou])), (aP, .inr (2, [.ref aLe, .ref aSh, .int o8.1, .int wl, .int wr])), (aLe, .inl (cI 0, 10, .inl o8.2.1)), (aSh, .inl (cI 0, 10, .inl o8.2.2)), (aS, .inr (3, [.ref aTk, .ref aSr, .int rolls, .int frm])), (aTk, .inl (cI 0, 21, .inl tk)), (aSr, .inl (cI 0, 11, .inl sr)), (aSe, .inl (cI 0, 3, .inl se)), (azT, .inr (5, [.ref azP, .ref azS, .ref azSe, .int zsto, .int zdro, .int zfou])), (azP, .inr (2, [.ref azLe, .ref azSh, .int ztold, .int zwl, .int zwr])), (azLe, .inl (cI 0, 10, .inl zle)), (azSh, .inl (cI 0, 10, .inl zsh)), (azS, .inr (3, [.ref azTk, .ref azSr, .int zrolls, .int zfrm])), (azTk, .inl (cI 0, 21, .inl ztk)), (azSr, .inl (cI 0, 11, .inl zsr)), (azSe, .inl (cI 0, 3, .inl zse))] := hD
  refine lv_aload_n hx hb dX6_copyFrom_11 rfl (lv_at hl 0 rfl) ?_
  refine va_get (D := D) (ci := 5) (v := .ref aS) (C := RX6) (T := TX6) (N := 6) hx hb hts iw_X6_copyFrom_X6 hown hK.1 hP 0 rfl rfl 1 (by decide) (hts (.fieldLink RX6 21 "PinDeck$State" "sheet" "LPinDeck$Sheet;") (by decide +kernel)) (fun _ h9 => h9) rfl dX6_copyFrom_12 ?_
  refine lv_aload_n hx hb dX6_copyFrom_15 rfl (lv_at hl 1 rfl) ?_
  refine va_get (D := D) (ci := 5) (v := .ref azS) (C := RX6) (T := TX6) (N := 6) hx hb hts iw_X6_copyFrom_X6 hown hK.1 hP 8 rfl rfl 1 (by decide) (hts (.fieldLink RX6 21 "PinDeck$State" "sheet" "LPinDeck$Sheet;") (by decide +kernel)) (fun _ h9 => h9) rfl dX6_copyFrom_16 ?_
  obtain ⟨o19, ho19, hq⟩ := kbind hq
  refine kc_Vv (av := [.ref azS]) (rest := []) hF hK hG hA (mk_X4_copyFrom l D cI aS aTk aSr azS azTk azSr H.size rolls frm tk sr zrolls zfrm ztk zsr o19 ho19) (cwV 1 hts gX6_copyFrom_X4_copyFrom rfl rfl rfl (by decide +kernel) ⟨Nat.le_of_ble_eq_true rfl, Nat.le_of_ble_eq_true rfl⟩) hP hD hS [4, 5, 6, 12, 13, 14] (by decide) rfl rfl 0 rfl rfl rfl hl.1 rfl (Nat.le_of_ble_eq_true rfl) ⟨Nat.zero_le _, Nat.zero_le _⟩ dX6_copyFrom_19 (fun H locs hP hD hS => ?_)
  have hP : va_P D vwCl [(aT, .inr (5, [.ref aP, .ref aS, .ref aSe, .int sto, .int dro, .int fou])), (aP, .inr (2, [.ref aLe, .ref aSh, .int o8.1, .int wl, .int wr])), (aLe, .inl (cI 0, 10, .inl o8.2.1)), (aSh, .inl (cI 0, 10, .inl o8.2.2)), (aS, .inr (3, [.ref aTk, .ref aSr, .int o19.1, .int o19.2.1])), (aTk, .inl (cI 0, 21, .inl o19.2.2.1)), (aSr, .inl (cI 0, 11, .inl o19.2.2.2)), (aSe, .inl (cI 0, 3, .inl se)), (azT, .inr (5, [.ref azP, .ref azS, .ref azSe, .int zsto, .int zdro, .int zfou])), (azP, .inr (2, [.ref azLe, .ref azSh, .int ztold, .int zwl, .int zwr])), (azLe, .inl (cI 0, 10, .inl zle)), (azSh, .inl (cI 0, 10, .inl zsh)), (azS, .inr (3, [.ref azTk, .ref azSr, .int zrolls, .int zfrm])), (azTk, .inl (cI 0, 21, .inl ztk)), (azSr, .inl (cI 0, 11, .inl zsr)), (azSe, .inl (cI 0, 3, .inl zse))] H := hP
  have hD : va_D A [(aT, .inr (5, [.ref aP, .ref aS, .ref aSe, .int sto, .int dro, .int fou])), (aP, .inr (2, [.ref aLe, .ref aSh, .int o8.1, .int wl, .int wr])), (aLe, .inl (cI 0, 10, .inl o8.2.1)), (aSh, .inl (cI 0, 10, .inl o8.2.2)), (aS, .inr (3, [.ref aTk, .ref aSr, .int o19.1, .int o19.2.1])), (aTk, .inl (cI 0, 21, .inl o19.2.2.1)), (aSr, .inl (cI 0, 11, .inl o19.2.2.2)), (aSe, .inl (cI 0, 3, .inl se)), (azT, .inr (5, [.ref azP, .ref azS, .ref azSe, .int zsto, .int zdro, .int zfou])), (azP, .inr (2, [.ref azLe, .ref azSh, .int ztold, .int zwl, .int zwr])), (azLe, .inl (cI 0, 10, .inl zle)), (azSh, .inl (cI 0, 10, .inl zsh)), (azS, .inr (3, [.ref azTk, .ref azSr, .int zrolls, .int zfrm])), (azTk, .inl (cI 0, 21, .inl ztk)), (azSr, .inl (cI 0, 11, .inl zsr)), (azSe, .inl (cI 0, 3, .inl zse))] := hD
  refine lv_iconst (v := 0) hx hb dX6_copyFrom_22 (by decide) ?_
  refine lv_istore_n (lv' := [(2, .int (0 : Int32)), (0, .ref aT), (1, .ref azT)]) hx hb dX6_copyFrom_23 rfl hl (by decide) rfl (fun ls hl => ?_)
  exact b_24 4096 _ _ _ sto dro fou o8.1 o8.2.1 o8.2.2 o19.1 o19.2.1 o19.2.2.1 o19.2.2.2 se (0 : Int32) hq hP hD hS (lv_sub hl [1, 2, 0] rfl)

set_option maxHeartbeats 4000000 in
set_option maxRecDepth 100000 in
theorem mk_X7_isSetting (l : Launch) (D : va_G) (cI : Nat → ClassId) (sz : Nat) (x0 : Int32) (o : Int32) (hq : fn_X7_isSetting x0 = some o) : Met l yX7_isSetting wsX7_isSetting ({ frames := 0, cells := 0, slots := 0, locals := 0 }) (kPc D cI [] sz [.int x0]) (kQi D [] [] sz o) 0 0 (va_A [] sz) := by
  refine kM_z (cc := cX7_isSetting) (maxL := 1) (by decide +kernel) rfl (Nat.le_of_ble_eq_true rfl) ?_
  intro p e s m args below meth c A Q hF hK hG hD hA hend ls hP hS hl
  obtain ⟨hx, hb, hml, hown, hts⟩ := id hF
  have hl : lv_has ls 1 [(0, .int x0)] := hl
  have b_14 : ∀ (H : Heap) (locs : List Loc) (ls : Array Slot) (k0 : Int32), fn_X7_isSetting_14 k0 = some o → va_P D vwCl [] H → va_S A s.heap H locs → lv_has ls 1 [] → W p l e { frames := 0, cells := 0, slots := 0, locals := 0 } s m args below meth c H locs 0 0 Q (F0 m 14 ls [.int k0]) := by
    intro H locs ls k0
    intro hq hP hS hl
    obtain ⟨hz, hq⟩ := kite_b hq
    have ho := Option.some.inj hq
    subst ho
    exact hend _ _ _ _ hz hP hS dX7_isSetting_14
  have b_13 : ∀ (H : Heap) (locs : List Loc) (ls : Array Slot), fn_X7_isSetting_13  = some o → va_P D vwCl [] H → va_S A s.heap H locs → lv_has ls 1 [] → W p l e { frames := 0, cells := 0, slots := 0, locals := 0 } s m args below meth c H locs 0 0 Q (F0 m 13 ls []) := by
    intro H locs ls 
    intro hq hP hS hl
    refine lv_iconst (v := 0) hx hb dX7_isSetting_13 (by decide) ?_
    exact b_14  _ _ _ (0 : Int32) hq hP hS (lv_sub hl [] rfl)
  refine lv_iload_n hx hb dX7_isSetting_0 rfl (lv_at hl 0 rfl) ?_
  refine lv_if_lt (tgt := 13) hx hb dX7_isSetting_1 (by decide) (fun c9 => ?_) (fun c9 => ?_)
  · have hq := kite_t c9 hq
    exact b_13  _ _ _  hq hP hS (lv_sub hl [] rfl)
  · have hq := kite_f c9 hq
    refine lv_iload_n hx hb dX7_isSetting_4 rfl (lv_at hl 0 rfl) ?_
    refine lv_iconst (v := 3) hx hb dX7_isSetting_5 (by decide) ?_
    refine lv_icmp_ge (tgt := 13) hx hb dX7_isSetting_6 (by decide) (fun c9 => ?_) (fun c9 => ?_)
    · have hq := kite_t c9 hq
      exact b_13  _ _ _  hq hP hS (lv_sub hl [] rfl)
    · have hq := kite_f c9 hq
      refine lv_iconst (v := 1) hx hb dX7_isSetting_9 (by decide) ?_
      refine lv_goto (tgt := 14) hx hb dX7_isSetting_10 (by decide) ?_
      exact b_14  _ _ _ (1 : Int32) hq hP hS (lv_sub hl [] rfl)

theorem iw_X6_settingAt_X6 : ∀ w ∈ wsX60, w ∈ wsX6_settingAt := by decide +kernel
set_option maxHeartbeats 4000000 in
set_option maxRecDepth 100000 in
theorem mk_X6_settingAt (l : Launch) (D : va_G) (cI : Nat → ClassId) (aT aP aS aSe : Nat) (sz : Nat) (sto : Int32) (dro : Int32) (fou : Int32) (se : kF) (x1 : Int32) (o : Int32) (hq : fn_X6_settingAt se x1 = some o) : Met l yX6_settingAt wsX6_settingAt ({ frames := 1, cells := 0, slots := 0, locals := 20 }) (kPc D cI [(aT, .inr (5, [.ref aP, .ref aS, .ref aSe, .int sto, .int dro, .int fou])), (aSe, .inl (cI 0, 3, .inl se))] sz [.ref aT, .int x1]) (kQi D [(aT, .inr (5, [.ref aP, .ref aS, .ref aSe, .int sto, .int dro, .int fou])), (aSe, .inl (cI 0, 3, .inl se))] [(aT, .inr (5, [.ref aP, .ref aS, .ref aSe, .int sto, .int dro, .int fou])), (aSe, .inl (cI 0, 3, .inl se))] sz o) 0 0 (va_A [(aT, .inr (5, [.ref aP, .ref aS, .ref aSe, .int sto, .int dro, .int fou])), (aSe, .inl (cI 0, 3, .inl se))] sz) := by
  refine kM_i (cc := cX6_settingAt) (maxL := 2) (by decide +kernel) rfl (Nat.le_of_ble_eq_true rfl) ?_
  intro p e s m args below meth c A Q hF hK hG hD hA hend ls hP hS hl
  obtain ⟨hx, hb, hml, hown, hts⟩ := id hF
  have hl : lv_has ls 2 [(0, .ref aT), (1, .int x1)] := hl
  have b_17 : ∀ (H : Heap) (locs : List Loc) (ls : Array Slot) (k0 : Int32), fn_X6_settingAt_17 se k0 = some o → va_P D vwCl [(aT, .inr (5, [.ref aP, .ref aS, .ref aSe, .int sto, .int dro, .int fou])), (aSe, .inl (cI 0, 3, .inl se))] H → va_S A s.heap H locs → lv_has ls 2 [] → W p l e { frames := 1, cells := 0, slots := 0, locals := 20 } s m args below meth c H locs 0 0 Q (F0 m 17 ls [.int k0]) := by
    intro H locs ls k0
    intro hq hP hS hl
    have ho := Option.some.inj hq
    subst ho
    exact hend _ _ _ _ hP hS dX6_settingAt_17
  refine lv_iload_n hx hb dX6_settingAt_0 rfl (lv_at hl 1 rfl) ?_
  obtain ⟨o1, ho1, hq⟩ := kbind hq
  refine kc_Ni (av := [.int x1]) (rest := []) hF hK hG hA (mk_X7_isSetting l D cI s.heap.size x1 o1 ho1) ⟨va_cnB 1 hts gX6_settingAt_X7_isSetting_n55 rfl rfl rfl (hK.2.1 (.methodLinkNest "PinDeck$State" 55 ⟨"PinDeck", "isSetting", "(I)Z"⟩ "PinDeck") (by decide +kernel)) (hts (.initialized RX7) (by decide +kernel)) (by decide +kernel) ⟨Nat.le_of_ble_eq_true rfl, Nat.le_of_ble_eq_true rfl⟩, hts (.static yX7_isSetting) (by decide +kernel), trivial⟩ hP hD hS [] (by decide) rfl rfl rfl hl.1 rfl (Nat.le_of_ble_eq_true rfl) ⟨Nat.zero_le _, Nat.zero_le _⟩ dX6_settingAt_1 (fun H locs hP hD hS => ?_)
  have hP : va_P D vwCl [(aT, .inr (5, [.ref aP, .ref aS, .ref aSe, .int sto, .int dro, .int fou])), (aSe, .inl (cI 0, 3, .inl se))] H := hP
  have hD : va_D A [(aT, .inr (5, [.ref aP, .ref aS, .ref aSe, .int sto, .int dro, .int fou])), (aSe, .inl (cI 0, 3, .inl se))] := hD
  refine lv_if_eq (tgt := 16) hx hb dX6_settingAt_4 (by decide) (fun c9 => ?_) (fun c9 => ?_)
  · have hq := kite_t c9 hq
    refine lv_iconst (v := 0) hx hb dX6_settingAt_16 (by decide) ?_
    exact b_17  _ _ _ (0 : Int32) hq hP hS (lv_sub hl [] rfl)
  · have hq := kite_f c9 hq
    refine lv_aload_n hx hb dX6_settingAt_7 rfl (lv_at hl 0 rfl) ?_
    refine va_get (D := D) (ci := 5) (v := .ref aSe) (C := RX6) (T := TX6) (N := 6) hx hb hts iw_X6_settingAt_X6 hown hK.1 hP 0 rfl rfl 2 (by decide) (hts (.fieldLink RX6 25 "PinDeck$State" "settings" "[I") (by decide +kernel)) (fun _ h9 => h9) rfl dX6_settingAt_8 ?_
    refine lv_iload_n hx hb dX6_settingAt_11 rfl (lv_at hl 1 rfl) ?_
    obtain ⟨hz, hq⟩ := kite_n hq
    refine k_iald (j := (x1.toNatClampNeg)) hx hb hK.1 hP 1 0 rfl rfl hz rfl dX6_settingAt_12 ?_
    refine lv_goto (tgt := 17) hx hb dX6_settingAt_13 (by decide) ?_
    exact b_17  _ _ _ (se (x1.toNatClampNeg)) hq hP hS (lv_sub hl [] rfl)

theorem iw_X6_change_X6 : ∀ w ∈ wsX60, w ∈ wsX6_change := by decide +kernel
set_option maxHeartbeats 4000000 in
set_option maxRecDepth 100000 in
theorem mk_X6_change (l : Launch) (D : va_G) (cI : Nat → ClassId) (aT aP aS aSe : Nat) (sz : Nat) (sto : Int32) (dro : Int32) (fou : Int32) (se : kF) (x1 : Int32) (x2 : Int32) (o : Int32 × kF) (hq : fn_X6_change se x1 x2 = some o) : Met l yX6_change wsX6_change ({ frames := 2, cells := 0, slots := 0, locals := 41 }) (kPc D cI [(aT, .inr (5, [.ref aP, .ref aS, .ref aSe, .int sto, .int dro, .int fou])), (aSe, .inl (cI 0, 3, .inl se))] sz [.ref aT, .int x1, .int x2]) (kQi D [(aT, .inr (5, [.ref aP, .ref aS, .ref aSe, .int sto, .int dro, .int fou])), (aSe, .inl (cI 0, 3, .inl se))] [(aT, .inr (5, [.ref aP, .ref aS, .ref aSe, .int sto, .int dro, .int fou])), (aSe, .inl (cI 0, 3, .inl o.2))] sz o.1) 0 0 (va_A [(aT, .inr (5, [.ref aP, .ref aS, .ref aSe, .int sto, .int dro, .int fou])), (aSe, .inl (cI 0, 3, .inl se))] sz) := by
  refine kM_i (cc := cX6_change) (maxL := 4) (by decide +kernel) rfl (Nat.le_of_ble_eq_true rfl) ?_
  intro p e s m args below meth c A Q hF hK hG hD hA hend ls hP hS hl
  obtain ⟨hx, hb, hml, hown, hts⟩ := id hF
  have hl : lv_has ls 4 [(0, .ref aT), (1, .int x1), (2, .int x2)] := hl
  have b_20 : ∀ (H : Heap) (locs : List Loc) (ls : Array Slot) (se : kF) (x3 : Int32), fn_X6_change_20 se x3 = some o → va_P D vwCl [(aT, .inr (5, [.ref aP, .ref aS, .ref aSe, .int sto, .int dro, .int fou])), (aSe, .inl (cI 0, 3, .inl se))] H → va_D A [(aT, .inr (5, [.ref aP, .ref aS, .ref aSe, .int sto, .int dro, .int fou])), (aSe, .inl (cI 0, 3, .inl se))] → va_S A s.heap H locs → lv_has ls 4 [(3, .int x3)] → W p l e { frames := 2, cells := 0, slots := 0, locals := 41 } s m args below meth c H locs 0 0 Q (F0 m 20 ls []) := by
    intro H locs ls se x3
    intro hq hP hD hS hl
    refine lv_iload_n hx hb dX6_change_20 rfl (lv_at hl 0 rfl) ?_
    have ho := Option.some.inj hq
    subst ho
    exact hend _ _ _ _ hP hS dX6_change_21
  refine lv_aload_n hx hb dX6_change_0 rfl (lv_at hl 0 rfl) ?_
  refine lv_iload_n hx hb dX6_change_1 rfl (lv_at hl 1 rfl) ?_
  obtain ⟨o2, ho2, hq⟩ := kbind hq
  refine kc_Vi (av := [.int x1]) (rest := []) hF hK hG hA (mk_X6_settingAt l D cI aT aP aS aSe s.heap.size sto dro fou se x1 o2 ho2) (cwV 1 hts gX6_change_X6_settingAt rfl rfl rfl (by decide +kernel) ⟨Nat.le_of_ble_eq_true rfl, Nat.le_of_ble_eq_true rfl⟩) hP hD hS [0, 1] (by decide) rfl rfl 0 rfl rfl rfl hl.1 rfl (Nat.le_of_ble_eq_true rfl) ⟨Nat.zero_le _, Nat.zero_le _⟩ dX6_change_2 (fun H locs hP hD hS => ?_)
  have hP : va_P D vwCl [(aT, .inr (5, [.ref aP, .ref aS, .ref aSe, .int sto, .int dro, .int fou])), (aSe, .inl (cI 0, 3, .inl se))] H := hP
  have hD : va_D A [(aT, .inr (5, [.ref aP, .ref aS, .ref aSe, .int sto, .int dro, .int fou])), (aSe, .inl (cI 0, 3, .inl se))] := hD
  refine lv_istore_n (lv' := [(3, .int o2), (0, .ref aT), (1, .int x1), (2, .int x2)]) hx hb dX6_change_5 rfl hl (by decide) rfl (fun ls hl => ?_)
  refine lv_iload_n hx hb dX6_change_6 rfl (lv_at hl 2 rfl) ?_
  obtain ⟨o7, ho7, hq⟩ := kbind hq
  refine kc_Ni (av := [.int x1]) (rest := []) hF hK hG hA (mk_X7_isSetting l D cI H.size x1 o7 ho7) ⟨va_cnB 1 hts gX6_change_X7_isSetting_n55 rfl rfl rfl (hK.2.1 (.methodLinkNest "PinDeck$State" 55 ⟨"PinDeck", "isSetting", "(I)Z"⟩ "PinDeck") (by decide +kernel)) (hts (.initialized RX7) (by decide +kernel)) (by decide +kernel) ⟨Nat.le_of_ble_eq_true rfl, Nat.le_of_ble_eq_true rfl⟩, hts (.static yX7_isSetting) (by decide +kernel), trivial⟩ hP hD hS [] (by decide) rfl rfl rfl hl.1 rfl (Nat.le_of_ble_eq_true rfl) ⟨Nat.zero_le _, Nat.zero_le _⟩ dX6_change_7 (fun H locs hP hD hS => ?_)
  have hP : va_P D vwCl [(aT, .inr (5, [.ref aP, .ref aS, .ref aSe, .int sto, .int dro, .int fou])), (aSe, .inl (cI 0, 3, .inl se))] H := hP
  have hD : va_D A [(aT, .inr (5, [.ref aP, .ref aS, .ref aSe, .int sto, .int dro, .int fou])), (aSe, .inl (cI 0, 3, .inl se))] := hD
  refine lv_if_eq (tgt := 20) hx hb dX6_change_10 (by decide) (fun c9 => ?_) (fun c9 => ?_)
  · have hq := kite_t c9 hq
    exact b_20  _ _ _ se o2 hq hP hD hS (lv_sub hl [0] rfl)
  · have hq := kite_f c9 hq
    refine lv_aload_n hx hb dX6_change_13 rfl (lv_at hl 1 rfl) ?_
    refine va_get (D := D) (ci := 5) (v := .ref aSe) (C := RX6) (T := TX6) (N := 6) hx hb hts iw_X6_change_X6 hown hK.1 hP 0 rfl rfl 2 (by decide) (hts (.fieldLink RX6 25 "PinDeck$State" "settings" "[I") (by decide +kernel)) (fun _ h9 => h9) rfl dX6_change_14 ?_
    refine lv_iload_n hx hb dX6_change_17 rfl (lv_at hl 2 rfl) ?_
    refine lv_iload_n hx hb dX6_change_18 rfl (lv_at hl 3 rfl) ?_
    obtain ⟨hz, hq⟩ := kite_n hq
    refine k_iast (j := (x1.toNatClampNeg)) hx hb hK.1 hP hD hS 1 0 rfl rfl hz rfl dX6_change_19 (fun H locs hP hD hS => ?_)
    have hP : va_P D vwCl [(aT, .inr (5, [.ref aP, .ref aS, .ref aSe, .int sto, .int dro, .int fou])), (aSe, .inl (cI 0, 3, .inl (upd se (x1.toNatClampNeg) x2)))] H := hP
    have hD : va_D A [(aT, .inr (5, [.ref aP, .ref aS, .ref aSe, .int sto, .int dro, .int fou])), (aSe, .inl (cI 0, 3, .inl (upd se (x1.toNatClampNeg) x2)))] := hD
    exact b_20  _ _ _ (upd se (x1.toNatClampNeg) x2) o2 hq hP hD hS (lv_sub hl [0] rfl)

theorem iw_X6_beginGame_X6 : ∀ w ∈ wsX60, w ∈ wsX6_beginGame := by decide +kernel
set_option maxHeartbeats 4000000 in
set_option maxRecDepth 100000 in
theorem mk_X6_beginGame (l : Launch) (D : va_G) (cI : Nat → ClassId) (aT aP aS aSe aLe aSh aTk aSr : Nat) (sz : Nat) (sto : Int32) (dro : Int32) (fou : Int32) (told : Int32) (wl : Int32) (wr : Int32) (le : kF) (sh : kF) (rolls : Int32) (frm : Int32) (tk : kF) (sr : kF) (o : Int32 × Int32 × kF × kF × Int32 × Int32) (hq : fn_X6_beginGame told le sh rolls frm tk sr = some o) : Met l yX6_beginGame wsX6_beginGame ({ frames := 4, cells := 0, slots := 0, locals := 88 }) (kPc D cI [(aT, .inr (5, [.ref aP, .ref aS, .ref aSe, .int sto, .int dro, .int fou])), (aP, .inr (2, [.ref aLe, .ref aSh, .int told, .int wl, .int wr])), (aLe, .inl (cI 0, 10, .inl le)), (aSh, .inl (cI 0, 10, .inl sh)), (aS, .inr (3, [.ref aTk, .ref aSr, .int rolls, .int frm])), (aTk, .inl (cI 0, 21, .inl tk)), (aSr, .inl (cI 0, 11, .inl sr))] sz [.ref aT]) (kQi D [(aT, .inr (5, [.ref aP, .ref aS, .ref aSe, .int sto, .int dro, .int fou])), (aP, .inr (2, [.ref aLe, .ref aSh, .int told, .int wl, .int wr])), (aLe, .inl (cI 0, 10, .inl le)), (aSh, .inl (cI 0, 10, .inl sh)), (aS, .inr (3, [.ref aTk, .ref aSr, .int rolls, .int frm])), (aTk, .inl (cI 0, 21, .inl tk)), (aSr, .inl (cI 0, 11, .inl sr))] [(aT, .inr (5, [.ref aP, .ref aS, .ref aSe, .int sto, .int dro, .int fou])), (aP, .inr (2, [.ref aLe, .ref aSh, .int o.2.1, .int wl, .int wr])), (aLe, .inl (cI 0, 10, .inl o.2.2.1)), (aSh, .inl (cI 0, 10, .inl o.2.2.2.1)), (aS, .inr (3, [.ref aTk, .ref aSr, .int o.2.2.2.2.1, .int o.2.2.2.2.2])), (aTk, .inl (cI 0, 21, .inl tk)), (aSr, .inl (cI 0, 11, .inl sr))] sz o.1) 0 0 (va_A [(aT, .inr (5, [.ref aP, .ref aS, .ref aSe, .int sto, .int dro, .int fou])), (aP, .inr (2, [.ref aLe, .ref aSh, .int told, .int wl, .int wr])), (aLe, .inl (cI 0, 10, .inl le)), (aSh, .inl (cI 0, 10, .inl sh)), (aS, .inr (3, [.ref aTk, .ref aSr, .int rolls, .int frm])), (aTk, .inl (cI 0, 21, .inl tk)), (aSr, .inl (cI 0, 11, .inl sr))] sz) := by
  refine kM_i (cc := cX6_beginGame) (maxL := 2) (by decide +kernel) rfl (Nat.le_of_ble_eq_true rfl) ?_
  intro p e s m args below meth c A Q hF hK hG hD hA hend ls hP hS hl
  obtain ⟨hx, hb, hml, hown, hts⟩ := id hF
  have hl : lv_has ls 2 [(0, .ref aT)] := hl
  refine lv_aload_n hx hb dX6_beginGame_0 rfl (lv_at hl 0 rfl) ?_
  refine va_get (D := D) (ci := 5) (v := .ref aS) (C := RX6) (T := TX6) (N := 6) hx hb hts iw_X6_beginGame_X6 hown hK.1 hP 0 rfl rfl 1 (by decide) (hts (.fieldLink RX6 21 "PinDeck$State" "sheet" "LPinDeck$Sheet;") (by decide +kernel)) (fun _ h9 => h9) rfl dX6_beginGame_1 ?_
  obtain ⟨o4, ho4, hq⟩ := kbind hq
  refine kc_Vi (av := []) (rest := []) hF hK hG hA (mk_X4_allPoints l D cI aS aTk aSr s.heap.size rolls frm tk sr o4 ho4) (cwV 0 hts gX6_beginGame_X4_allPoints rfl rfl rfl (by decide +kernel) ⟨Nat.le_of_ble_eq_true rfl, Nat.le_of_ble_eq_true rfl⟩) hP hD hS [4, 5, 6] (by decide) rfl rfl 0 rfl rfl rfl hl.1 rfl (Nat.le_of_ble_eq_true rfl) ⟨Nat.zero_le _, Nat.zero_le _⟩ dX6_beginGame_4 (fun H locs hP hD hS => ?_)
  have hP : va_P D vwCl [(aT, .inr (5, [.ref aP, .ref aS, .ref aSe, .int sto, .int dro, .int fou])), (aP, .inr (2, [.ref aLe, .ref aSh, .int told, .int wl, .int wr])), (aLe, .inl (cI 0, 10, .inl le)), (aSh, .inl (cI 0, 10, .inl sh)), (aS, .inr (3, [.ref aTk, .ref aSr, .int rolls, .int frm])), (aTk, .inl (cI 0, 21, .inl tk)), (aSr, .inl (cI 0, 11, .inl sr))] H := hP
  have hD : va_D A [(aT, .inr (5, [.ref aP, .ref aS, .ref aSe, .int sto, .int dro, .int fou])), (aP, .inr (2, [.ref aLe, .ref aSh, .int told, .int wl, .int wr])), (aLe, .inl (cI 0, 10, .inl le)), (aSh, .inl (cI 0, 10, .inl sh)), (aS, .inr (3, [.ref aTk, .ref aSr, .int rolls, .int frm])), (aTk, .inl (cI 0, 21, .inl tk)), (aSr, .inl (cI 0, 11, .inl sr))] := hD
  refine lv_istore_n (lv' := [(1, .int o4), (0, .ref aT)]) hx hb dX6_beginGame_7 rfl hl (by decide) rfl (fun ls hl => ?_)
  refine lv_aload_n hx hb dX6_beginGame_8 rfl (lv_at hl 1 rfl) ?_
  refine va_get (D := D) (ci := 5) (v := .ref aP) (C := RX6) (T := TX6) (N := 6) hx hb hts iw_X6_beginGame_X6 hown hK.1 hP 0 rfl rfl 0 (by decide) (hts (.fieldLink RX6 12 "PinDeck$State" "pins" "LPinDeck$Pins;") (by decide +kernel)) (fun _ h9 => h9) rfl dX6_beginGame_9 ?_
  obtain ⟨o12, ho12, hq⟩ := kbind hq
  refine kc_Vv (av := []) (rest := []) hF hK hG hA (mk_X2_newRack l D cI aP aLe aSh H.size told wl wr le sh o12 ho12) (cwV 0 hts gX6_beginGame_X2_newRack rfl rfl rfl (by decide +kernel) ⟨Nat.le_of_ble_eq_true rfl, Nat.le_of_ble_eq_true rfl⟩) hP hD hS [1, 2, 3] (by decide) rfl rfl 0 rfl rfl rfl hl.1 rfl (Nat.le_of_ble_eq_true rfl) ⟨Nat.zero_le _, Nat.zero_le _⟩ dX6_beginGame_12 (fun H locs hP hD hS => ?_)
  have hP : va_P D vwCl [(aT, .inr (5, [.ref aP, .ref aS, .ref aSe, .int sto, .int dro, .int fou])), (aP, .inr (2, [.ref aLe, .ref aSh, .int o12.1, .int wl, .int wr])), (aLe, .inl (cI 0, 10, .inl o12.2.1)), (aSh, .inl (cI 0, 10, .inl o12.2.2)), (aS, .inr (3, [.ref aTk, .ref aSr, .int rolls, .int frm])), (aTk, .inl (cI 0, 21, .inl tk)), (aSr, .inl (cI 0, 11, .inl sr))] H := hP
  have hD : va_D A [(aT, .inr (5, [.ref aP, .ref aS, .ref aSe, .int sto, .int dro, .int fou])), (aP, .inr (2, [.ref aLe, .ref aSh, .int o12.1, .int wl, .int wr])), (aLe, .inl (cI 0, 10, .inl o12.2.1)), (aSh, .inl (cI 0, 10, .inl o12.2.2)), (aS, .inr (3, [.ref aTk, .ref aSr, .int rolls, .int frm])), (aTk, .inl (cI 0, 21, .inl tk)), (aSr, .inl (cI 0, 11, .inl sr))] := hD
  refine lv_aload_n hx hb dX6_beginGame_15 rfl (lv_at hl 1 rfl) ?_
  refine va_get (D := D) (ci := 5) (v := .ref aS) (C := RX6) (T := TX6) (N := 6) hx hb hts iw_X6_beginGame_X6 hown hK.1 hP 0 rfl rfl 1 (by decide) (hts (.fieldLink RX6 21 "PinDeck$State" "sheet" "LPinDeck$Sheet;") (by decide +kernel)) (fun _ h9 => h9) rfl dX6_beginGame_16 ?_
  obtain ⟨o19, ho19, hq⟩ := kbind hq
  refine kc_Vv (av := []) (rest := []) hF hK hG hA (mk_X4_clear l D cI aS aTk aSr H.size rolls frm o19 ho19) (cwV 0 hts gX6_beginGame_X4_clear rfl rfl rfl (by decide +kernel) ⟨Nat.le_of_ble_eq_true rfl, Nat.le_of_ble_eq_true rfl⟩) hP hD hS [4] (by decide) rfl rfl 0 rfl rfl rfl hl.1 rfl (Nat.le_of_ble_eq_true rfl) ⟨Nat.zero_le _, Nat.zero_le _⟩ dX6_beginGame_19 (fun H locs hP hD hS => ?_)
  have hP : va_P D vwCl [(aT, .inr (5, [.ref aP, .ref aS, .ref aSe, .int sto, .int dro, .int fou])), (aP, .inr (2, [.ref aLe, .ref aSh, .int o12.1, .int wl, .int wr])), (aLe, .inl (cI 0, 10, .inl o12.2.1)), (aSh, .inl (cI 0, 10, .inl o12.2.2)), (aS, .inr (3, [.ref aTk, .ref aSr, .int o19.1, .int o19.2])), (aTk, .inl (cI 0, 21, .inl tk)), (aSr, .inl (cI 0, 11, .inl sr))] H := hP
  have hD : va_D A [(aT, .inr (5, [.ref aP, .ref aS, .ref aSe, .int sto, .int dro, .int fou])), (aP, .inr (2, [.ref aLe, .ref aSh, .int o12.1, .int wl, .int wr])), (aLe, .inl (cI 0, 10, .inl o12.2.1)), (aSh, .inl (cI 0, 10, .inl o12.2.2)), (aS, .inr (3, [.ref aTk, .ref aSr, .int o19.1, .int o19.2])), (aTk, .inl (cI 0, 21, .inl tk)), (aSr, .inl (cI 0, 11, .inl sr))] := hD
  refine lv_iload_n hx hb dX6_beginGame_22 rfl (lv_at hl 0 rfl) ?_
  have ho := Option.some.inj hq
  subst ho
  exact hend _ _ _ _ hP hS dX6_beginGame_23

theorem iw_X6_stops_X6 : ∀ w ∈ wsX60, w ∈ wsX6_stops := by decide +kernel
set_option maxHeartbeats 4000000 in
set_option maxRecDepth 100000 in
theorem mk_X6_stops (l : Launch) (D : va_G) (cI : Nat → ClassId) (aT aP aS aSe : Nat) (sz : Nat) (sto : Int32) (dro : Int32) (fou : Int32) (se : kF) (x1 : Int32) (o : Int32) (hq : fn_X6_stops se x1 = some o) : Met l yX6_stops wsX6_stops ({ frames := 0, cells := 0, slots := 0, locals := 0 }) (kPc D cI [(aT, .inr (5, [.ref aP, .ref aS, .ref aSe, .int sto, .int dro, .int fou])), (aSe, .inl (cI 0, 3, .inl se))] sz [.ref aT, .int x1]) (kQi D [(aT, .inr (5, [.ref aP, .ref aS, .ref aSe, .int sto, .int dro, .int fou])), (aSe, .inl (cI 0, 3, .inl se))] [(aT, .inr (5, [.ref aP, .ref aS, .ref aSe, .int sto, .int dro, .int fou])), (aSe, .inl (cI 0, 3, .inl se))] sz o) 0 0 (va_A [(aT, .inr (5, [.ref aP, .ref aS, .ref aSe, .int sto, .int dro, .int fou])), (aSe, .inl (cI 0, 3, .inl se))] sz) := by
  refine kM_z (cc := cX6_stops) (maxL := 2) (by decide +kernel) rfl (Nat.le_of_ble_eq_true rfl) ?_
  intro p e s m args below meth c A Q hF hK hG hD hA hend ls hP hS hl
  obtain ⟨hx, hb, hml, hown, hts⟩ := id hF
  have hl : lv_has ls 2 [(0, .ref aT), (1, .int x1)] := hl
  have b_23 : ∀ (H : Heap) (locs : List Loc) (ls : Array Slot) (k0 : Int32), fn_X6_stops_23 se k0 = some o → va_P D vwCl [(aT, .inr (5, [.ref aP, .ref aS, .ref aSe, .int sto, .int dro, .int fou])), (aSe, .inl (cI 0, 3, .inl se))] H → va_S A s.heap H locs → lv_has ls 2 [] → W p l e { frames := 0, cells := 0, slots := 0, locals := 0 } s m args below meth c H locs 0 0 Q (F0 m 23 ls [.int k0]) := by
    intro H locs ls k0
    intro hq hP hS hl
    obtain ⟨hz, hq⟩ := kite_b hq
    have ho := Option.some.inj hq
    subst ho
    exact hend _ _ _ _ hz hP hS dX6_stops_23
  have b_18 : ∀ (H : Heap) (locs : List Loc) (ls : Array Slot), fn_X6_stops_18 se = some o → va_P D vwCl [(aT, .inr (5, [.ref aP, .ref aS, .ref aSe, .int sto, .int dro, .int fou])), (aSe, .inl (cI 0, 3, .inl se))] H → va_S A s.heap H locs → lv_has ls 2 [] → W p l e { frames := 0, cells := 0, slots := 0, locals := 0 } s m args below meth c H locs 0 0 Q (F0 m 18 ls []) := by
    intro H locs ls 
    intro hq hP hS hl
    refine lv_iconst (v := 1) hx hb dX6_stops_18 (by decide) ?_
    refine lv_goto (tgt := 23) hx hb dX6_stops_19 (by decide) ?_
    exact b_23  _ _ _ (1 : Int32) hq hP hS (lv_sub hl [] rfl)
  refine lv_iload_n hx hb dX6_stops_0 rfl (lv_at hl 1 rfl) ?_
  refine lv_iconst (v := 1) hx hb dX6_stops_1 (by decide) ?_
  refine lv_icmp_lt (tgt := 18) hx hb dX6_stops_2 (by decide) (fun c9 => ?_) (fun c9 => ?_)
  · have hq := kite_t c9 hq
    exact b_18  _ _ _  hq hP hS (lv_sub hl [] rfl)
  · have hq := kite_f c9 hq
    refine lv_bipush (v := 90) hx hb dX6_stops_5 (by decide) ?_
    refine lv_iload_n hx hb dX6_stops_7 rfl (lv_at hl 1 rfl) ?_
    obtain ⟨hz, hq⟩ := kite_n hq
    refine lv_idiv hx hb dX6_stops_8 hz ?_
    refine lv_aload_n hx hb dX6_stops_9 rfl (lv_at hl 0 rfl) ?_
    refine va_get (D := D) (ci := 5) (v := .ref aSe) (C := RX6) (T := TX6) (N := 6) hx hb hts iw_X6_stops_X6 hown hK.1 hP 0 rfl rfl 2 (by decide) (hts (.fieldLink RX6 25 "PinDeck$State" "settings" "[I") (by decide +kernel)) (fun _ h9 => h9) rfl dX6_stops_10 ?_
    refine lv_iconst (v := 0) hx hb dX6_stops_13 (by decide) ?_
    refine k_iald (j := 0) hx hb hK.1 hP 1 0 rfl rfl (by decide) (by decide) dX6_stops_14 ?_
    refine lv_icmp_le (tgt := 22) hx hb dX6_stops_15 (by decide) (fun c9 => ?_) (fun c9 => ?_)
    · have hq := kite_t c9 hq
      refine lv_iconst (v := 0) hx hb dX6_stops_22 (by decide) ?_
      exact b_23  _ _ _ (0 : Int32) hq hP hS (lv_sub hl [] rfl)
    · have hq := kite_f c9 hq
      exact b_18  _ _ _  hq hP hS (lv_sub hl [] rfl)

theorem iw_X6_bowl_X6 : ∀ w ∈ wsX60, w ∈ wsX6_bowl := by decide +kernel
set_option maxHeartbeats 4000000 in
set_option maxRecDepth 100000 in
theorem mk_X6_bowl (l : Launch) (D : va_G) (cI : Nat → ClassId) (aT aP aS aSe aLe aSh aTk aSr : Nat) (sz : Nat) (sto : Int32) (dro : Int32) (fou : Int32) (told : Int32) (wl : Int32) (wr : Int32) (le : kF) (sh : kF) (rolls : Int32) (frm : Int32) (tk : kF) (sr : kF) (se : kF) (x1 : Int32) (x2 : Int32) (x3 : Int32) (x4 : Int32) (o : Int32 × Int32 × Int32 × Int32 × Int32 × Int32 × Int32 × kF × kF × Int32 × Int32 × kF × kF) (hq : fn_X6_bowl sto dro fou told wl wr le sh rolls frm tk sr se x1 x2 x3 x4 = some o) : Met l yX6_bowl wsX6_bowl ({ frames := 3, cells := 0, slots := 0, locals := 75 }) (kPc D cI [(aT, .inr (5, [.ref aP, .ref aS, .ref aSe, .int sto, .int dro, .int fou])), (aP, .inr (2, [.ref aLe, .ref aSh, .int told, .int wl, .int wr])), (aLe, .inl (cI 0, 10, .inl le)), (aSh, .inl (cI 0, 10, .inl sh)), (aS, .inr (3, [.ref aTk, .ref aSr, .int rolls, .int frm])), (aTk, .inl (cI 0, 21, .inl tk)), (aSr, .inl (cI 0, 11, .inl sr)), (aSe, .inl (cI 0, 3, .inl se))] sz [.ref aT, .int x1, .int x2, .int x3, .int x4]) (kQi D [(aT, .inr (5, [.ref aP, .ref aS, .ref aSe, .int sto, .int dro, .int fou])), (aP, .inr (2, [.ref aLe, .ref aSh, .int told, .int wl, .int wr])), (aLe, .inl (cI 0, 10, .inl le)), (aSh, .inl (cI 0, 10, .inl sh)), (aS, .inr (3, [.ref aTk, .ref aSr, .int rolls, .int frm])), (aTk, .inl (cI 0, 21, .inl tk)), (aSr, .inl (cI 0, 11, .inl sr)), (aSe, .inl (cI 0, 3, .inl se))] [(aT, .inr (5, [.ref aP, .ref aS, .ref aSe, .int o.2.1, .int o.2.2.1, .int o.2.2.2.1])), (aP, .inr (2, [.ref aLe, .ref aSh, .int o.2.2.2.2.1, .int o.2.2.2.2.2.1, .int o.2.2.2.2.2.2.1])), (aLe, .inl (cI 0, 10, .inl o.2.2.2.2.2.2.2.1)), (aSh, .inl (cI 0, 10, .inl o.2.2.2.2.2.2.2.2.1)), (aS, .inr (3, [.ref aTk, .ref aSr, .int o.2.2.2.2.2.2.2.2.2.1, .int o.2.2.2.2.2.2.2.2.2.2.1])), (aTk, .inl (cI 0, 21, .inl o.2.2.2.2.2.2.2.2.2.2.2.1)), (aSr, .inl (cI 0, 11, .inl o.2.2.2.2.2.2.2.2.2.2.2.2)), (aSe, .inl (cI 0, 3, .inl se))] sz o.1) 0 0 (va_A [(aT, .inr (5, [.ref aP, .ref aS, .ref aSe, .int sto, .int dro, .int fou])), (aP, .inr (2, [.ref aLe, .ref aSh, .int told, .int wl, .int wr])), (aLe, .inl (cI 0, 10, .inl le)), (aSh, .inl (cI 0, 10, .inl sh)), (aS, .inr (3, [.ref aTk, .ref aSr, .int rolls, .int frm])), (aTk, .inl (cI 0, 21, .inl tk)), (aSr, .inl (cI 0, 11, .inl sr)), (aSe, .inl (cI 0, 3, .inl se))] sz) := by
  refine kM_i (cc := cX6_bowl) (maxL := 6) (by decide +kernel) rfl (Nat.le_of_ble_eq_true rfl) ?_
  intro p e s m args below meth c A Q hF hK hG hD hA hend ls hP hS hl
  obtain ⟨hx, hb, hml, hown, hts⟩ := id hF
  have hl : lv_has ls 6 [(0, .ref aT), (1, .int x1), (2, .int x2), (3, .int x3), (4, .int x4)] := hl
  have b_129 : ∀ (H : Heap) (locs : List Loc) (ls : Array Slot) (sto : Int32) (dro : Int32) (fou : Int32) (told : Int32) (wl : Int32) (wr : Int32) (le : kF) (sh : kF) (rolls : Int32) (frm : Int32) (tk : kF) (sr : kF) (x5 : Int32), fn_X6_bowl_129 sto dro fou told wl wr le sh rolls frm tk sr se x5 = some o → va_P D vwCl [(aT, .inr (5, [.ref aP, .ref aS, .ref aSe, .int sto, .int dro, .int fou])), (aP, .inr (2, [.ref aLe, .ref aSh, .int told, .int wl, .int wr])), (aLe, .inl (cI 0, 10, .inl le)), (aSh, .inl (cI 0, 10, .inl sh)), (aS, .inr (3, [.ref aTk, .ref aSr, .int rolls, .int frm])), (aTk, .inl (cI 0, 21, .inl tk)), (aSr, .inl (cI 0, 11, .inl sr)), (aSe, .inl (cI 0, 3, .inl se))] H → va_D A [(aT, .inr (5, [.ref aP, .ref aS, .ref aSe, .int sto, .int dro, .int fou])), (aP, .inr (2, [.ref aLe, .ref aSh, .int told, .int wl, .int wr])), (aLe, .inl (cI 0, 10, .inl le)), (aSh, .inl (cI 0, 10, .inl sh)), (aS, .inr (3, [.ref aTk, .ref aSr, .int rolls, .int frm])), (aTk, .inl (cI 0, 21, .inl tk)), (aSr, .inl (cI 0, 11, .inl sr)), (aSe, .inl (cI 0, 3, .inl se))] → va_S A s.heap H locs → lv_has ls 6 [(5, .int x5)] → W p l e { frames := 3, cells := 0, slots := 0, locals := 75 } s m args below meth c H locs 0 0 Q (F0 m 129 ls []) := by
    intro H locs ls sto dro fou told wl wr le sh rolls frm tk sr x5
    intro hq hP hD hS hl
    refine lv_iload hx hb dX6_bowl_129 (lv_at hl 0 rfl) ?_
    have ho := Option.some.inj hq
    subst ho
    exact hend _ _ _ _ hP hS dX6_bowl_131
  have b_68 : ∀ (H : Heap) (locs : List Loc) (ls : Array Slot) (sto : Int32) (dro : Int32) (fou : Int32) (told : Int32) (wl : Int32) (wr : Int32) (le : kF) (sh : kF) (rolls : Int32) (frm : Int32) (tk : kF) (sr : kF) (x5 : Int32), fn_X6_bowl_68 sto dro fou told wl wr le sh rolls frm tk sr se x5 = some o → va_P D vwCl [(aT, .inr (5, [.ref aP, .ref aS, .ref aSe, .int sto, .int dro, .int fou])), (aP, .inr (2, [.ref aLe, .ref aSh, .int told, .int wl, .int wr])), (aLe, .inl (cI 0, 10, .inl le)), (aSh, .inl (cI 0, 10, .inl sh)), (aS, .inr (3, [.ref aTk, .ref aSr, .int rolls, .int frm])), (aTk, .inl (cI 0, 21, .inl tk)), (aSr, .inl (cI 0, 11, .inl sr)), (aSe, .inl (cI 0, 3, .inl se))] H → va_D A [(aT, .inr (5, [.ref aP, .ref aS, .ref aSe, .int sto, .int dro, .int fou])), (aP, .inr (2, [.ref aLe, .ref aSh, .int told, .int wl, .int wr])), (aLe, .inl (cI 0, 10, .inl le)), (aSh, .inl (cI 0, 10, .inl sh)), (aS, .inr (3, [.ref aTk, .ref aSr, .int rolls, .int frm])), (aTk, .inl (cI 0, 21, .inl tk)), (aSr, .inl (cI 0, 11, .inl sr)), (aSe, .inl (cI 0, 3, .inl se))] → va_S A s.heap H locs → lv_has ls 6 [(0, .ref aT), (5, .int x5)] → W p l e { frames := 3, cells := 0, slots := 0, locals := 75 } s m args below meth c H locs 0 0 Q (F0 m 68 ls []) := by
    intro H locs ls sto dro fou told wl wr le sh rolls frm tk sr x5
    intro hq hP hD hS hl
    refine lv_aload_n hx hb dX6_bowl_68 rfl (lv_at hl 0 rfl) ?_
    refine va_get (D := D) (ci := 5) (v := .ref aS) (C := RX6) (T := TX6) (N := 6) hx hb hts iw_X6_bowl_X6 hown hK.1 hP 0 rfl rfl 1 (by decide) (hts (.fieldLink RX6 21 "PinDeck$State" "sheet" "LPinDeck$Sheet;") (by decide +kernel)) (fun _ h9 => h9) rfl dX6_bowl_69 ?_
    refine lv_iload hx hb dX6_bowl_72 (lv_at hl 1 rfl) ?_
    obtain ⟨o74, ho74, hq⟩ := kbind hq
    refine kc_Vv (av := [.int x5]) (rest := []) hF hK hG hA (mk_X4_add l D cI aS aTk aSr H.size rolls frm tk sr x5 o74 ho74) (cwV 1 hts gX6_bowl_X4_add rfl rfl rfl (by decide +kernel) ⟨Nat.le_of_ble_eq_true rfl, Nat.le_of_ble_eq_true rfl⟩) hP hD hS [4, 5, 6] (by decide) rfl rfl 0 rfl rfl rfl hl.1 rfl (Nat.le_of_ble_eq_true rfl) ⟨Nat.zero_le _, Nat.zero_le _⟩ dX6_bowl_74 (fun H locs hP hD hS => ?_)
    have hP : va_P D vwCl [(aT, .inr (5, [.ref aP, .ref aS, .ref aSe, .int sto, .int dro, .int fou])), (aP, .inr (2, [.ref aLe, .ref aSh, .int told, .int wl, .int wr])), (aLe, .inl (cI 0, 10, .inl le)), (aSh, .inl (cI 0, 10, .inl sh)), (aS, .inr (3, [.ref aTk, .ref aSr, .int o74.1, .int o74.2.1])), (aTk, .inl (cI 0, 21, .inl o74.2.2.1)), (aSr, .inl (cI 0, 11, .inl o74.2.2.2)), (aSe, .inl (cI 0, 3, .inl se))] H := hP
    have hD : va_D A [(aT, .inr (5, [.ref aP, .ref aS, .ref aSe, .int sto, .int dro, .int fou])), (aP, .inr (2, [.ref aLe, .ref aSh, .int told, .int wl, .int wr])), (aLe, .inl (cI 0, 10, .inl le)), (aSh, .inl (cI 0, 10, .inl sh)), (aS, .inr (3, [.ref aTk, .ref aSr, .int o74.1, .int o74.2.1])), (aTk, .inl (cI 0, 21, .inl o74.2.2.1)), (aSr, .inl (cI 0, 11, .inl o74.2.2.2)), (aSe, .inl (cI 0, 3, .inl se))] := hD
    refine lv_aload_n hx hb dX6_bowl_77 rfl (lv_at hl 0 rfl) ?_
    refine va_get (D := D) (ci := 5) (v := .ref aS) (C := RX6) (T := TX6) (N := 6) hx hb hts iw_X6_bowl_X6 hown hK.1 hP 0 rfl rfl 1 (by decide) (hts (.fieldLink RX6 21 "PinDeck$State" "sheet" "LPinDeck$Sheet;") (by decide +kernel)) (fun _ h9 => h9) rfl dX6_bowl_78 ?_
    obtain ⟨o81, ho81, hq⟩ := kbind hq
    refine kc_Vi (av := []) (rest := []) hF hK hG hA (mk_X4_wantsNewRack l D cI aS aTk aSr H.size o74.1 o74.2.1 o74.2.2.1 o74.2.2.2 o81 ho81) (cwV 0 hts gX6_bowl_X4_wantsNewRack rfl rfl rfl (by decide +kernel) ⟨Nat.le_of_ble_eq_true rfl, Nat.le_of_ble_eq_true rfl⟩) hP hD hS [4, 5, 6] (by decide) rfl rfl 0 rfl rfl rfl hl.1 rfl (Nat.le_of_ble_eq_true rfl) ⟨Nat.zero_le _, Nat.zero_le _⟩ dX6_bowl_81 (fun H locs hP hD hS => ?_)
    have hP : va_P D vwCl [(aT, .inr (5, [.ref aP, .ref aS, .ref aSe, .int sto, .int dro, .int fou])), (aP, .inr (2, [.ref aLe, .ref aSh, .int told, .int wl, .int wr])), (aLe, .inl (cI 0, 10, .inl le)), (aSh, .inl (cI 0, 10, .inl sh)), (aS, .inr (3, [.ref aTk, .ref aSr, .int o74.1, .int o74.2.1])), (aTk, .inl (cI 0, 21, .inl o74.2.2.1)), (aSr, .inl (cI 0, 11, .inl o74.2.2.2)), (aSe, .inl (cI 0, 3, .inl se))] H := hP
    have hD : va_D A [(aT, .inr (5, [.ref aP, .ref aS, .ref aSe, .int sto, .int dro, .int fou])), (aP, .inr (2, [.ref aLe, .ref aSh, .int told, .int wl, .int wr])), (aLe, .inl (cI 0, 10, .inl le)), (aSh, .inl (cI 0, 10, .inl sh)), (aS, .inr (3, [.ref aTk, .ref aSr, .int o74.1, .int o74.2.1])), (aTk, .inl (cI 0, 21, .inl o74.2.2.1)), (aSr, .inl (cI 0, 11, .inl o74.2.2.2)), (aSe, .inl (cI 0, 3, .inl se))] := hD
    refine lv_if_eq (tgt := 97) hx hb dX6_bowl_84 (by decide) (fun c9 => ?_) (fun c9 => ?_)
    · have hq := kite_t c9 hq
      refine lv_aload_n hx hb dX6_bowl_97 rfl (lv_at hl 0 rfl) ?_
      refine va_get (D := D) (ci := 5) (v := .ref aS) (C := RX6) (T := TX6) (N := 6) hx hb hts iw_X6_bowl_X6 hown hK.1 hP 0 rfl rfl 1 (by decide) (hts (.fieldLink RX6 21 "PinDeck$State" "sheet" "LPinDeck$Sheet;") (by decide +kernel)) (fun _ h9 => h9) rfl dX6_bowl_98 ?_
      obtain ⟨o101, ho101, hq⟩ := kbind hq
      refine kc_Vi (av := []) (rest := []) hF hK hG hA (mk_X4_isOver l D cI aS aTk aSr H.size o74.1 o74.2.1 o101 ho101) (cwV 0 hts gX6_bowl_X4_isOver rfl rfl rfl (by decide +kernel) ⟨Nat.le_of_ble_eq_true rfl, Nat.le_of_ble_eq_true rfl⟩) hP hD hS [4] (by decide) rfl rfl 0 rfl rfl rfl hl.1 rfl (Nat.le_of_ble_eq_true rfl) ⟨Nat.zero_le _, Nat.zero_le _⟩ dX6_bowl_101 (fun H locs hP hD hS => ?_)
      have hP : va_P D vwCl [(aT, .inr (5, [.ref aP, .ref aS, .ref aSe, .int sto, .int dro, .int fou])), (aP, .inr (2, [.ref aLe, .ref aSh, .int told, .int wl, .int wr])), (aLe, .inl (cI 0, 10, .inl le)), (aSh, .inl (cI 0, 10, .inl sh)), (aS, .inr (3, [.ref aTk, .ref aSr, .int o74.1, .int o74.2.1])), (aTk, .inl (cI 0, 21, .inl o74.2.2.1)), (aSr, .inl (cI 0, 11, .inl o74.2.2.2)), (aSe, .inl (cI 0, 3, .inl se))] H := hP
      have hD : va_D A [(aT, .inr (5, [.ref aP, .ref aS, .ref aSe, .int sto, .int dro, .int fou])), (aP, .inr (2, [.ref aLe, .ref aSh, .int told, .int wl, .int wr])), (aLe, .inl (cI 0, 10, .inl le)), (aSh, .inl (cI 0, 10, .inl sh)), (aS, .inr (3, [.ref aTk, .ref aSr, .int o74.1, .int o74.2.1])), (aTk, .inl (cI 0, 21, .inl o74.2.2.1)), (aSr, .inl (cI 0, 11, .inl o74.2.2.2)), (aSe, .inl (cI 0, 3, .inl se))] := hD
      refine lv_if_ne (tgt := 129) hx hb dX6_bowl_104 (by decide) (fun c9 => ?_) (fun c9 => ?_)
      · have hq := kite_f c9 hq
        exact b_129  _ _ _ sto dro fou told wl wr le sh o74.1 o74.2.1 o74.2.2.1 o74.2.2.2 x5 hq hP hD hS (lv_sub hl [1] rfl)
      · have hq := kite_t c9 hq
        refine lv_aload_n hx hb dX6_bowl_107 rfl (lv_at hl 0 rfl) ?_
        refine lv_dup hx hb dX6_bowl_108 rfl ?_
        refine va_get (D := D) (ci := 5) (v := .int dro) (C := RX6) (T := TX6) (N := 6) hx hb hts iw_X6_bowl_X6 hown hK.1 hP 0 rfl rfl 4 (by decide) (hts (.fieldLink RX6 42 "PinDeck$State" "dropped" "I") (by decide +kernel)) (fun _ h9 => h9) rfl dX6_bowl_109 ?_
        refine lv_aload_n hx hb dX6_bowl_112 rfl (lv_at hl 0 rfl) ?_
        refine va_get (D := D) (ci := 5) (v := .ref aP) (C := RX6) (T := TX6) (N := 6) hx hb hts iw_X6_bowl_X6 hown hK.1 hP 0 rfl rfl 0 (by decide) (hts (.fieldLink RX6 12 "PinDeck$State" "pins" "LPinDeck$Pins;") (by decide +kernel)) (fun _ h9 => h9) rfl dX6_bowl_113 ?_
        refine lv_aload_n hx hb dX6_bowl_116 rfl (lv_at hl 0 rfl) ?_
        refine va_get (D := D) (ci := 5) (v := .ref aSe) (C := RX6) (T := TX6) (N := 6) hx hb hts iw_X6_bowl_X6 hown hK.1 hP 0 rfl rfl 2 (by decide) (hts (.fieldLink RX6 25 "PinDeck$State" "settings" "[I") (by decide +kernel)) (fun _ h9 => h9) rfl dX6_bowl_117 ?_
        refine lv_iconst (v := 2) hx hb dX6_bowl_120 (by decide) ?_
        refine k_iald (j := 2) hx hb hK.1 hP 7 0 rfl rfl (by decide) (by decide) dX6_bowl_121 ?_
        obtain ⟨o122, ho122, hq⟩ := kbind hq
        refine kc_Vi (av := [.int (se 2)]) (rest := [.int dro, .ref aT]) hF hK hG hA (mk_X2_setAgain l D cI aP aLe aSh H.size told wl wr le (se 2) o122 ho122) (cwV 1 hts gX6_bowl_X2_setAgain rfl rfl rfl (by decide +kernel) ⟨Nat.le_of_ble_eq_true rfl, Nat.le_of_ble_eq_true rfl⟩) hP hD hS [1, 2] (by decide) rfl rfl 0 rfl rfl rfl hl.1 rfl (Nat.le_of_ble_eq_true rfl) ⟨Nat.zero_le _, Nat.zero_le _⟩ dX6_bowl_122 (fun H locs hP hD hS => ?_)
        have hP : va_P D vwCl [(aT, .inr (5, [.ref aP, .ref aS, .ref aSe, .int sto, .int dro, .int fou])), (aP, .inr (2, [.ref aLe, .ref aSh, .int o122.2.1, .int wl, .int wr])), (aLe, .inl (cI 0, 10, .inl o122.2.2)), (aSh, .inl (cI 0, 10, .inl sh)), (aS, .inr (3, [.ref aTk, .ref aSr, .int o74.1, .int o74.2.1])), (aTk, .inl (cI 0, 21, .inl o74.2.2.1)), (aSr, .inl (cI 0, 11, .inl o74.2.2.2)), (aSe, .inl (cI 0, 3, .inl se))] H := hP
        have hD : va_D A [(aT, .inr (5, [.ref aP, .ref aS, .ref aSe, .int sto, .int dro, .int fou])), (aP, .inr (2, [.ref aLe, .ref aSh, .int o122.2.1, .int wl, .int wr])), (aLe, .inl (cI 0, 10, .inl o122.2.2)), (aSh, .inl (cI 0, 10, .inl sh)), (aS, .inr (3, [.ref aTk, .ref aSr, .int o74.1, .int o74.2.1])), (aTk, .inl (cI 0, 21, .inl o74.2.2.1)), (aSr, .inl (cI 0, 11, .inl o74.2.2.2)), (aSe, .inl (cI 0, 3, .inl se))] := hD
        refine lv_iadd hx hb dX6_bowl_125 ?_
        refine va_put (D := D) (ci := 5) (v := .int (dro + o122.1)) (ty := .int) (C := RX6) (T := TX6) (N := 6) hx hb hts iw_X6_bowl_X6 tyX6 tyX6_ok nmX6 hown hK.1 hP hD hS 0 rfl rfl 4 (by decide) (hts (.fieldLink RX6 42 "PinDeck$State" "dropped" "I") (by decide +kernel)) (fun _ h9 => h9) rfl (by decide +kernel) rfl rfl (Nat.le_of_ble_eq_true rfl) dX6_bowl_126 (fun H locs hP hD hS => ?_)
        have hP : va_P D vwCl [(aT, .inr (5, [.ref aP, .ref aS, .ref aSe, .int sto, .int (dro + o122.1), .int fou])), (aP, .inr (2, [.ref aLe, .ref aSh, .int o122.2.1, .int wl, .int wr])), (aLe, .inl (cI 0, 10, .inl o122.2.2)), (aSh, .inl (cI 0, 10, .inl sh)), (aS, .inr (3, [.ref aTk, .ref aSr, .int o74.1, .int o74.2.1])), (aTk, .inl (cI 0, 21, .inl o74.2.2.1)), (aSr, .inl (cI 0, 11, .inl o74.2.2.2)), (aSe, .inl (cI 0, 3, .inl se))] H := hP
        have hD : va_D A [(aT, .inr (5, [.ref aP, .ref aS, .ref aSe, .int sto, .int (dro + o122.1), .int fou])), (aP, .inr (2, [.ref aLe, .ref aSh, .int o122.2.1, .int wl, .int wr])), (aLe, .inl (cI 0, 10, .inl o122.2.2)), (aSh, .inl (cI 0, 10, .inl sh)), (aS, .inr (3, [.ref aTk, .ref aSr, .int o74.1, .int o74.2.1])), (aTk, .inl (cI 0, 21, .inl o74.2.2.1)), (aSr, .inl (cI 0, 11, .inl o74.2.2.2)), (aSe, .inl (cI 0, 3, .inl se))] := hD
        exact b_129  _ _ _ sto (dro + o122.1) fou o122.2.1 wl wr o122.2.2 sh o74.1 o74.2.1 o74.2.2.1 o74.2.2.2 x5 hq hP hD hS (lv_sub hl [1] rfl)
    · have hq := kite_f c9 hq
      refine lv_aload_n hx hb dX6_bowl_87 rfl (lv_at hl 0 rfl) ?_
      refine va_get (D := D) (ci := 5) (v := .ref aP) (C := RX6) (T := TX6) (N := 6) hx hb hts iw_X6_bowl_X6 hown hK.1 hP 0 rfl rfl 0 (by decide) (hts (.fieldLink RX6 12 "PinDeck$State" "pins" "LPinDeck$Pins;") (by decide +kernel)) (fun _ h9 => h9) rfl dX6_bowl_88 ?_
      obtain ⟨o91, ho91, hq⟩ := kbind hq
      refine kc_Vv (av := []) (rest := []) hF hK hG hA (mk_X2_newRack l D cI aP aLe aSh H.size told wl wr le sh o91 ho91) (cwV 0 hts gX6_bowl_X2_newRack rfl rfl rfl (by decide +kernel) ⟨Nat.le_of_ble_eq_true rfl, Nat.le_of_ble_eq_true rfl⟩) hP hD hS [1, 2, 3] (by decide) rfl rfl 0 rfl rfl rfl hl.1 rfl (Nat.le_of_ble_eq_true rfl) ⟨Nat.zero_le _, Nat.zero_le _⟩ dX6_bowl_91 (fun H locs hP hD hS => ?_)
      have hP : va_P D vwCl [(aT, .inr (5, [.ref aP, .ref aS, .ref aSe, .int sto, .int dro, .int fou])), (aP, .inr (2, [.ref aLe, .ref aSh, .int o91.1, .int wl, .int wr])), (aLe, .inl (cI 0, 10, .inl o91.2.1)), (aSh, .inl (cI 0, 10, .inl o91.2.2)), (aS, .inr (3, [.ref aTk, .ref aSr, .int o74.1, .int o74.2.1])), (aTk, .inl (cI 0, 21, .inl o74.2.2.1)), (aSr, .inl (cI 0, 11, .inl o74.2.2.2)), (aSe, .inl (cI 0, 3, .inl se))] H := hP
      have hD : va_D A [(aT, .inr (5, [.ref aP, .ref aS, .ref aSe, .int sto, .int dro, .int fou])), (aP, .inr (2, [.ref aLe, .ref aSh, .int o91.1, .int wl, .int wr])), (aLe, .inl (cI 0, 10, .inl o91.2.1)), (aSh, .inl (cI 0, 10, .inl o91.2.2)), (aS, .inr (3, [.ref aTk, .ref aSr, .int o74.1, .int o74.2.1])), (aTk, .inl (cI 0, 21, .inl o74.2.2.1)), (aSr, .inl (cI 0, 11, .inl o74.2.2.2)), (aSe, .inl (cI 0, 3, .inl se))] := hD
      refine lv_goto (tgt := 129) hx hb dX6_bowl_94 (by decide) ?_
      exact b_129  _ _ _ sto dro fou o91.1 wl wr o91.2.1 o91.2.2 o74.1 o74.2.1 o74.2.2.1 o74.2.2.2 x5 hq hP hD hS (lv_sub hl [1] rfl)
  refine lv_aload_n hx hb dX6_bowl_0 rfl (lv_at hl 0 rfl) ?_
  refine lv_iload_n hx hb dX6_bowl_1 rfl (lv_at hl 3 rfl) ?_
  obtain ⟨o2, ho2, hq⟩ := kbind hq
  refine kc_Vi (av := [.int x3]) (rest := []) hF hK hG hA (mk_X6_stops l D cI aT aP aS aSe s.heap.size sto dro fou se x3 o2 ho2) (cwV 1 hts gX6_bowl_X6_stops rfl rfl rfl (by decide +kernel) ⟨Nat.le_of_ble_eq_true rfl, Nat.le_of_ble_eq_true rfl⟩) hP hD hS [0, 7] (by decide) rfl rfl 0 rfl rfl rfl hl.1 rfl (Nat.le_of_ble_eq_true rfl) ⟨Nat.zero_le _, Nat.zero_le _⟩ dX6_bowl_2 (fun H locs hP hD hS => ?_)
  have hP : va_P D vwCl [(aT, .inr (5, [.ref aP, .ref aS, .ref aSe, .int sto, .int dro, .int fou])), (aP, .inr (2, [.ref aLe, .ref aSh, .int told, .int wl, .int wr])), (aLe, .inl (cI 0, 10, .inl le)), (aSh, .inl (cI 0, 10, .inl sh)), (aS, .inr (3, [.ref aTk, .ref aSr, .int rolls, .int frm])), (aTk, .inl (cI 0, 21, .inl tk)), (aSr, .inl (cI 0, 11, .inl sr)), (aSe, .inl (cI 0, 3, .inl se))] H := hP
  have hD : va_D A [(aT, .inr (5, [.ref aP, .ref aS, .ref aSe, .int sto, .int dro, .int fou])), (aP, .inr (2, [.ref aLe, .ref aSh, .int told, .int wl, .int wr])), (aLe, .inl (cI 0, 10, .inl le)), (aSh, .inl (cI 0, 10, .inl sh)), (aS, .inr (3, [.ref aTk, .ref aSr, .int rolls, .int frm])), (aTk, .inl (cI 0, 21, .inl tk)), (aSr, .inl (cI 0, 11, .inl sr)), (aSe, .inl (cI 0, 3, .inl se))] := hD
  refine lv_if_eq (tgt := 20) hx hb dX6_bowl_5 (by decide) (fun c9 => ?_) (fun c9 => ?_)
  · have hq := kite_t c9 hq
    refine lv_iconst (v := 0) hx hb dX6_bowl_20 (by decide) ?_
    refine lv_istore (lv' := [(5, .int (0 : Int32)), (0, .ref aT), (1, .int x1), (2, .int x2), (3, .int x3), (4, .int x4)]) hx hb dX6_bowl_21 hl (by decide) rfl (fun ls hl => ?_)
    refine lv_iload hx hb dX6_bowl_23 (lv_at hl 5 rfl) ?_
    refine lv_if_eq (tgt := 41) hx hb dX6_bowl_25 (by decide) (fun c9 => ?_) (fun c9 => ?_)
    · have hq := kite_t c9 hq
      refine lv_aload_n hx hb dX6_bowl_41 rfl (lv_at hl 1 rfl) ?_
      refine va_get (D := D) (ci := 5) (v := .ref aP) (C := RX6) (T := TX6) (N := 6) hx hb hts iw_X6_bowl_X6 hown hK.1 hP 0 rfl rfl 0 (by decide) (hts (.fieldLink RX6 12 "PinDeck$State" "pins" "LPinDeck$Pins;") (by decide +kernel)) (fun _ h9 => h9) rfl dX6_bowl_42 ?_
      refine lv_iload_n hx hb dX6_bowl_45 rfl (lv_at hl 2 rfl) ?_
      refine lv_iload_n hx hb dX6_bowl_46 rfl (lv_at hl 3 rfl) ?_
      obtain ⟨o47, ho47, hq⟩ := kbind hq
      refine kc_Vv (av := [.int x1, .int x2]) (rest := []) hF hK hG hA (mk_X2_meetBall l D cI aP aLe aSh H.size told wl wr le sh x1 x2 o47 ho47) (cwV 2 hts gX6_bowl_X2_meetBall rfl rfl rfl (by decide +kernel) ⟨Nat.le_of_ble_eq_true rfl, Nat.le_of_ble_eq_true rfl⟩) hP hD hS [1, 2, 3] (by decide) rfl rfl 0 rfl rfl rfl hl.1 rfl (Nat.le_of_ble_eq_true rfl) ⟨Nat.zero_le _, Nat.zero_le _⟩ dX6_bowl_47 (fun H locs hP hD hS => ?_)
      have hP : va_P D vwCl [(aT, .inr (5, [.ref aP, .ref aS, .ref aSe, .int sto, .int dro, .int fou])), (aP, .inr (2, [.ref aLe, .ref aSh, .int told, .int o47.1, .int o47.2.1])), (aLe, .inl (cI 0, 10, .inl o47.2.2.1)), (aSh, .inl (cI 0, 10, .inl o47.2.2.2)), (aS, .inr (3, [.ref aTk, .ref aSr, .int rolls, .int frm])), (aTk, .inl (cI 0, 21, .inl tk)), (aSr, .inl (cI 0, 11, .inl sr)), (aSe, .inl (cI 0, 3, .inl se))] H := hP
      have hD : va_D A [(aT, .inr (5, [.ref aP, .ref aS, .ref aSe, .int sto, .int dro, .int fou])), (aP, .inr (2, [.ref aLe, .ref aSh, .int told, .int o47.1, .int o47.2.1])), (aLe, .inl (cI 0, 10, .inl o47.2.2.1)), (aSh, .inl (cI 0, 10, .inl o47.2.2.2)), (aS, .inr (3, [.ref aTk, .ref aSr, .int rolls, .int frm])), (aTk, .inl (cI 0, 21, .inl tk)), (aSr, .inl (cI 0, 11, .inl sr)), (aSe, .inl (cI 0, 3, .inl se))] := hD
      refine lv_aload_n hx hb dX6_bowl_50 rfl (lv_at hl 1 rfl) ?_
      refine va_get (D := D) (ci := 5) (v := .ref aP) (C := RX6) (T := TX6) (N := 6) hx hb hts iw_X6_bowl_X6 hown hK.1 hP 0 rfl rfl 0 (by decide) (hts (.fieldLink RX6 12 "PinDeck$State" "pins" "LPinDeck$Pins;") (by decide +kernel)) (fun _ h9 => h9) rfl dX6_bowl_51 ?_
      refine lv_aload_n hx hb dX6_bowl_54 rfl (lv_at hl 1 rfl) ?_
      refine va_get (D := D) (ci := 5) (v := .ref aSe) (C := RX6) (T := TX6) (N := 6) hx hb hts iw_X6_bowl_X6 hown hK.1 hP 0 rfl rfl 2 (by decide) (hts (.fieldLink RX6 25 "PinDeck$State" "settings" "[I") (by decide +kernel)) (fun _ h9 => h9) rfl dX6_bowl_55 ?_
      refine lv_iconst (v := 1) hx hb dX6_bowl_58 (by decide) ?_
      refine k_iald (j := 1) hx hb hK.1 hP 7 0 rfl rfl (by decide) (by decide) dX6_bowl_59 ?_
      obtain ⟨o60, ho60, hq⟩ := kbind hq
      refine kc_Vi (av := [.int (se 1)]) (rest := []) hF hK hG hA (mk_X2_tell l D cI aP aLe aSh H.size told o47.1 o47.2.1 o47.2.2.1 (se 1) o60 ho60) (cwV 1 hts gX6_bowl_X2_tell rfl rfl rfl (by decide +kernel) ⟨Nat.le_of_ble_eq_true rfl, Nat.le_of_ble_eq_true rfl⟩) hP hD hS [1, 2] (by decide) rfl rfl 0 rfl rfl rfl hl.1 rfl (Nat.le_of_ble_eq_true rfl) ⟨Nat.zero_le _, Nat.zero_le _⟩ dX6_bowl_60 (fun H locs hP hD hS => ?_)
      have hP : va_P D vwCl [(aT, .inr (5, [.ref aP, .ref aS, .ref aSe, .int sto, .int dro, .int fou])), (aP, .inr (2, [.ref aLe, .ref aSh, .int o60.2, .int o47.1, .int o47.2.1])), (aLe, .inl (cI 0, 10, .inl o47.2.2.1)), (aSh, .inl (cI 0, 10, .inl o47.2.2.2)), (aS, .inr (3, [.ref aTk, .ref aSr, .int rolls, .int frm])), (aTk, .inl (cI 0, 21, .inl tk)), (aSr, .inl (cI 0, 11, .inl sr)), (aSe, .inl (cI 0, 3, .inl se))] H := hP
      have hD : va_D A [(aT, .inr (5, [.ref aP, .ref aS, .ref aSe, .int sto, .int dro, .int fou])), (aP, .inr (2, [.ref aLe, .ref aSh, .int o60.2, .int o47.1, .int o47.2.1])), (aLe, .inl (cI 0, 10, .inl o47.2.2.1)), (aSh, .inl (cI 0, 10, .inl o47.2.2.2)), (aS, .inr (3, [.ref aTk, .ref aSr, .int rolls, .int frm])), (aTk, .inl (cI 0, 21, .inl tk)), (aSr, .inl (cI 0, 11, .inl sr)), (aSe, .inl (cI 0, 3, .inl se))] := hD
      obtain ⟨o63, ho63, hq⟩ := kbind hq
      refine kc_Si (av := [.int o60.1]) (rest := []) hF hK hG hA (mk_J6_bitCount_0f7a4 l D cI H.size o60.1 o63 ho63) (va_cwS 1 hts gX6_bowl_J6_bitCount_0f7a4 rfl rfl rfl (by decide +kernel) ⟨Nat.le_of_ble_eq_true rfl, Nat.le_of_ble_eq_true rfl⟩) hP hD hS [] (by decide) rfl rfl rfl hl.1 rfl (Nat.le_of_ble_eq_true rfl) ⟨Nat.zero_le _, Nat.zero_le _⟩ dX6_bowl_63 (fun H locs hP hD hS => ?_)
      have hP : va_P D vwCl [(aT, .inr (5, [.ref aP, .ref aS, .ref aSe, .int sto, .int dro, .int fou])), (aP, .inr (2, [.ref aLe, .ref aSh, .int o60.2, .int o47.1, .int o47.2.1])), (aLe, .inl (cI 0, 10, .inl o47.2.2.1)), (aSh, .inl (cI 0, 10, .inl o47.2.2.2)), (aS, .inr (3, [.ref aTk, .ref aSr, .int rolls, .int frm])), (aTk, .inl (cI 0, 21, .inl tk)), (aSr, .inl (cI 0, 11, .inl sr)), (aSe, .inl (cI 0, 3, .inl se))] H := hP
      have hD : va_D A [(aT, .inr (5, [.ref aP, .ref aS, .ref aSe, .int sto, .int dro, .int fou])), (aP, .inr (2, [.ref aLe, .ref aSh, .int o60.2, .int o47.1, .int o47.2.1])), (aLe, .inl (cI 0, 10, .inl o47.2.2.1)), (aSh, .inl (cI 0, 10, .inl o47.2.2.2)), (aS, .inr (3, [.ref aTk, .ref aSr, .int rolls, .int frm])), (aTk, .inl (cI 0, 21, .inl tk)), (aSr, .inl (cI 0, 11, .inl sr)), (aSe, .inl (cI 0, 3, .inl se))] := hD
      refine lv_istore (lv' := [(5, .int o63), (0, .ref aT), (1, .int x1), (2, .int x2), (3, .int x3), (4, .int x4)]) hx hb dX6_bowl_66 hl (by decide) rfl (fun ls hl => ?_)
      exact b_68  _ _ _ sto dro fou o60.2 o47.1 o47.2.1 o47.2.2.1 o47.2.2.2 rolls frm tk sr o63 hq hP hD hS (lv_sub hl [1, 0] rfl)
    · have hq := kite_f c9 hq
      refine lv_aload_n hx hb dX6_bowl_28 rfl (lv_at hl 1 rfl) ?_
      refine lv_dup hx hb dX6_bowl_29 rfl ?_
      refine va_get (D := D) (ci := 5) (v := .int fou) (C := RX6) (T := TX6) (N := 6) hx hb hts iw_X6_bowl_X6 hown hK.1 hP 0 rfl rfl 5 (by decide) (hts (.fieldLink RX6 45 "PinDeck$State" "fouls" "I") (by decide +kernel)) (fun _ h9 => h9) rfl dX6_bowl_30 ?_
      refine lv_iconst (v := 1) hx hb dX6_bowl_33 (by decide) ?_
      refine lv_iadd hx hb dX6_bowl_34 ?_
      refine va_put (D := D) (ci := 5) (v := .int (fou + (1 : Int32))) (ty := .int) (C := RX6) (T := TX6) (N := 6) hx hb hts iw_X6_bowl_X6 tyX6 tyX6_ok nmX6 hown hK.1 hP hD hS 0 rfl rfl 5 (by decide) (hts (.fieldLink RX6 45 "PinDeck$State" "fouls" "I") (by decide +kernel)) (fun _ h9 => h9) rfl (by decide +kernel) rfl rfl (Nat.le_of_ble_eq_true rfl) dX6_bowl_35 (fun H locs hP hD hS => ?_)
      have hP : va_P D vwCl [(aT, .inr (5, [.ref aP, .ref aS, .ref aSe, .int sto, .int dro, .int (fou + (1 : Int32))])), (aP, .inr (2, [.ref aLe, .ref aSh, .int told, .int wl, .int wr])), (aLe, .inl (cI 0, 10, .inl le)), (aSh, .inl (cI 0, 10, .inl sh)), (aS, .inr (3, [.ref aTk, .ref aSr, .int rolls, .int frm])), (aTk, .inl (cI 0, 21, .inl tk)), (aSr, .inl (cI 0, 11, .inl sr)), (aSe, .inl (cI 0, 3, .inl se))] H := hP
      have hD : va_D A [(aT, .inr (5, [.ref aP, .ref aS, .ref aSe, .int sto, .int dro, .int (fou + (1 : Int32))])), (aP, .inr (2, [.ref aLe, .ref aSh, .int told, .int wl, .int wr])), (aLe, .inl (cI 0, 10, .inl le)), (aSh, .inl (cI 0, 10, .inl sh)), (aS, .inr (3, [.ref aTk, .ref aSr, .int rolls, .int frm])), (aTk, .inl (cI 0, 21, .inl tk)), (aSr, .inl (cI 0, 11, .inl sr)), (aSe, .inl (cI 0, 3, .inl se))] := hD
      refine lv_goto (tgt := 68) hx hb dX6_bowl_38 (by decide) ?_
      exact b_68  _ _ _ sto dro (fou + (1 : Int32)) told wl wr le sh rolls frm tk sr (0 : Int32) hq hP hD hS (lv_sub hl [1, 0] rfl)
  · have hq := kite_f c9 hq
    refine lv_aload_n hx hb dX6_bowl_8 rfl (lv_at hl 0 rfl) ?_
    refine lv_dup hx hb dX6_bowl_9 rfl ?_
    refine va_get (D := D) (ci := 5) (v := .int sto) (C := RX6) (T := TX6) (N := 6) hx hb hts iw_X6_bowl_X6 hown hK.1 hP 0 rfl rfl 3 (by decide) (hts (.fieldLink RX6 38 "PinDeck$State" "stopped" "I") (by decide +kernel)) (fun _ h9 => h9) rfl dX6_bowl_10 ?_
    refine lv_iconst (v := 1) hx hb dX6_bowl_13 (by decide) ?_
    refine lv_iadd hx hb dX6_bowl_14 ?_
    refine va_put (D := D) (ci := 5) (v := .int (sto + (1 : Int32))) (ty := .int) (C := RX6) (T := TX6) (N := 6) hx hb hts iw_X6_bowl_X6 tyX6 tyX6_ok nmX6 hown hK.1 hP hD hS 0 rfl rfl 3 (by decide) (hts (.fieldLink RX6 38 "PinDeck$State" "stopped" "I") (by decide +kernel)) (fun _ h9 => h9) rfl (by decide +kernel) rfl rfl (Nat.le_of_ble_eq_true rfl) dX6_bowl_15 (fun H locs hP hD hS => ?_)
    have hP : va_P D vwCl [(aT, .inr (5, [.ref aP, .ref aS, .ref aSe, .int (sto + (1 : Int32)), .int dro, .int fou])), (aP, .inr (2, [.ref aLe, .ref aSh, .int told, .int wl, .int wr])), (aLe, .inl (cI 0, 10, .inl le)), (aSh, .inl (cI 0, 10, .inl sh)), (aS, .inr (3, [.ref aTk, .ref aSr, .int rolls, .int frm])), (aTk, .inl (cI 0, 21, .inl tk)), (aSr, .inl (cI 0, 11, .inl sr)), (aSe, .inl (cI 0, 3, .inl se))] H := hP
    have hD : va_D A [(aT, .inr (5, [.ref aP, .ref aS, .ref aSe, .int (sto + (1 : Int32)), .int dro, .int fou])), (aP, .inr (2, [.ref aLe, .ref aSh, .int told, .int wl, .int wr])), (aLe, .inl (cI 0, 10, .inl le)), (aSh, .inl (cI 0, 10, .inl sh)), (aS, .inr (3, [.ref aTk, .ref aSr, .int rolls, .int frm])), (aTk, .inl (cI 0, 21, .inl tk)), (aSr, .inl (cI 0, 11, .inl sr)), (aSe, .inl (cI 0, 3, .inl se))] := hD
    refine lv_iconst (v := (-1)) hx hb dX6_bowl_18 (by decide) ?_
    have ho := Option.some.inj hq
    subst ho
    exact hend _ _ _ _ hP hS dX6_bowl_19

set_option maxHeartbeats 4000000 in
set_option maxRecDepth 100000 in
theorem mk_X7_isBall (l : Launch) (D : va_G) (cI : Nat → ClassId) (sz : Nat) (x0 : Int32) (x1 : Int32) (o : Int32) (hq : fn_X7_isBall x0 x1 = some o) : Met l yX7_isBall wsX7_isBall ({ frames := 0, cells := 0, slots := 0, locals := 0 }) (kPc D cI [] sz [.int x0, .int x1]) (kQi D [] [] sz o) 0 0 (va_A [] sz) := by
  refine kM_z (cc := cX7_isBall) (maxL := 2) (by decide +kernel) rfl (Nat.le_of_ble_eq_true rfl) ?_
  intro p e s m args below meth c A Q hF hK hG hD hA hend ls hP hS hl
  obtain ⟨hx, hb, hml, hown, hts⟩ := id hF
  have hl : lv_has ls 2 [(0, .int x0), (1, .int x1)] := hl
  have b_26 : ∀ (H : Heap) (locs : List Loc) (ls : Array Slot) (k0 : Int32), fn_X7_isBall_26 k0 = some o → va_P D vwCl [] H → va_S A s.heap H locs → lv_has ls 2 [] → W p l e { frames := 0, cells := 0, slots := 0, locals := 0 } s m args below meth c H locs 0 0 Q (F0 m 26 ls [.int k0]) := by
    intro H locs ls k0
    intro hq hP hS hl
    obtain ⟨hz, hq⟩ := kite_b hq
    have ho := Option.some.inj hq
    subst ho
    exact hend _ _ _ _ hz hP hS dX7_isBall_26
  have b_25 : ∀ (H : Heap) (locs : List Loc) (ls : Array Slot), fn_X7_isBall_25  = some o → va_P D vwCl [] H → va_S A s.heap H locs → lv_has ls 2 [] → W p l e { frames := 0, cells := 0, slots := 0, locals := 0 } s m args below meth c H locs 0 0 Q (F0 m 25 ls []) := by
    intro H locs ls 
    intro hq hP hS hl
    refine lv_iconst (v := 0) hx hb dX7_isBall_25 (by decide) ?_
    exact b_26  _ _ _ (0 : Int32) hq hP hS (lv_sub hl [] rfl)
  refine lv_iload_n hx hb dX7_isBall_0 rfl (lv_at hl 0 rfl) ?_
  refine lv_if_lt (tgt := 25) hx hb dX7_isBall_1 (by decide) (fun c9 => ?_) (fun c9 => ?_)
  · have hq := kite_t c9 hq
    exact b_25  _ _ _  hq hP hS (lv_sub hl [] rfl)
  · have hq := kite_f c9 hq
    refine lv_iload_n hx hb dX7_isBall_4 rfl (lv_at hl 0 rfl) ?_
    refine lv_bipush (v := 40) hx hb dX7_isBall_5 (by decide) ?_
    refine lv_icmp_gt (tgt := 25) hx hb dX7_isBall_7 (by decide) (fun c9 => ?_) (fun c9 => ?_)
    · have hq := kite_t c9 hq
      exact b_25  _ _ _  hq hP hS (lv_sub hl [] rfl)
    · have hq := kite_f c9 hq
      refine lv_iload_n hx hb dX7_isBall_10 rfl (lv_at hl 1 rfl) ?_
      refine lv_bipush (v := (-2)) hx hb dX7_isBall_11 (by decide) ?_
      refine lv_icmp_lt (tgt := 25) hx hb dX7_isBall_13 (by decide) (fun c9 => ?_) (fun c9 => ?_)
      · have hq := kite_t c9 hq
        exact b_25  _ _ _  hq hP hS (lv_sub hl [] rfl)
      · have hq := kite_f c9 hq
        refine lv_iload_n hx hb dX7_isBall_16 rfl (lv_at hl 1 rfl) ?_
        refine lv_iconst (v := 2) hx hb dX7_isBall_17 (by decide) ?_
        refine lv_icmp_gt (tgt := 25) hx hb dX7_isBall_18 (by decide) (fun c9 => ?_) (fun c9 => ?_)
        · have hq := kite_t c9 hq
          exact b_25  _ _ _  hq hP hS (lv_sub hl [] rfl)
        · have hq := kite_f c9 hq
          refine lv_iconst (v := 1) hx hb dX7_isBall_21 (by decide) ?_
          refine lv_goto (tgt := 26) hx hb dX7_isBall_22 (by decide) ?_
          exact b_26  _ _ _ (1 : Int32) hq hP hS (lv_sub hl [] rfl)

set_option maxHeartbeats 4000000 in
set_option maxRecDepth 100000 in
theorem mk_X7_isSpeed (l : Launch) (D : va_G) (cI : Nat → ClassId) (sz : Nat) (x0 : Int32) (o : Int32) (hq : fn_X7_isSpeed x0 = some o) : Met l yX7_isSpeed wsX7_isSpeed ({ frames := 0, cells := 0, slots := 0, locals := 0 }) (kPc D cI [] sz [.int x0]) (kQi D [] [] sz o) 0 0 (va_A [] sz) := by
  refine kM_z (cc := cX7_isSpeed) (maxL := 1) (by decide +kernel) rfl (Nat.le_of_ble_eq_true rfl) ?_
  intro p e s m args below meth c A Q hF hK hG hD hA hend ls hP hS hl
  obtain ⟨hx, hb, hml, hown, hts⟩ := id hF
  have hl : lv_has ls 1 [(0, .int x0)] := hl
  have b_16 : ∀ (H : Heap) (locs : List Loc) (ls : Array Slot) (k0 : Int32), fn_X7_isSpeed_16 k0 = some o → va_P D vwCl [] H → va_S A s.heap H locs → lv_has ls 1 [] → W p l e { frames := 0, cells := 0, slots := 0, locals := 0 } s m args below meth c H locs 0 0 Q (F0 m 16 ls [.int k0]) := by
    intro H locs ls k0
    intro hq hP hS hl
    obtain ⟨hz, hq⟩ := kite_b hq
    have ho := Option.some.inj hq
    subst ho
    exact hend _ _ _ _ hz hP hS dX7_isSpeed_16
  have b_15 : ∀ (H : Heap) (locs : List Loc) (ls : Array Slot), fn_X7_isSpeed_15  = some o → va_P D vwCl [] H → va_S A s.heap H locs → lv_has ls 1 [] → W p l e { frames := 0, cells := 0, slots := 0, locals := 0 } s m args below meth c H locs 0 0 Q (F0 m 15 ls []) := by
    intro H locs ls 
    intro hq hP hS hl
    refine lv_iconst (v := 0) hx hb dX7_isSpeed_15 (by decide) ?_
    exact b_16  _ _ _ (0 : Int32) hq hP hS (lv_sub hl [] rfl)
  refine lv_iload_n hx hb dX7_isSpeed_0 rfl (lv_at hl 0 rfl) ?_
  refine lv_iconst (v := 1) hx hb dX7_isSpeed_1 (by decide) ?_
  refine lv_icmp_lt (tgt := 15) hx hb dX7_isSpeed_2 (by decide) (fun c9 => ?_) (fun c9 => ?_)
  · have hq := kite_t c9 hq
    exact b_15  _ _ _  hq hP hS (lv_sub hl [] rfl)
  · have hq := kite_f c9 hq
    refine lv_iload_n hx hb dX7_isSpeed_5 rfl (lv_at hl 0 rfl) ?_
    refine lv_bipush (v := 30) hx hb dX7_isSpeed_6 (by decide) ?_
    refine lv_icmp_gt (tgt := 15) hx hb dX7_isSpeed_8 (by decide) (fun c9 => ?_) (fun c9 => ?_)
    · have hq := kite_t c9 hq
      exact b_15  _ _ _  hq hP hS (lv_sub hl [] rfl)
    · have hq := kite_f c9 hq
      refine lv_iconst (v := 1) hx hb dX7_isSpeed_11 (by decide) ?_
      refine lv_goto (tgt := 16) hx hb dX7_isSpeed_12 (by decide) ?_
      exact b_16  _ _ _ (1 : Int32) hq hP hS (lv_sub hl [] rfl)

theorem iw_X6_tryRoll_X6 : ∀ w ∈ wsX60, w ∈ wsX6_tryRoll := by decide +kernel
set_option maxHeartbeats 4000000 in
set_option maxRecDepth 100000 in
theorem mk_X6_tryRoll (l : Launch) (D : va_G) (cI : Nat → ClassId) (aT aP aS aSe aLe aSh aTk aSr : Nat) (sz : Nat) (sto : Int32) (dro : Int32) (fou : Int32) (told : Int32) (wl : Int32) (wr : Int32) (le : kF) (sh : kF) (rolls : Int32) (frm : Int32) (tk : kF) (sr : kF) (se : kF) (x1 : Int32) (x2 : Int32) (x3 : Int32) (x4 : Int32) (o : Int32 × Int32 × Int32 × Int32 × Int32 × Int32 × Int32 × kF × kF × Int32 × Int32 × kF × kF) (hq : fn_X6_tryRoll sto dro fou told wl wr le sh rolls frm tk sr se x1 x2 x3 x4 = some o) : Met l yX6_tryRoll wsX6_tryRoll ({ frames := 4, cells := 0, slots := 0, locals := 100 }) (kPc D cI [(aT, .inr (5, [.ref aP, .ref aS, .ref aSe, .int sto, .int dro, .int fou])), (aP, .inr (2, [.ref aLe, .ref aSh, .int told, .int wl, .int wr])), (aLe, .inl (cI 0, 10, .inl le)), (aSh, .inl (cI 0, 10, .inl sh)), (aS, .inr (3, [.ref aTk, .ref aSr, .int rolls, .int frm])), (aTk, .inl (cI 0, 21, .inl tk)), (aSr, .inl (cI 0, 11, .inl sr)), (aSe, .inl (cI 0, 3, .inl se))] sz [.ref aT, .int x1, .int x2, .int x3, .int x4]) (kQi D [(aT, .inr (5, [.ref aP, .ref aS, .ref aSe, .int sto, .int dro, .int fou])), (aP, .inr (2, [.ref aLe, .ref aSh, .int told, .int wl, .int wr])), (aLe, .inl (cI 0, 10, .inl le)), (aSh, .inl (cI 0, 10, .inl sh)), (aS, .inr (3, [.ref aTk, .ref aSr, .int rolls, .int frm])), (aTk, .inl (cI 0, 21, .inl tk)), (aSr, .inl (cI 0, 11, .inl sr)), (aSe, .inl (cI 0, 3, .inl se))] [(aT, .inr (5, [.ref aP, .ref aS, .ref aSe, .int o.2.1, .int o.2.2.1, .int o.2.2.2.1])), (aP, .inr (2, [.ref aLe, .ref aSh, .int o.2.2.2.2.1, .int o.2.2.2.2.2.1, .int o.2.2.2.2.2.2.1])), (aLe, .inl (cI 0, 10, .inl o.2.2.2.2.2.2.2.1)), (aSh, .inl (cI 0, 10, .inl o.2.2.2.2.2.2.2.2.1)), (aS, .inr (3, [.ref aTk, .ref aSr, .int o.2.2.2.2.2.2.2.2.2.1, .int o.2.2.2.2.2.2.2.2.2.2.1])), (aTk, .inl (cI 0, 21, .inl o.2.2.2.2.2.2.2.2.2.2.2.1)), (aSr, .inl (cI 0, 11, .inl o.2.2.2.2.2.2.2.2.2.2.2.2)), (aSe, .inl (cI 0, 3, .inl se))] sz o.1) 0 0 (va_A [(aT, .inr (5, [.ref aP, .ref aS, .ref aSe, .int sto, .int dro, .int fou])), (aP, .inr (2, [.ref aLe, .ref aSh, .int told, .int wl, .int wr])), (aLe, .inl (cI 0, 10, .inl le)), (aSh, .inl (cI 0, 10, .inl sh)), (aS, .inr (3, [.ref aTk, .ref aSr, .int rolls, .int frm])), (aTk, .inl (cI 0, 21, .inl tk)), (aSr, .inl (cI 0, 11, .inl sr)), (aSe, .inl (cI 0, 3, .inl se))] sz) := by
  refine kM_z (cc := cX6_tryRoll) (maxL := 6) (by decide +kernel) rfl (Nat.le_of_ble_eq_true rfl) ?_
  intro p e s m args below meth c A Q hF hK hG hD hA hend ls hP hS hl
  obtain ⟨hx, hb, hml, hown, hts⟩ := id hF
  have hl : lv_has ls 6 [(0, .ref aT), (1, .int x1), (2, .int x2), (3, .int x3), (4, .int x4)] := hl
  have b_47 : ∀ (H : Heap) (locs : List Loc) (ls : Array Slot) (sto : Int32) (dro : Int32) (fou : Int32) (told : Int32) (wl : Int32) (wr : Int32) (le : kF) (sh : kF) (rolls : Int32) (frm : Int32) (tk : kF) (sr : kF) (x5 : Int32), fn_X6_tryRoll_47 sto dro fou told wl wr le sh rolls frm tk sr se x5 = some o → va_P D vwCl [(aT, .inr (5, [.ref aP, .ref aS, .ref aSe, .int sto, .int dro, .int fou])), (aP, .inr (2, [.ref aLe, .ref aSh, .int told, .int wl, .int wr])), (aLe, .inl (cI 0, 10, .inl le)), (aSh, .inl (cI 0, 10, .inl sh)), (aS, .inr (3, [.ref aTk, .ref aSr, .int rolls, .int frm])), (aTk, .inl (cI 0, 21, .inl tk)), (aSr, .inl (cI 0, 11, .inl sr)), (aSe, .inl (cI 0, 3, .inl se))] H → va_D A [(aT, .inr (5, [.ref aP, .ref aS, .ref aSe, .int sto, .int dro, .int fou])), (aP, .inr (2, [.ref aLe, .ref aSh, .int told, .int wl, .int wr])), (aLe, .inl (cI 0, 10, .inl le)), (aSh, .inl (cI 0, 10, .inl sh)), (aS, .inr (3, [.ref aTk, .ref aSr, .int rolls, .int frm])), (aTk, .inl (cI 0, 21, .inl tk)), (aSr, .inl (cI 0, 11, .inl sr)), (aSe, .inl (cI 0, 3, .inl se))] → va_S A s.heap H locs → lv_has ls 6 [(5, .int x5)] → W p l e { frames := 4, cells := 0, slots := 0, locals := 100 } s m args below meth c H locs 0 0 Q (F0 m 47 ls []) := by
    intro H locs ls sto dro fou told wl wr le sh rolls frm tk sr x5
    intro hq hP hD hS hl
    refine lv_iload hx hb dX6_tryRoll_47 (lv_at hl 0 rfl) ?_
    obtain ⟨hz, hq⟩ := kite_b hq
    have ho := Option.some.inj hq
    subst ho
    exact hend _ _ _ _ hz hP hS dX6_tryRoll_49
  have b_30 : ∀ (H : Heap) (locs : List Loc) (ls : Array Slot) (sto : Int32) (dro : Int32) (fou : Int32) (told : Int32) (wl : Int32) (wr : Int32) (le : kF) (sh : kF) (rolls : Int32) (frm : Int32) (tk : kF) (sr : kF) (x1 : Int32) (x2 : Int32) (x3 : Int32) (x4 : Int32) (k0 : Int32), fn_X6_tryRoll_30 sto dro fou told wl wr le sh rolls frm tk sr se x1 x2 x3 x4 k0 = some o → va_P D vwCl [(aT, .inr (5, [.ref aP, .ref aS, .ref aSe, .int sto, .int dro, .int fou])), (aP, .inr (2, [.ref aLe, .ref aSh, .int told, .int wl, .int wr])), (aLe, .inl (cI 0, 10, .inl le)), (aSh, .inl (cI 0, 10, .inl sh)), (aS, .inr (3, [.ref aTk, .ref aSr, .int rolls, .int frm])), (aTk, .inl (cI 0, 21, .inl tk)), (aSr, .inl (cI 0, 11, .inl sr)), (aSe, .inl (cI 0, 3, .inl se))] H → va_D A [(aT, .inr (5, [.ref aP, .ref aS, .ref aSe, .int sto, .int dro, .int fou])), (aP, .inr (2, [.ref aLe, .ref aSh, .int told, .int wl, .int wr])), (aLe, .inl (cI 0, 10, .inl le)), (aSh, .inl (cI 0, 10, .inl sh)), (aS, .inr (3, [.ref aTk, .ref aSr, .int rolls, .int frm])), (aTk, .inl (cI 0, 21, .inl tk)), (aSr, .inl (cI 0, 11, .inl sr)), (aSe, .inl (cI 0, 3, .inl se))] → va_S A s.heap H locs → lv_has ls 6 [(0, .ref aT), (1, .int x1), (2, .int x2), (3, .int x3), (4, .int x4)] → W p l e { frames := 4, cells := 0, slots := 0, locals := 100 } s m args below meth c H locs 0 0 Q (F0 m 30 ls [.int k0]) := by
    intro H locs ls sto dro fou told wl wr le sh rolls frm tk sr x1 x2 x3 x4 k0
    intro hq hP hD hS hl
    refine lv_istore (lv' := [(5, .int k0), (0, .ref aT), (1, .int x1), (2, .int x2), (3, .int x3), (4, .int x4)]) hx hb dX6_tryRoll_30 hl (by decide) rfl (fun ls hl => ?_)
    refine lv_iload hx hb dX6_tryRoll_32 (lv_at hl 0 rfl) ?_
    refine lv_if_eq (tgt := 47) hx hb dX6_tryRoll_34 (by decide) (fun c9 => ?_) (fun c9 => ?_)
    · have hq := kite_t c9 hq
      exact b_47  _ _ _ sto dro fou told wl wr le sh rolls frm tk sr k0 hq hP hD hS (lv_sub hl [0] rfl)
    · have hq := kite_f c9 hq
      refine lv_aload_n hx hb dX6_tryRoll_37 rfl (lv_at hl 1 rfl) ?_
      refine lv_iload_n hx hb dX6_tryRoll_38 rfl (lv_at hl 2 rfl) ?_
      refine lv_iload_n hx hb dX6_tryRoll_39 rfl (lv_at hl 3 rfl) ?_
      refine lv_iload_n hx hb dX6_tryRoll_40 rfl (lv_at hl 4 rfl) ?_
      refine lv_iload hx hb dX6_tryRoll_41 (lv_at hl 5 rfl) ?_
      obtain ⟨o43, ho43, hq⟩ := kbind hq
      refine kc_Vi (av := [.int x1, .int x2, .int x3, .int x4]) (rest := []) hF hK hG hA (mk_X6_bowl l D cI aT aP aS aSe aLe aSh aTk aSr H.size sto dro fou told wl wr le sh rolls frm tk sr se x1 x2 x3 x4 o43 ho43) (cwV 4 hts gX6_tryRoll_X6_bowl rfl rfl rfl (by decide +kernel) ⟨Nat.le_of_ble_eq_true rfl, Nat.le_of_ble_eq_true rfl⟩) hP hD hS [0, 1, 2, 3, 4, 5, 6, 7] (by decide) rfl rfl 0 rfl rfl rfl hl.1 rfl (Nat.le_of_ble_eq_true rfl) ⟨Nat.zero_le _, Nat.zero_le _⟩ dX6_tryRoll_43 (fun H locs hP hD hS => ?_)
      have hP : va_P D vwCl [(aT, .inr (5, [.ref aP, .ref aS, .ref aSe, .int o43.2.1, .int o43.2.2.1, .int o43.2.2.2.1])), (aP, .inr (2, [.ref aLe, .ref aSh, .int o43.2.2.2.2.1, .int o43.2.2.2.2.2.1, .int o43.2.2.2.2.2.2.1])), (aLe, .inl (cI 0, 10, .inl o43.2.2.2.2.2.2.2.1)), (aSh, .inl (cI 0, 10, .inl o43.2.2.2.2.2.2.2.2.1)), (aS, .inr (3, [.ref aTk, .ref aSr, .int o43.2.2.2.2.2.2.2.2.2.1, .int o43.2.2.2.2.2.2.2.2.2.2.1])), (aTk, .inl (cI 0, 21, .inl o43.2.2.2.2.2.2.2.2.2.2.2.1)), (aSr, .inl (cI 0, 11, .inl o43.2.2.2.2.2.2.2.2.2.2.2.2)), (aSe, .inl (cI 0, 3, .inl se))] H := hP
      have hD : va_D A [(aT, .inr (5, [.ref aP, .ref aS, .ref aSe, .int o43.2.1, .int o43.2.2.1, .int o43.2.2.2.1])), (aP, .inr (2, [.ref aLe, .ref aSh, .int o43.2.2.2.2.1, .int o43.2.2.2.2.2.1, .int o43.2.2.2.2.2.2.1])), (aLe, .inl (cI 0, 10, .inl o43.2.2.2.2.2.2.2.1)), (aSh, .inl (cI 0, 10, .inl o43.2.2.2.2.2.2.2.2.1)), (aS, .inr (3, [.ref aTk, .ref aSr, .int o43.2.2.2.2.2.2.2.2.2.1, .int o43.2.2.2.2.2.2.2.2.2.2.1])), (aTk, .inl (cI 0, 21, .inl o43.2.2.2.2.2.2.2.2.2.2.2.1)), (aSr, .inl (cI 0, 11, .inl o43.2.2.2.2.2.2.2.2.2.2.2.2)), (aSe, .inl (cI 0, 3, .inl se))] := hD
      refine lv_pop hx hb dX6_tryRoll_46 rfl ?_
      exact b_47  _ _ _ o43.2.1 o43.2.2.1 o43.2.2.2.1 o43.2.2.2.2.1 o43.2.2.2.2.2.1 o43.2.2.2.2.2.2.1 o43.2.2.2.2.2.2.2.1 o43.2.2.2.2.2.2.2.2.1 o43.2.2.2.2.2.2.2.2.2.1 o43.2.2.2.2.2.2.2.2.2.2.1 o43.2.2.2.2.2.2.2.2.2.2.2.1 o43.2.2.2.2.2.2.2.2.2.2.2.2 k0 hq hP hD hS (lv_sub hl [0] rfl)
  have b_29 : ∀ (H : Heap) (locs : List Loc) (ls : Array Slot) (sto : Int32) (dro : Int32) (fou : Int32) (told : Int32) (wl : Int32) (wr : Int32) (le : kF) (sh : kF) (rolls : Int32) (frm : Int32) (tk : kF) (sr : kF) (x1 : Int32) (x2 : Int32) (x3 : Int32) (x4 : Int32), fn_X6_tryRoll_29 sto dro fou told wl wr le sh rolls frm tk sr se x1 x2 x3 x4 = some o → va_P D vwCl [(aT, .inr (5, [.ref aP, .ref aS, .ref aSe, .int sto, .int dro, .int fou])), (aP, .inr (2, [.ref aLe, .ref aSh, .int told, .int wl, .int wr])), (aLe, .inl (cI 0, 10, .inl le)), (aSh, .inl (cI 0, 10, .inl sh)), (aS, .inr (3, [.ref aTk, .ref aSr, .int rolls, .int frm])), (aTk, .inl (cI 0, 21, .inl tk)), (aSr, .inl (cI 0, 11, .inl sr)), (aSe, .inl (cI 0, 3, .inl se))] H → va_D A [(aT, .inr (5, [.ref aP, .ref aS, .ref aSe, .int sto, .int dro, .int fou])), (aP, .inr (2, [.ref aLe, .ref aSh, .int told, .int wl, .int wr])), (aLe, .inl (cI 0, 10, .inl le)), (aSh, .inl (cI 0, 10, .inl sh)), (aS, .inr (3, [.ref aTk, .ref aSr, .int rolls, .int frm])), (aTk, .inl (cI 0, 21, .inl tk)), (aSr, .inl (cI 0, 11, .inl sr)), (aSe, .inl (cI 0, 3, .inl se))] → va_S A s.heap H locs → lv_has ls 6 [(0, .ref aT), (1, .int x1), (2, .int x2), (3, .int x3), (4, .int x4)] → W p l e { frames := 4, cells := 0, slots := 0, locals := 100 } s m args below meth c H locs 0 0 Q (F0 m 29 ls []) := by
    intro H locs ls sto dro fou told wl wr le sh rolls frm tk sr x1 x2 x3 x4
    intro hq hP hD hS hl
    refine lv_iconst (v := 0) hx hb dX6_tryRoll_29 (by decide) ?_
    exact b_30  _ _ _ sto dro fou told wl wr le sh rolls frm tk sr x1 x2 x3 x4 (0 : Int32) hq hP hD hS (lv_sub hl [0, 1, 2, 3, 4] rfl)
  refine lv_iload_n hx hb dX6_tryRoll_0 rfl (lv_at hl 1 rfl) ?_
  refine lv_iload_n hx hb dX6_tryRoll_1 rfl (lv_at hl 2 rfl) ?_
  obtain ⟨o2, ho2, hq⟩ := kbind hq
  refine kc_Ni (av := [.int x1, .int x2]) (rest := []) hF hK hG hA (mk_X7_isBall l D cI s.heap.size x1 x2 o2 ho2) ⟨va_cnB 2 hts gX6_tryRoll_X7_isBall_n96 rfl rfl rfl (hK.2.1 (.methodLinkNest "PinDeck$State" 96 ⟨"PinDeck", "isBall", "(II)Z"⟩ "PinDeck") (by decide +kernel)) (hts (.initialized RX7) (by decide +kernel)) (by decide +kernel) ⟨Nat.le_of_ble_eq_true rfl, Nat.le_of_ble_eq_true rfl⟩, hts (.static yX7_isBall) (by decide +kernel), trivial⟩ hP hD hS [] (by decide) rfl rfl rfl hl.1 rfl (Nat.le_of_ble_eq_true rfl) ⟨Nat.zero_le _, Nat.zero_le _⟩ dX6_tryRoll_2 (fun H locs hP hD hS => ?_)
  have hP : va_P D vwCl [(aT, .inr (5, [.ref aP, .ref aS, .ref aSe, .int sto, .int dro, .int fou])), (aP, .inr (2, [.ref aLe, .ref aSh, .int told, .int wl, .int wr])), (aLe, .inl (cI 0, 10, .inl le)), (aSh, .inl (cI 0, 10, .inl sh)), (aS, .inr (3, [.ref aTk, .ref aSr, .int rolls, .int frm])), (aTk, .inl (cI 0, 21, .inl tk)), (aSr, .inl (cI 0, 11, .inl sr)), (aSe, .inl (cI 0, 3, .inl se))] H := hP
  have hD : va_D A [(aT, .inr (5, [.ref aP, .ref aS, .ref aSe, .int sto, .int dro, .int fou])), (aP, .inr (2, [.ref aLe, .ref aSh, .int told, .int wl, .int wr])), (aLe, .inl (cI 0, 10, .inl le)), (aSh, .inl (cI 0, 10, .inl sh)), (aS, .inr (3, [.ref aTk, .ref aSr, .int rolls, .int frm])), (aTk, .inl (cI 0, 21, .inl tk)), (aSr, .inl (cI 0, 11, .inl sr)), (aSe, .inl (cI 0, 3, .inl se))] := hD
  refine lv_if_eq (tgt := 29) hx hb dX6_tryRoll_5 (by decide) (fun c9 => ?_) (fun c9 => ?_)
  · have hq := kite_t c9 hq
    exact b_29  _ _ _ sto dro fou told wl wr le sh rolls frm tk sr x1 x2 x3 x4 hq hP hD hS (lv_sub hl [0, 1, 2, 3, 4] rfl)
  · have hq := kite_f c9 hq
    refine lv_iload_n hx hb dX6_tryRoll_8 rfl (lv_at hl 3 rfl) ?_
    obtain ⟨o9, ho9, hq⟩ := kbind hq
    refine kc_Ni (av := [.int x3]) (rest := []) hF hK hG hA (mk_X7_isSpeed l D cI H.size x3 o9 ho9) ⟨va_cnB 1 hts gX6_tryRoll_X7_isSpeed_n100 rfl rfl rfl (hK.2.1 (.methodLinkNest "PinDeck$State" 100 ⟨"PinDeck", "isSpeed", "(I)Z"⟩ "PinDeck") (by decide +kernel)) (hts (.initialized RX7) (by decide +kernel)) (by decide +kernel) ⟨Nat.le_of_ble_eq_true rfl, Nat.le_of_ble_eq_true rfl⟩, hts (.static yX7_isSpeed) (by decide +kernel), trivial⟩ hP hD hS [] (by decide) rfl rfl rfl hl.1 rfl (Nat.le_of_ble_eq_true rfl) ⟨Nat.zero_le _, Nat.zero_le _⟩ dX6_tryRoll_9 (fun H locs hP hD hS => ?_)
    have hP : va_P D vwCl [(aT, .inr (5, [.ref aP, .ref aS, .ref aSe, .int sto, .int dro, .int fou])), (aP, .inr (2, [.ref aLe, .ref aSh, .int told, .int wl, .int wr])), (aLe, .inl (cI 0, 10, .inl le)), (aSh, .inl (cI 0, 10, .inl sh)), (aS, .inr (3, [.ref aTk, .ref aSr, .int rolls, .int frm])), (aTk, .inl (cI 0, 21, .inl tk)), (aSr, .inl (cI 0, 11, .inl sr)), (aSe, .inl (cI 0, 3, .inl se))] H := hP
    have hD : va_D A [(aT, .inr (5, [.ref aP, .ref aS, .ref aSe, .int sto, .int dro, .int fou])), (aP, .inr (2, [.ref aLe, .ref aSh, .int told, .int wl, .int wr])), (aLe, .inl (cI 0, 10, .inl le)), (aSh, .inl (cI 0, 10, .inl sh)), (aS, .inr (3, [.ref aTk, .ref aSr, .int rolls, .int frm])), (aTk, .inl (cI 0, 21, .inl tk)), (aSr, .inl (cI 0, 11, .inl sr)), (aSe, .inl (cI 0, 3, .inl se))] := hD
    refine lv_if_eq (tgt := 29) hx hb dX6_tryRoll_12 (by decide) (fun c9 => ?_) (fun c9 => ?_)
    · have hq := kite_t c9 hq
      exact b_29  _ _ _ sto dro fou told wl wr le sh rolls frm tk sr x1 x2 x3 x4 hq hP hD hS (lv_sub hl [0, 1, 2, 3, 4] rfl)
    · have hq := kite_f c9 hq
      refine lv_aload_n hx hb dX6_tryRoll_15 rfl (lv_at hl 0 rfl) ?_
      refine va_get (D := D) (ci := 5) (v := .ref aS) (C := RX6) (T := TX6) (N := 6) hx hb hts iw_X6_tryRoll_X6 hown hK.1 hP 0 rfl rfl 1 (by decide) (hts (.fieldLink RX6 21 "PinDeck$State" "sheet" "LPinDeck$Sheet;") (by decide +kernel)) (fun _ h9 => h9) rfl dX6_tryRoll_16 ?_
      obtain ⟨o19, ho19, hq⟩ := kbind hq
      refine kc_Vi (av := []) (rest := []) hF hK hG hA (mk_X4_isOver l D cI aS aTk aSr H.size rolls frm o19 ho19) (cwV 0 hts gX6_tryRoll_X4_isOver rfl rfl rfl (by decide +kernel) ⟨Nat.le_of_ble_eq_true rfl, Nat.le_of_ble_eq_true rfl⟩) hP hD hS [4] (by decide) rfl rfl 0 rfl rfl rfl hl.1 rfl (Nat.le_of_ble_eq_true rfl) ⟨Nat.zero_le _, Nat.zero_le _⟩ dX6_tryRoll_19 (fun H locs hP hD hS => ?_)
      have hP : va_P D vwCl [(aT, .inr (5, [.ref aP, .ref aS, .ref aSe, .int sto, .int dro, .int fou])), (aP, .inr (2, [.ref aLe, .ref aSh, .int told, .int wl, .int wr])), (aLe, .inl (cI 0, 10, .inl le)), (aSh, .inl (cI 0, 10, .inl sh)), (aS, .inr (3, [.ref aTk, .ref aSr, .int rolls, .int frm])), (aTk, .inl (cI 0, 21, .inl tk)), (aSr, .inl (cI 0, 11, .inl sr)), (aSe, .inl (cI 0, 3, .inl se))] H := hP
      have hD : va_D A [(aT, .inr (5, [.ref aP, .ref aS, .ref aSe, .int sto, .int dro, .int fou])), (aP, .inr (2, [.ref aLe, .ref aSh, .int told, .int wl, .int wr])), (aLe, .inl (cI 0, 10, .inl le)), (aSh, .inl (cI 0, 10, .inl sh)), (aS, .inr (3, [.ref aTk, .ref aSr, .int rolls, .int frm])), (aTk, .inl (cI 0, 21, .inl tk)), (aSr, .inl (cI 0, 11, .inl sr)), (aSe, .inl (cI 0, 3, .inl se))] := hD
      refine lv_if_ne (tgt := 29) hx hb dX6_tryRoll_22 (by decide) (fun c9 => ?_) (fun c9 => ?_)
      · have hq := kite_f c9 hq
        exact b_29  _ _ _ sto dro fou told wl wr le sh rolls frm tk sr x1 x2 x3 x4 hq hP hD hS (lv_sub hl [0, 1, 2, 3, 4] rfl)
      · have hq := kite_t c9 hq
        refine lv_iconst (v := 1) hx hb dX6_tryRoll_25 (by decide) ?_
        refine lv_goto (tgt := 30) hx hb dX6_tryRoll_26 (by decide) ?_
        exact b_30  _ _ _ sto dro fou told wl wr le sh rolls frm tk sr x1 x2 x3 x4 (1 : Int32) hq hP hD hS (lv_sub hl [0, 1, 2, 3, 4] rfl)

set_option maxHeartbeats 4000000 in
set_option maxRecDepth 100000 in
theorem mk_X7_isLeaning (l : Launch) (D : va_G) (cI : Nat → ClassId) (sz : Nat) (x0 : Int32) (o : Int32) (hq : fn_X7_isLeaning x0 = some o) : Met l yX7_isLeaning wsX7_isLeaning ({ frames := 0, cells := 0, slots := 0, locals := 0 }) (kPc D cI [] sz [.int x0]) (kQi D [] [] sz o) 0 0 (va_A [] sz) := by
  refine kM_z (cc := cX7_isLeaning) (maxL := 1) (by decide +kernel) rfl (Nat.le_of_ble_eq_true rfl) ?_
  intro p e s m args below meth c A Q hF hK hG hD hA hend ls hP hS hl
  obtain ⟨hx, hb, hml, hown, hts⟩ := id hF
  have hl : lv_has ls 1 [(0, .int x0)] := hl
  have b_14 : ∀ (H : Heap) (locs : List Loc) (ls : Array Slot) (k0 : Int32), fn_X7_isLeaning_14 k0 = some o → va_P D vwCl [] H → va_S A s.heap H locs → lv_has ls 1 [] → W p l e { frames := 0, cells := 0, slots := 0, locals := 0 } s m args below meth c H locs 0 0 Q (F0 m 14 ls [.int k0]) := by
    intro H locs ls k0
    intro hq hP hS hl
    obtain ⟨hz, hq⟩ := kite_b hq
    have ho := Option.some.inj hq
    subst ho
    exact hend _ _ _ _ hz hP hS dX7_isLeaning_14
  have b_13 : ∀ (H : Heap) (locs : List Loc) (ls : Array Slot), fn_X7_isLeaning_13  = some o → va_P D vwCl [] H → va_S A s.heap H locs → lv_has ls 1 [] → W p l e { frames := 0, cells := 0, slots := 0, locals := 0 } s m args below meth c H locs 0 0 Q (F0 m 13 ls []) := by
    intro H locs ls 
    intro hq hP hS hl
    refine lv_iconst (v := 0) hx hb dX7_isLeaning_13 (by decide) ?_
    exact b_14  _ _ _ (0 : Int32) hq hP hS (lv_sub hl [] rfl)
  refine lv_iload_n hx hb dX7_isLeaning_0 rfl (lv_at hl 0 rfl) ?_
  refine lv_if_lt (tgt := 13) hx hb dX7_isLeaning_1 (by decide) (fun c9 => ?_) (fun c9 => ?_)
  · have hq := kite_t c9 hq
    exact b_13  _ _ _  hq hP hS (lv_sub hl [] rfl)
  · have hq := kite_f c9 hq
    refine lv_iload_n hx hb dX7_isLeaning_4 rfl (lv_at hl 0 rfl) ?_
    refine lv_iconst (v := 3) hx hb dX7_isLeaning_5 (by decide) ?_
    refine lv_icmp_gt (tgt := 13) hx hb dX7_isLeaning_6 (by decide) (fun c9 => ?_) (fun c9 => ?_)
    · have hq := kite_t c9 hq
      exact b_13  _ _ _  hq hP hS (lv_sub hl [] rfl)
    · have hq := kite_f c9 hq
      refine lv_iconst (v := 1) hx hb dX7_isLeaning_9 (by decide) ?_
      refine lv_goto (tgt := 14) hx hb dX7_isLeaning_10 (by decide) ?_
      exact b_14  _ _ _ (1 : Int32) hq hP hS (lv_sub hl [] rfl)

theorem iw_X6_tryTouch_X6 : ∀ w ∈ wsX60, w ∈ wsX6_tryTouch := by decide +kernel
set_option maxHeartbeats 4000000 in
set_option maxRecDepth 100000 in
theorem mk_X6_tryTouch (l : Launch) (D : va_G) (cI : Nat → ClassId) (aT aP aS aSe aLe aSh : Nat) (sz : Nat) (sto : Int32) (dro : Int32) (fou : Int32) (told : Int32) (wl : Int32) (wr : Int32) (le : kF) (x1 : Int32) (x2 : Int32) (o : Int32 × kF) (hq : fn_X6_tryTouch le x1 x2 = some o) : Met l yX6_tryTouch wsX6_tryTouch ({ frames := 3, cells := 0, slots := 0, locals := 64 }) (kPc D cI [(aT, .inr (5, [.ref aP, .ref aS, .ref aSe, .int sto, .int dro, .int fou])), (aP, .inr (2, [.ref aLe, .ref aSh, .int told, .int wl, .int wr])), (aLe, .inl (cI 0, 10, .inl le))] sz [.ref aT, .int x1, .int x2]) (kQi D [(aT, .inr (5, [.ref aP, .ref aS, .ref aSe, .int sto, .int dro, .int fou])), (aP, .inr (2, [.ref aLe, .ref aSh, .int told, .int wl, .int wr])), (aLe, .inl (cI 0, 10, .inl le))] [(aT, .inr (5, [.ref aP, .ref aS, .ref aSe, .int sto, .int dro, .int fou])), (aP, .inr (2, [.ref aLe, .ref aSh, .int told, .int wl, .int wr])), (aLe, .inl (cI 0, 10, .inl o.2))] sz o.1) 0 0 (va_A [(aT, .inr (5, [.ref aP, .ref aS, .ref aSe, .int sto, .int dro, .int fou])), (aP, .inr (2, [.ref aLe, .ref aSh, .int told, .int wl, .int wr])), (aLe, .inl (cI 0, 10, .inl le))] sz) := by
  refine kM_z (cc := cX6_tryTouch) (maxL := 4) (by decide +kernel) rfl (Nat.le_of_ble_eq_true rfl) ?_
  intro p e s m args below meth c A Q hF hK hG hD hA hend ls hP hS hl
  obtain ⟨hx, hb, hml, hown, hts⟩ := id hF
  have hl : lv_has ls 4 [(0, .ref aT), (1, .int x1), (2, .int x2)] := hl
  have b_38 : ∀ (H : Heap) (locs : List Loc) (ls : Array Slot) (le : kF) (x3 : Int32), fn_X6_tryTouch_38 le x3 = some o → va_P D vwCl [(aT, .inr (5, [.ref aP, .ref aS, .ref aSe, .int sto, .int dro, .int fou])), (aP, .inr (2, [.ref aLe, .ref aSh, .int told, .int wl, .int wr])), (aLe, .inl (cI 0, 10, .inl le))] H → va_D A [(aT, .inr (5, [.ref aP, .ref aS, .ref aSe, .int sto, .int dro, .int fou])), (aP, .inr (2, [.ref aLe, .ref aSh, .int told, .int wl, .int wr])), (aLe, .inl (cI 0, 10, .inl le))] → va_S A s.heap H locs → lv_has ls 4 [(3, .int x3)] → W p l e { frames := 3, cells := 0, slots := 0, locals := 64 } s m args below meth c H locs 0 0 Q (F0 m 38 ls []) := by
    intro H locs ls le x3
    intro hq hP hD hS hl
    refine lv_iload_n hx hb dX6_tryTouch_38 rfl (lv_at hl 0 rfl) ?_
    obtain ⟨hz, hq⟩ := kite_b hq
    have ho := Option.some.inj hq
    subst ho
    exact hend _ _ _ _ hz hP hS dX6_tryTouch_39
  have b_23 : ∀ (H : Heap) (locs : List Loc) (ls : Array Slot) (le : kF) (x1 : Int32) (x2 : Int32) (k0 : Int32), fn_X6_tryTouch_23 le x1 x2 k0 = some o → va_P D vwCl [(aT, .inr (5, [.ref aP, .ref aS, .ref aSe, .int sto, .int dro, .int fou])), (aP, .inr (2, [.ref aLe, .ref aSh, .int told, .int wl, .int wr])), (aLe, .inl (cI 0, 10, .inl le))] H → va_D A [(aT, .inr (5, [.ref aP, .ref aS, .ref aSe, .int sto, .int dro, .int fou])), (aP, .inr (2, [.ref aLe, .ref aSh, .int told, .int wl, .int wr])), (aLe, .inl (cI 0, 10, .inl le))] → va_S A s.heap H locs → lv_has ls 4 [(0, .ref aT), (1, .int x1), (2, .int x2)] → W p l e { frames := 3, cells := 0, slots := 0, locals := 64 } s m args below meth c H locs 0 0 Q (F0 m 23 ls [.int k0]) := by
    intro H locs ls le x1 x2 k0
    intro hq hP hD hS hl
    refine lv_istore_n (lv' := [(3, .int k0), (0, .ref aT), (1, .int x1), (2, .int x2)]) hx hb dX6_tryTouch_23 rfl hl (by decide) rfl (fun ls hl => ?_)
    refine lv_iload_n hx hb dX6_tryTouch_24 rfl (lv_at hl 0 rfl) ?_
    refine lv_if_eq (tgt := 38) hx hb dX6_tryTouch_25 (by decide) (fun c9 => ?_) (fun c9 => ?_)
    · have hq := kite_t c9 hq
      exact b_38  _ _ _ le k0 hq hP hD hS (lv_sub hl [0] rfl)
    · have hq := kite_f c9 hq
      refine lv_aload_n hx hb dX6_tryTouch_28 rfl (lv_at hl 1 rfl) ?_
      refine va_get (D := D) (ci := 5) (v := .ref aP) (C := RX6) (T := TX6) (N := 6) hx hb hts iw_X6_tryTouch_X6 hown hK.1 hP 0 rfl rfl 0 (by decide) (hts (.fieldLink RX6 12 "PinDeck$State" "pins" "LPinDeck$Pins;") (by decide +kernel)) (fun _ h9 => h9) rfl dX6_tryTouch_29 ?_
      refine lv_iload_n hx hb dX6_tryTouch_32 rfl (lv_at hl 2 rfl) ?_
      refine lv_iload_n hx hb dX6_tryTouch_33 rfl (lv_at hl 3 rfl) ?_
      obtain ⟨o34, ho34, hq⟩ := kbind hq
      refine kc_Vi (av := [.int x1, .int x2]) (rest := []) hF hK hG hA (mk_X2_makeLean l D cI aP aLe aSh H.size told wl wr le x1 x2 o34 ho34) (cwV 2 hts gX6_tryTouch_X2_makeLean rfl rfl rfl (by decide +kernel) ⟨Nat.le_of_ble_eq_true rfl, Nat.le_of_ble_eq_true rfl⟩) hP hD hS [1, 2] (by decide) rfl rfl 0 rfl rfl rfl hl.1 rfl (Nat.le_of_ble_eq_true rfl) ⟨Nat.zero_le _, Nat.zero_le _⟩ dX6_tryTouch_34 (fun H locs hP hD hS => ?_)
      have hP : va_P D vwCl [(aT, .inr (5, [.ref aP, .ref aS, .ref aSe, .int sto, .int dro, .int fou])), (aP, .inr (2, [.ref aLe, .ref aSh, .int told, .int wl, .int wr])), (aLe, .inl (cI 0, 10, .inl o34.2))] H := hP
      have hD : va_D A [(aT, .inr (5, [.ref aP, .ref aS, .ref aSe, .int sto, .int dro, .int fou])), (aP, .inr (2, [.ref aLe, .ref aSh, .int told, .int wl, .int wr])), (aLe, .inl (cI 0, 10, .inl o34.2))] := hD
      refine lv_pop hx hb dX6_tryTouch_37 rfl ?_
      exact b_38  _ _ _ o34.2 k0 hq hP hD hS (lv_sub hl [0] rfl)
  have b_22 : ∀ (H : Heap) (locs : List Loc) (ls : Array Slot) (le : kF) (x1 : Int32) (x2 : Int32), fn_X6_tryTouch_22 le x1 x2 = some o → va_P D vwCl [(aT, .inr (5, [.ref aP, .ref aS, .ref aSe, .int sto, .int dro, .int fou])), (aP, .inr (2, [.ref aLe, .ref aSh, .int told, .int wl, .int wr])), (aLe, .inl (cI 0, 10, .inl le))] H → va_D A [(aT, .inr (5, [.ref aP, .ref aS, .ref aSe, .int sto, .int dro, .int fou])), (aP, .inr (2, [.ref aLe, .ref aSh, .int told, .int wl, .int wr])), (aLe, .inl (cI 0, 10, .inl le))] → va_S A s.heap H locs → lv_has ls 4 [(0, .ref aT), (1, .int x1), (2, .int x2)] → W p l e { frames := 3, cells := 0, slots := 0, locals := 64 } s m args below meth c H locs 0 0 Q (F0 m 22 ls []) := by
    intro H locs ls le x1 x2
    intro hq hP hD hS hl
    refine lv_iconst (v := 0) hx hb dX6_tryTouch_22 (by decide) ?_
    exact b_23  _ _ _ le x1 x2 (0 : Int32) hq hP hD hS (lv_sub hl [0, 1, 2] rfl)
  refine lv_iload_n hx hb dX6_tryTouch_0 rfl (lv_at hl 2 rfl) ?_
  obtain ⟨o1, ho1, hq⟩ := kbind hq
  refine kc_Ni (av := [.int x2]) (rest := []) hF hK hG hA (mk_X7_isLeaning l D cI s.heap.size x2 o1 ho1) ⟨va_cnB 1 hts gX6_tryTouch_X7_isLeaning_n107 rfl rfl rfl (hK.2.1 (.methodLinkNest "PinDeck$State" 107 ⟨"PinDeck", "isLeaning", "(I)Z"⟩ "PinDeck") (by decide +kernel)) (hts (.initialized RX7) (by decide +kernel)) (by decide +kernel) ⟨Nat.le_of_ble_eq_true rfl, Nat.le_of_ble_eq_true rfl⟩, hts (.static yX7_isLeaning) (by decide +kernel), trivial⟩ hP hD hS [] (by decide) rfl rfl rfl hl.1 rfl (Nat.le_of_ble_eq_true rfl) ⟨Nat.zero_le _, Nat.zero_le _⟩ dX6_tryTouch_1 (fun H locs hP hD hS => ?_)
  have hP : va_P D vwCl [(aT, .inr (5, [.ref aP, .ref aS, .ref aSe, .int sto, .int dro, .int fou])), (aP, .inr (2, [.ref aLe, .ref aSh, .int told, .int wl, .int wr])), (aLe, .inl (cI 0, 10, .inl le))] H := hP
  have hD : va_D A [(aT, .inr (5, [.ref aP, .ref aS, .ref aSe, .int sto, .int dro, .int fou])), (aP, .inr (2, [.ref aLe, .ref aSh, .int told, .int wl, .int wr])), (aLe, .inl (cI 0, 10, .inl le))] := hD
  refine lv_if_eq (tgt := 22) hx hb dX6_tryTouch_4 (by decide) (fun c9 => ?_) (fun c9 => ?_)
  · have hq := kite_t c9 hq
    exact b_22  _ _ _ le x1 x2 hq hP hD hS (lv_sub hl [0, 1, 2] rfl)
  · have hq := kite_f c9 hq
    refine lv_aload_n hx hb dX6_tryTouch_7 rfl (lv_at hl 0 rfl) ?_
    refine va_get (D := D) (ci := 5) (v := .ref aP) (C := RX6) (T := TX6) (N := 6) hx hb hts iw_X6_tryTouch_X6 hown hK.1 hP 0 rfl rfl 0 (by decide) (hts (.fieldLink RX6 12 "PinDeck$State" "pins" "LPinDeck$Pins;") (by decide +kernel)) (fun _ h9 => h9) rfl dX6_tryTouch_8 ?_
    refine lv_iload_n hx hb dX6_tryTouch_11 rfl (lv_at hl 1 rfl) ?_
    obtain ⟨o12, ho12, hq⟩ := kbind hq
    refine kc_Vi (av := [.int x1]) (rest := []) hF hK hG hA (mk_X2_isUp l D cI aP aLe aSh H.size told wl wr le x1 o12 ho12) (cwV 1 hts gX6_tryTouch_X2_isUp rfl rfl rfl (by decide +kernel) ⟨Nat.le_of_ble_eq_true rfl, Nat.le_of_ble_eq_true rfl⟩) hP hD hS [1, 2] (by decide) rfl rfl 0 rfl rfl rfl hl.1 rfl (Nat.le_of_ble_eq_true rfl) ⟨Nat.zero_le _, Nat.zero_le _⟩ dX6_tryTouch_12 (fun H locs hP hD hS => ?_)
    have hP : va_P D vwCl [(aT, .inr (5, [.ref aP, .ref aS, .ref aSe, .int sto, .int dro, .int fou])), (aP, .inr (2, [.ref aLe, .ref aSh, .int told, .int wl, .int wr])), (aLe, .inl (cI 0, 10, .inl le))] H := hP
    have hD : va_D A [(aT, .inr (5, [.ref aP, .ref aS, .ref aSe, .int sto, .int dro, .int fou])), (aP, .inr (2, [.ref aLe, .ref aSh, .int told, .int wl, .int wr])), (aLe, .inl (cI 0, 10, .inl le))] := hD
    refine lv_if_eq (tgt := 22) hx hb dX6_tryTouch_15 (by decide) (fun c9 => ?_) (fun c9 => ?_)
    · have hq := kite_t c9 hq
      exact b_22  _ _ _ le x1 x2 hq hP hD hS (lv_sub hl [0, 1, 2] rfl)
    · have hq := kite_f c9 hq
      refine lv_iconst (v := 1) hx hb dX6_tryTouch_18 (by decide) ?_
      refine lv_goto (tgt := 23) hx hb dX6_tryTouch_19 (by decide) ?_
      exact b_23  _ _ _ le x1 x2 (1 : Int32) hq hP hD hS (lv_sub hl [0, 1, 2] rfl)

set_option maxHeartbeats 4000000 in
set_option maxRecDepth 100000 in
theorem mk_X7_isValue (l : Launch) (D : va_G) (cI : Nat → ClassId) (sz : Nat) (x0 : Int32) (x1 : Int32) (o : Int32) (hq : fn_X7_isValue x0 x1 = some o) : Met l yX7_isValue wsX7_isValue ({ frames := 1, cells := 0, slots := 0, locals := 20 }) (kPc D cI [] sz [.int x0, .int x1]) (kQi D [] [] sz o) 0 0 (va_A [] sz) := by
  refine kM_z (cc := cX7_isValue) (maxL := 2) (by decide +kernel) rfl (Nat.le_of_ble_eq_true rfl) ?_
  intro p e s m args below meth c A Q hF hK hG hD hA hend ls hP hS hl
  obtain ⟨hx, hb, hml, hown, hts⟩ := id hF
  have hl : lv_has ls 2 [(0, .int x0), (1, .int x1)] := hl
  have b_27 : ∀ (H : Heap) (locs : List Loc) (ls : Array Slot) (k0 : Int32), fn_X7_isValue_27 k0 = some o → va_P D vwCl [] H → va_S A s.heap H locs → lv_has ls 2 [] → W p l e { frames := 1, cells := 0, slots := 0, locals := 20 } s m args below meth c H locs 0 0 Q (F0 m 27 ls [.int k0]) := by
    intro H locs ls k0
    intro hq hP hS hl
    obtain ⟨hz, hq⟩ := kite_b hq
    have ho := Option.some.inj hq
    subst ho
    exact hend _ _ _ _ hz hP hS dX7_isValue_27
  have b_19 : ∀ (H : Heap) (locs : List Loc) (ls : Array Slot), fn_X7_isValue_19  = some o → va_P D vwCl [] H → va_S A s.heap H locs → lv_has ls 2 [] → W p l e { frames := 1, cells := 0, slots := 0, locals := 20 } s m args below meth c H locs 0 0 Q (F0 m 19 ls []) := by
    intro H locs ls 
    intro hq hP hS hl
    refine lv_iconst (v := 0) hx hb dX7_isValue_19 (by decide) ?_
    refine lv_goto (tgt := 27) hx hb dX7_isValue_20 (by decide) ?_
    exact b_27  _ _ _ (0 : Int32) hq hP hS (lv_sub hl [] rfl)
  refine lv_iload_n hx hb dX7_isValue_0 rfl (lv_at hl 0 rfl) ?_
  refine lv_if_ne (tgt := 23) hx hb dX7_isValue_1 (by decide) (fun c9 => ?_) (fun c9 => ?_)
  · have hq := kite_f c9 hq
    refine lv_iload_n hx hb dX7_isValue_23 rfl (lv_at hl 1 rfl) ?_
    obtain ⟨o24, ho24, hq⟩ := kbind hq
    refine kc_Si (av := [.int x1]) (rest := []) hF hK hG hA (mk_X7_isLeaning l D cI s.heap.size x1 o24 ho24) (va_cwS 1 hts gX7_isValue_X7_isLeaning rfl rfl rfl (by decide +kernel) ⟨Nat.le_of_ble_eq_true rfl, Nat.le_of_ble_eq_true rfl⟩) hP hD hS [] (by decide) rfl rfl rfl hl.1 rfl (Nat.le_of_ble_eq_true rfl) ⟨Nat.zero_le _, Nat.zero_le _⟩ dX7_isValue_24 (fun H locs hP hD hS => ?_)
    have hP : va_P D vwCl [] H := hP
    have hD : va_D A [] := hD
    exact b_27  _ _ _ o24 hq hP hS (lv_sub hl [] rfl)
  · have hq := kite_t c9 hq
    refine lv_iload_n hx hb dX7_isValue_4 rfl (lv_at hl 1 rfl) ?_
    refine lv_iconst (v := 3) hx hb dX7_isValue_5 (by decide) ?_
    refine lv_icmp_lt (tgt := 19) hx hb dX7_isValue_6 (by decide) (fun c9 => ?_) (fun c9 => ?_)
    · have hq := kite_t c9 hq
      exact b_19  _ _ _  hq hP hS (lv_sub hl [] rfl)
    · have hq := kite_f c9 hq
      refine lv_iload_n hx hb dX7_isValue_9 rfl (lv_at hl 1 rfl) ?_
      refine lv_bipush (v := 90) hx hb dX7_isValue_10 (by decide) ?_
      refine lv_icmp_gt (tgt := 19) hx hb dX7_isValue_12 (by decide) (fun c9 => ?_) (fun c9 => ?_)
      · have hq := kite_t c9 hq
        exact b_19  _ _ _  hq hP hS (lv_sub hl [] rfl)
      · have hq := kite_f c9 hq
        refine lv_iconst (v := 1) hx hb dX7_isValue_15 (by decide) ?_
        refine lv_goto (tgt := 27) hx hb dX7_isValue_16 (by decide) ?_
        exact b_27  _ _ _ (1 : Int32) hq hP hS (lv_sub hl [] rfl)

set_option maxHeartbeats 4000000 in
set_option maxRecDepth 100000 in
theorem mk_X6_trySet (l : Launch) (D : va_G) (cI : Nat → ClassId) (aT aP aS aSe : Nat) (sz : Nat) (sto : Int32) (dro : Int32) (fou : Int32) (se : kF) (x1 : Int32) (x2 : Int32) (o : Int32 × kF) (hq : fn_X6_trySet se x1 x2 = some o) : Met l yX6_trySet wsX6_trySet ({ frames := 3, cells := 0, slots := 0, locals := 64 }) (kPc D cI [(aT, .inr (5, [.ref aP, .ref aS, .ref aSe, .int sto, .int dro, .int fou])), (aSe, .inl (cI 0, 3, .inl se))] sz [.ref aT, .int x1, .int x2]) (kQi D [(aT, .inr (5, [.ref aP, .ref aS, .ref aSe, .int sto, .int dro, .int fou])), (aSe, .inl (cI 0, 3, .inl se))] [(aT, .inr (5, [.ref aP, .ref aS, .ref aSe, .int sto, .int dro, .int fou])), (aSe, .inl (cI 0, 3, .inl o.2))] sz o.1) 0 0 (va_A [(aT, .inr (5, [.ref aP, .ref aS, .ref aSe, .int sto, .int dro, .int fou])), (aSe, .inl (cI 0, 3, .inl se))] sz) := by
  refine kM_z (cc := cX6_trySet) (maxL := 4) (by decide +kernel) rfl (Nat.le_of_ble_eq_true rfl) ?_
  intro p e s m args below meth c A Q hF hK hG hD hA hend ls hP hS hl
  obtain ⟨hx, hb, hml, hown, hts⟩ := id hF
  have hl : lv_has ls 4 [(0, .ref aT), (1, .int x1), (2, .int x2)] := hl
  have b_32 : ∀ (H : Heap) (locs : List Loc) (ls : Array Slot) (se : kF) (x3 : Int32), fn_X6_trySet_32 se x3 = some o → va_P D vwCl [(aT, .inr (5, [.ref aP, .ref aS, .ref aSe, .int sto, .int dro, .int fou])), (aSe, .inl (cI 0, 3, .inl se))] H → va_D A [(aT, .inr (5, [.ref aP, .ref aS, .ref aSe, .int sto, .int dro, .int fou])), (aSe, .inl (cI 0, 3, .inl se))] → va_S A s.heap H locs → lv_has ls 4 [(3, .int x3)] → W p l e { frames := 3, cells := 0, slots := 0, locals := 64 } s m args below meth c H locs 0 0 Q (F0 m 32 ls []) := by
    intro H locs ls se x3
    intro hq hP hD hS hl
    refine lv_iload_n hx hb dX6_trySet_32 rfl (lv_at hl 0 rfl) ?_
    obtain ⟨hz, hq⟩ := kite_b hq
    have ho := Option.some.inj hq
    subst ho
    exact hend _ _ _ _ hz hP hS dX6_trySet_33
  have b_20 : ∀ (H : Heap) (locs : List Loc) (ls : Array Slot) (se : kF) (x1 : Int32) (x2 : Int32) (k0 : Int32), fn_X6_trySet_20 se x1 x2 k0 = some o → va_P D vwCl [(aT, .inr (5, [.ref aP, .ref aS, .ref aSe, .int sto, .int dro, .int fou])), (aSe, .inl (cI 0, 3, .inl se))] H → va_D A [(aT, .inr (5, [.ref aP, .ref aS, .ref aSe, .int sto, .int dro, .int fou])), (aSe, .inl (cI 0, 3, .inl se))] → va_S A s.heap H locs → lv_has ls 4 [(0, .ref aT), (1, .int x1), (2, .int x2)] → W p l e { frames := 3, cells := 0, slots := 0, locals := 64 } s m args below meth c H locs 0 0 Q (F0 m 20 ls [.int k0]) := by
    intro H locs ls se x1 x2 k0
    intro hq hP hD hS hl
    refine lv_istore_n (lv' := [(3, .int k0), (0, .ref aT), (1, .int x1), (2, .int x2)]) hx hb dX6_trySet_20 rfl hl (by decide) rfl (fun ls hl => ?_)
    refine lv_iload_n hx hb dX6_trySet_21 rfl (lv_at hl 0 rfl) ?_
    refine lv_if_eq (tgt := 32) hx hb dX6_trySet_22 (by decide) (fun c9 => ?_) (fun c9 => ?_)
    · have hq := kite_t c9 hq
      exact b_32  _ _ _ se k0 hq hP hD hS (lv_sub hl [0] rfl)
    · have hq := kite_f c9 hq
      refine lv_aload_n hx hb dX6_trySet_25 rfl (lv_at hl 1 rfl) ?_
      refine lv_iload_n hx hb dX6_trySet_26 rfl (lv_at hl 2 rfl) ?_
      refine lv_iload_n hx hb dX6_trySet_27 rfl (lv_at hl 3 rfl) ?_
      obtain ⟨o28, ho28, hq⟩ := kbind hq
      refine kc_Vi (av := [.int x1, .int x2]) (rest := []) hF hK hG hA (mk_X6_change l D cI aT aP aS aSe H.size sto dro fou se x1 x2 o28 ho28) (cwV 2 hts gX6_trySet_X6_change rfl rfl rfl (by decide +kernel) ⟨Nat.le_of_ble_eq_true rfl, Nat.le_of_ble_eq_true rfl⟩) hP hD hS [0, 1] (by decide) rfl rfl 0 rfl rfl rfl hl.1 rfl (Nat.le_of_ble_eq_true rfl) ⟨Nat.zero_le _, Nat.zero_le _⟩ dX6_trySet_28 (fun H locs hP hD hS => ?_)
      have hP : va_P D vwCl [(aT, .inr (5, [.ref aP, .ref aS, .ref aSe, .int sto, .int dro, .int fou])), (aSe, .inl (cI 0, 3, .inl o28.2))] H := hP
      have hD : va_D A [(aT, .inr (5, [.ref aP, .ref aS, .ref aSe, .int sto, .int dro, .int fou])), (aSe, .inl (cI 0, 3, .inl o28.2))] := hD
      refine lv_pop hx hb dX6_trySet_31 rfl ?_
      exact b_32  _ _ _ o28.2 k0 hq hP hD hS (lv_sub hl [0] rfl)
  have b_19 : ∀ (H : Heap) (locs : List Loc) (ls : Array Slot) (se : kF) (x1 : Int32) (x2 : Int32), fn_X6_trySet_19 se x1 x2 = some o → va_P D vwCl [(aT, .inr (5, [.ref aP, .ref aS, .ref aSe, .int sto, .int dro, .int fou])), (aSe, .inl (cI 0, 3, .inl se))] H → va_D A [(aT, .inr (5, [.ref aP, .ref aS, .ref aSe, .int sto, .int dro, .int fou])), (aSe, .inl (cI 0, 3, .inl se))] → va_S A s.heap H locs → lv_has ls 4 [(0, .ref aT), (1, .int x1), (2, .int x2)] → W p l e { frames := 3, cells := 0, slots := 0, locals := 64 } s m args below meth c H locs 0 0 Q (F0 m 19 ls []) := by
    intro H locs ls se x1 x2
    intro hq hP hD hS hl
    refine lv_iconst (v := 0) hx hb dX6_trySet_19 (by decide) ?_
    exact b_20  _ _ _ se x1 x2 (0 : Int32) hq hP hD hS (lv_sub hl [0, 1, 2] rfl)
  refine lv_iload_n hx hb dX6_trySet_0 rfl (lv_at hl 1 rfl) ?_
  obtain ⟨o1, ho1, hq⟩ := kbind hq
  refine kc_Ni (av := [.int x1]) (rest := []) hF hK hG hA (mk_X7_isSetting l D cI s.heap.size x1 o1 ho1) ⟨va_cnB 1 hts gX6_trySet_X7_isSetting_n55 rfl rfl rfl (hK.2.1 (.methodLinkNest "PinDeck$State" 55 ⟨"PinDeck", "isSetting", "(I)Z"⟩ "PinDeck") (by decide +kernel)) (hts (.initialized RX7) (by decide +kernel)) (by decide +kernel) ⟨Nat.le_of_ble_eq_true rfl, Nat.le_of_ble_eq_true rfl⟩, hts (.static yX7_isSetting) (by decide +kernel), trivial⟩ hP hD hS [] (by decide) rfl rfl rfl hl.1 rfl (Nat.le_of_ble_eq_true rfl) ⟨Nat.zero_le _, Nat.zero_le _⟩ dX6_trySet_1 (fun H locs hP hD hS => ?_)
  have hP : va_P D vwCl [(aT, .inr (5, [.ref aP, .ref aS, .ref aSe, .int sto, .int dro, .int fou])), (aSe, .inl (cI 0, 3, .inl se))] H := hP
  have hD : va_D A [(aT, .inr (5, [.ref aP, .ref aS, .ref aSe, .int sto, .int dro, .int fou])), (aSe, .inl (cI 0, 3, .inl se))] := hD
  refine lv_if_eq (tgt := 19) hx hb dX6_trySet_4 (by decide) (fun c9 => ?_) (fun c9 => ?_)
  · have hq := kite_t c9 hq
    exact b_19  _ _ _ se x1 x2 hq hP hD hS (lv_sub hl [0, 1, 2] rfl)
  · have hq := kite_f c9 hq
    refine lv_iload_n hx hb dX6_trySet_7 rfl (lv_at hl 1 rfl) ?_
    refine lv_iload_n hx hb dX6_trySet_8 rfl (lv_at hl 2 rfl) ?_
    obtain ⟨o9, ho9, hq⟩ := kbind hq
    refine kc_Ni (av := [.int x1, .int x2]) (rest := []) hF hK hG hA (mk_X7_isValue l D cI H.size x1 x2 o9 ho9) ⟨va_cnB 2 hts gX6_trySet_X7_isValue_n117 rfl rfl rfl (hK.2.1 (.methodLinkNest "PinDeck$State" 117 ⟨"PinDeck", "isValue", "(II)Z"⟩ "PinDeck") (by decide +kernel)) (hts (.initialized RX7) (by decide +kernel)) (by decide +kernel) ⟨Nat.le_of_ble_eq_true rfl, Nat.le_of_ble_eq_true rfl⟩, hts (.static yX7_isValue) (by decide +kernel), trivial⟩ hP hD hS [] (by decide) rfl rfl rfl hl.1 rfl (Nat.le_of_ble_eq_true rfl) ⟨Nat.zero_le _, Nat.zero_le _⟩ dX6_trySet_9 (fun H locs hP hD hS => ?_)
    have hP : va_P D vwCl [(aT, .inr (5, [.ref aP, .ref aS, .ref aSe, .int sto, .int dro, .int fou])), (aSe, .inl (cI 0, 3, .inl se))] H := hP
    have hD : va_D A [(aT, .inr (5, [.ref aP, .ref aS, .ref aSe, .int sto, .int dro, .int fou])), (aSe, .inl (cI 0, 3, .inl se))] := hD
    refine lv_if_eq (tgt := 19) hx hb dX6_trySet_12 (by decide) (fun c9 => ?_) (fun c9 => ?_)
    · have hq := kite_t c9 hq
      exact b_19  _ _ _ se x1 x2 hq hP hD hS (lv_sub hl [0, 1, 2] rfl)
    · have hq := kite_f c9 hq
      refine lv_iconst (v := 1) hx hb dX6_trySet_15 (by decide) ?_
      refine lv_goto (tgt := 20) hx hb dX6_trySet_16 (by decide) ?_
      exact b_20  _ _ _ se x1 x2 (1 : Int32) hq hP hD hS (lv_sub hl [0, 1, 2] rfl)
