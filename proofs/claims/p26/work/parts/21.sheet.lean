/-! Sheet -/
theorem iw_X4_clear_X4 : ∀ w ∈ wsX40, w ∈ wsX4_clear := by decide +kernel
set_option maxHeartbeats 4000000 in
set_option maxRecDepth 100000 in
theorem mk_X4_clear (l : Launch) (D : va_G) (cI : Nat → ClassId) (aS aTk aSr : Nat) (sz : Nat) (rolls : Int32) (frm : Int32) (o : Int32 × Int32) (hq : fn_X4_clear rolls frm = some o) : Met l yX4_clear wsX4_clear ({ frames := 0, cells := 0, slots := 0, locals := 0 }) (kPc D cI [(aS, .inr (3, [.ref aTk, .ref aSr, .int rolls, .int frm]))] sz [.ref aS]) (kQv D [(aS, .inr (3, [.ref aTk, .ref aSr, .int rolls, .int frm]))] [(aS, .inr (3, [.ref aTk, .ref aSr, .int o.1, .int o.2]))] sz) 0 0 (va_A [(aS, .inr (3, [.ref aTk, .ref aSr, .int rolls, .int frm]))] sz) := by
  refine kM_v (cc := cX4_clear) (maxL := 1) (by decide +kernel) rfl (Nat.le_of_ble_eq_true rfl) ?_
  intro p e s m args below meth c A Q hF hK hG hD hA hend ls hP hS hl
  obtain ⟨hx, hb, hml, hown, hts⟩ := id hF
  have hl : lv_has ls 1 [(0, .ref aS)] := hl
  refine lv_aload_n hx hb dX4_clear_0 rfl (lv_at hl 0 rfl) ?_
  refine lv_iconst (v := 0) hx hb dX4_clear_1 (by decide) ?_
  refine va_put (D := D) (ci := 3) (v := .int (0 : Int32)) (ty := .int) (C := RX4) (T := TX4) (N := 4) hx hb hts iw_X4_clear_X4 tyX4 tyX4_ok nmX4 hown hK.1 hP hD hS 0 rfl rfl 2 (by decide) (hts (.fieldLink RX4 18 "PinDeck$Sheet" "rolls" "I") (by decide +kernel)) (fun _ h9 => h9) rfl (by decide +kernel) rfl rfl (Nat.le_of_ble_eq_true rfl) dX4_clear_2 (fun H locs hP hD hS => ?_)
  have hP : va_P D vwCl [(aS, .inr (3, [.ref aTk, .ref aSr, .int (0 : Int32), .int frm]))] H := hP
  have hD : va_D A [(aS, .inr (3, [.ref aTk, .ref aSr, .int (0 : Int32), .int frm]))] := hD
  refine lv_aload_n hx hb dX4_clear_5 rfl (lv_at hl 0 rfl) ?_
  refine lv_iconst (v := 0) hx hb dX4_clear_6 (by decide) ?_
  refine va_put (D := D) (ci := 3) (v := .int (0 : Int32)) (ty := .int) (C := RX4) (T := TX4) (N := 4) hx hb hts iw_X4_clear_X4 tyX4 tyX4_ok nmX4 hown hK.1 hP hD hS 0 rfl rfl 3 (by decide) (hts (.fieldLink RX4 22 "PinDeck$Sheet" "frame" "I") (by decide +kernel)) (fun _ h9 => h9) rfl (by decide +kernel) rfl rfl (Nat.le_of_ble_eq_true rfl) dX4_clear_7 (fun H locs hP hD hS => ?_)
  have hP : va_P D vwCl [(aS, .inr (3, [.ref aTk, .ref aSr, .int (0 : Int32), .int (0 : Int32)]))] H := hP
  have hD : va_D A [(aS, .inr (3, [.ref aTk, .ref aSr, .int (0 : Int32), .int (0 : Int32)]))] := hD
  have ho := Option.some.inj hq
  subst ho
  exact hend _ _ _ _ hP hS dX4_clear_10

theorem iw_X4_copyFrom_X4 : ∀ w ∈ wsX40, w ∈ wsX4_copyFrom := by decide +kernel
set_option maxHeartbeats 4000000 in
set_option maxRecDepth 100000 in
theorem mk_X4_copyFrom (l : Launch) (D : va_G) (cI : Nat → ClassId) (aS aTk aSr azS azTk azSr : Nat) (sz : Nat) (rolls : Int32) (frm : Int32) (tk : kF) (sr : kF) (zrolls : Int32) (zfrm : Int32) (ztk : kF) (zsr : kF) (o : Int32 × Int32 × kF × kF) (hq : fn_X4_copyFrom rolls frm tk sr zrolls zfrm ztk zsr = some o) : Met l yX4_copyFrom wsX4_copyFrom ({ frames := 0, cells := 0, slots := 0, locals := 0 }) (kPc D cI [(aS, .inr (3, [.ref aTk, .ref aSr, .int rolls, .int frm])), (aTk, .inl (cI 0, 21, .inl tk)), (aSr, .inl (cI 0, 11, .inl sr)), (azS, .inr (3, [.ref azTk, .ref azSr, .int zrolls, .int zfrm])), (azTk, .inl (cI 0, 21, .inl ztk)), (azSr, .inl (cI 0, 11, .inl zsr))] sz [.ref aS, .ref azS]) (kQv D [(aS, .inr (3, [.ref aTk, .ref aSr, .int rolls, .int frm])), (aTk, .inl (cI 0, 21, .inl tk)), (aSr, .inl (cI 0, 11, .inl sr)), (azS, .inr (3, [.ref azTk, .ref azSr, .int zrolls, .int zfrm])), (azTk, .inl (cI 0, 21, .inl ztk)), (azSr, .inl (cI 0, 11, .inl zsr))] [(aS, .inr (3, [.ref aTk, .ref aSr, .int o.1, .int o.2.1])), (aTk, .inl (cI 0, 21, .inl o.2.2.1)), (aSr, .inl (cI 0, 11, .inl o.2.2.2)), (azS, .inr (3, [.ref azTk, .ref azSr, .int zrolls, .int zfrm])), (azTk, .inl (cI 0, 21, .inl ztk)), (azSr, .inl (cI 0, 11, .inl zsr))] sz) 0 0 (va_A [(aS, .inr (3, [.ref aTk, .ref aSr, .int rolls, .int frm])), (aTk, .inl (cI 0, 21, .inl tk)), (aSr, .inl (cI 0, 11, .inl sr)), (azS, .inr (3, [.ref azTk, .ref azSr, .int zrolls, .int zfrm])), (azTk, .inl (cI 0, 21, .inl ztk)), (azSr, .inl (cI 0, 11, .inl zsr))] sz) := by
  refine kM_v (cc := cX4_copyFrom) (maxL := 3) (by decide +kernel) rfl (Nat.le_of_ble_eq_true rfl) ?_
  intro p e s m args below meth c A Q hF hK hG hD hA hend ls hP hS hl
  obtain ⟨hx, hb, hml, hown, hts⟩ := id hF
  have hl : lv_has ls 3 [(0, .ref aS), (1, .ref azS)] := hl
  have b_28 : ∀ (q : Nat), ∀ (H : Heap) (locs : List Loc) (ls : Array Slot) (rolls : Int32) (frm : Int32) (tk : kF) (sr : kF) (x2 : Int32), fn_X4_copyFrom_28 q rolls frm tk sr zrolls zfrm ztk zsr x2 = some o → va_P D vwCl [(aS, .inr (3, [.ref aTk, .ref aSr, .int rolls, .int frm])), (aTk, .inl (cI 0, 21, .inl tk)), (aSr, .inl (cI 0, 11, .inl sr)), (azS, .inr (3, [.ref azTk, .ref azSr, .int zrolls, .int zfrm])), (azTk, .inl (cI 0, 21, .inl ztk)), (azSr, .inl (cI 0, 11, .inl zsr))] H → va_D A [(aS, .inr (3, [.ref aTk, .ref aSr, .int rolls, .int frm])), (aTk, .inl (cI 0, 21, .inl tk)), (aSr, .inl (cI 0, 11, .inl sr)), (azS, .inr (3, [.ref azTk, .ref azSr, .int zrolls, .int zfrm])), (azTk, .inl (cI 0, 21, .inl ztk)), (azSr, .inl (cI 0, 11, .inl zsr))] → va_S A s.heap H locs → lv_has ls 3 [(0, .ref aS), (1, .ref azS), (2, .int x2)] → W p l e { frames := 0, cells := 0, slots := 0, locals := 0 } s m args below meth c H locs 0 0 Q (F0 m 28 ls []) := by
    intro q
    induction q with
    | zero =>
      intro H locs ls rolls frm tk sr x2
      intro hq
      cases hq
    | succ q ih =>
      intro H locs ls rolls frm tk sr x2
      intro hq hP hD hS hl
      refine lv_iload_n hx hb dX4_copyFrom_28 rfl (lv_at hl 2 rfl) ?_
      refine lv_bipush (v := 10) hx hb dX4_copyFrom_29 (by decide) ?_
      refine lv_icmp_gt (tgt := 52) hx hb dX4_copyFrom_31 (by decide) (fun c9 => ?_) (fun c9 => ?_)
      · have hq := kite_t c9 hq
        refine lv_aload_n hx hb dX4_copyFrom_52 rfl (lv_at hl 0 rfl) ?_
        refine lv_aload_n hx hb dX4_copyFrom_53 rfl (lv_at hl 1 rfl) ?_
        refine va_get (D := D) (ci := 3) (v := .int zrolls) (C := RX4) (T := TX4) (N := 4) hx hb hts iw_X4_copyFrom_X4 hown hK.1 hP 3 rfl rfl 2 (by decide) (hts (.fieldLink RX4 18 "PinDeck$Sheet" "rolls" "I") (by decide +kernel)) (fun _ h9 => h9) rfl dX4_copyFrom_54 ?_
        refine va_put (D := D) (ci := 3) (v := .int zrolls) (ty := .int) (C := RX4) (T := TX4) (N := 4) hx hb hts iw_X4_copyFrom_X4 tyX4 tyX4_ok nmX4 hown hK.1 hP hD hS 0 rfl rfl 2 (by decide) (hts (.fieldLink RX4 18 "PinDeck$Sheet" "rolls" "I") (by decide +kernel)) (fun _ h9 => h9) rfl (by decide +kernel) rfl rfl (Nat.le_of_ble_eq_true rfl) dX4_copyFrom_57 (fun H locs hP hD hS => ?_)
        have hP : va_P D vwCl [(aS, .inr (3, [.ref aTk, .ref aSr, .int zrolls, .int frm])), (aTk, .inl (cI 0, 21, .inl tk)), (aSr, .inl (cI 0, 11, .inl sr)), (azS, .inr (3, [.ref azTk, .ref azSr, .int zrolls, .int zfrm])), (azTk, .inl (cI 0, 21, .inl ztk)), (azSr, .inl (cI 0, 11, .inl zsr))] H := hP
        have hD : va_D A [(aS, .inr (3, [.ref aTk, .ref aSr, .int zrolls, .int frm])), (aTk, .inl (cI 0, 21, .inl tk)), (aSr, .inl (cI 0, 11, .inl sr)), (azS, .inr (3, [.ref azTk, .ref azSr, .int zrolls, .int zfrm])), (azTk, .inl (cI 0, 21, .inl ztk)), (azSr, .inl (cI 0, 11, .inl zsr))] := hD
        refine lv_aload_n hx hb dX4_copyFrom_60 rfl (lv_at hl 0 rfl) ?_
        refine lv_aload_n hx hb dX4_copyFrom_61 rfl (lv_at hl 1 rfl) ?_
        refine va_get (D := D) (ci := 3) (v := .int zfrm) (C := RX4) (T := TX4) (N := 4) hx hb hts iw_X4_copyFrom_X4 hown hK.1 hP 3 rfl rfl 3 (by decide) (hts (.fieldLink RX4 22 "PinDeck$Sheet" "frame" "I") (by decide +kernel)) (fun _ h9 => h9) rfl dX4_copyFrom_62 ?_
        refine va_put (D := D) (ci := 3) (v := .int zfrm) (ty := .int) (C := RX4) (T := TX4) (N := 4) hx hb hts iw_X4_copyFrom_X4 tyX4 tyX4_ok nmX4 hown hK.1 hP hD hS 0 rfl rfl 3 (by decide) (hts (.fieldLink RX4 22 "PinDeck$Sheet" "frame" "I") (by decide +kernel)) (fun _ h9 => h9) rfl (by decide +kernel) rfl rfl (Nat.le_of_ble_eq_true rfl) dX4_copyFrom_65 (fun H locs hP hD hS => ?_)
        have hP : va_P D vwCl [(aS, .inr (3, [.ref aTk, .ref aSr, .int zrolls, .int zfrm])), (aTk, .inl (cI 0, 21, .inl tk)), (aSr, .inl (cI 0, 11, .inl sr)), (azS, .inr (3, [.ref azTk, .ref azSr, .int zrolls, .int zfrm])), (azTk, .inl (cI 0, 21, .inl ztk)), (azSr, .inl (cI 0, 11, .inl zsr))] H := hP
        have hD : va_D A [(aS, .inr (3, [.ref aTk, .ref aSr, .int zrolls, .int zfrm])), (aTk, .inl (cI 0, 21, .inl tk)), (aSr, .inl (cI 0, 11, .inl sr)), (azS, .inr (3, [.ref azTk, .ref azSr, .int zrolls, .int zfrm])), (azTk, .inl (cI 0, 21, .inl ztk)), (azSr, .inl (cI 0, 11, .inl zsr))] := hD
        have ho := Option.some.inj hq
        subst ho
        exact hend _ _ _ _ hP hS dX4_copyFrom_68
      · have hq := kite_f c9 hq
        refine lv_aload_n hx hb dX4_copyFrom_34 rfl (lv_at hl 0 rfl) ?_
        refine va_get (D := D) (ci := 3) (v := .ref aSr) (C := RX4) (T := TX4) (N := 4) hx hb hts iw_X4_copyFrom_X4 hown hK.1 hP 0 rfl rfl 1 (by decide) (hts (.fieldLink RX4 15 "PinDeck$Sheet" "start" "[I") (by decide +kernel)) (fun _ h9 => h9) rfl dX4_copyFrom_35 ?_
        refine lv_iload_n hx hb dX4_copyFrom_38 rfl (lv_at hl 2 rfl) ?_
        refine lv_aload_n hx hb dX4_copyFrom_39 rfl (lv_at hl 1 rfl) ?_
        refine va_get (D := D) (ci := 3) (v := .ref azSr) (C := RX4) (T := TX4) (N := 4) hx hb hts iw_X4_copyFrom_X4 hown hK.1 hP 3 rfl rfl 1 (by decide) (hts (.fieldLink RX4 15 "PinDeck$Sheet" "start" "[I") (by decide +kernel)) (fun _ h9 => h9) rfl dX4_copyFrom_40 ?_
        refine lv_iload_n hx hb dX4_copyFrom_43 rfl (lv_at hl 2 rfl) ?_
        obtain ⟨hz, hq⟩ := kite_n hq
        refine k_iald (j := (x2.toNatClampNeg)) hx hb hK.1 hP 5 0 rfl rfl hz rfl dX4_copyFrom_44 ?_
        obtain ⟨hz, hq⟩ := kite_n hq
        refine k_iast (j := (x2.toNatClampNeg)) hx hb hK.1 hP hD hS 2 0 rfl rfl hz rfl dX4_copyFrom_45 (fun H locs hP hD hS => ?_)
        have hP : va_P D vwCl [(aS, .inr (3, [.ref aTk, .ref aSr, .int rolls, .int frm])), (aTk, .inl (cI 0, 21, .inl tk)), (aSr, .inl (cI 0, 11, .inl (upd sr (x2.toNatClampNeg) (zsr (x2.toNatClampNeg))))), (azS, .inr (3, [.ref azTk, .ref azSr, .int zrolls, .int zfrm])), (azTk, .inl (cI 0, 21, .inl ztk)), (azSr, .inl (cI 0, 11, .inl zsr))] H := hP
        have hD : va_D A [(aS, .inr (3, [.ref aTk, .ref aSr, .int rolls, .int frm])), (aTk, .inl (cI 0, 21, .inl tk)), (aSr, .inl (cI 0, 11, .inl (upd sr (x2.toNatClampNeg) (zsr (x2.toNatClampNeg))))), (azS, .inr (3, [.ref azTk, .ref azSr, .int zrolls, .int zfrm])), (azTk, .inl (cI 0, 21, .inl ztk)), (azSr, .inl (cI 0, 11, .inl zsr))] := hD
        refine lv_iinc (v := (x2 + 1)) (lv' := [(2, .int (x2 + 1)), (0, .ref aS), (1, .ref azS)]) hx hb dX4_copyFrom_46 hl (k := 2) rfl rfl (by decide) rfl (fun ls hl => ?_)
        refine lv_goto (tgt := 28) hx hb dX4_copyFrom_49 (by decide) ?_
        exact ih _ _ _ rolls frm tk (upd sr (x2.toNatClampNeg) (zsr (x2.toNatClampNeg))) (x2 + 1) hq hP hD hS (lv_sub hl [1, 2, 0] rfl)
  have b_2 : ∀ (q : Nat), ∀ (H : Heap) (locs : List Loc) (ls : Array Slot) (rolls : Int32) (frm : Int32) (tk : kF) (sr : kF) (x2 : Int32), fn_X4_copyFrom_2 q rolls frm tk sr zrolls zfrm ztk zsr x2 = some o → va_P D vwCl [(aS, .inr (3, [.ref aTk, .ref aSr, .int rolls, .int frm])), (aTk, .inl (cI 0, 21, .inl tk)), (aSr, .inl (cI 0, 11, .inl sr)), (azS, .inr (3, [.ref azTk, .ref azSr, .int zrolls, .int zfrm])), (azTk, .inl (cI 0, 21, .inl ztk)), (azSr, .inl (cI 0, 11, .inl zsr))] H → va_D A [(aS, .inr (3, [.ref aTk, .ref aSr, .int rolls, .int frm])), (aTk, .inl (cI 0, 21, .inl tk)), (aSr, .inl (cI 0, 11, .inl sr)), (azS, .inr (3, [.ref azTk, .ref azSr, .int zrolls, .int zfrm])), (azTk, .inl (cI 0, 21, .inl ztk)), (azSr, .inl (cI 0, 11, .inl zsr))] → va_S A s.heap H locs → lv_has ls 3 [(0, .ref aS), (1, .ref azS), (2, .int x2)] → W p l e { frames := 0, cells := 0, slots := 0, locals := 0 } s m args below meth c H locs 0 0 Q (F0 m 2 ls []) := by
    intro q
    induction q with
    | zero =>
      intro H locs ls rolls frm tk sr x2
      intro hq
      cases hq
    | succ q ih =>
      intro H locs ls rolls frm tk sr x2
      intro hq hP hD hS hl
      refine lv_iload_n hx hb dX4_copyFrom_2 rfl (lv_at hl 2 rfl) ?_
      refine lv_bipush (v := 21) hx hb dX4_copyFrom_3 (by decide) ?_
      refine lv_icmp_ge (tgt := 26) hx hb dX4_copyFrom_5 (by decide) (fun c9 => ?_) (fun c9 => ?_)
      · have hq := kite_t c9 hq
        refine lv_iconst (v := 0) hx hb dX4_copyFrom_26 (by decide) ?_
        refine lv_istore_n (lv' := [(2, .int (0 : Int32)), (0, .ref aS), (1, .ref azS)]) hx hb dX4_copyFrom_27 rfl hl (by decide) rfl (fun ls hl => ?_)
        exact b_28 4096 _ _ _ rolls frm tk sr (0 : Int32) hq hP hD hS (lv_sub hl [1, 2, 0] rfl)
      · have hq := kite_f c9 hq
        refine lv_aload_n hx hb dX4_copyFrom_8 rfl (lv_at hl 0 rfl) ?_
        refine va_get (D := D) (ci := 3) (v := .ref aTk) (C := RX4) (T := TX4) (N := 4) hx hb hts iw_X4_copyFrom_X4 hown hK.1 hP 0 rfl rfl 0 (by decide) (hts (.fieldLink RX4 9 "PinDeck$Sheet" "taken" "[I") (by decide +kernel)) (fun _ h9 => h9) rfl dX4_copyFrom_9 ?_
        refine lv_iload_n hx hb dX4_copyFrom_12 rfl (lv_at hl 2 rfl) ?_
        refine lv_aload_n hx hb dX4_copyFrom_13 rfl (lv_at hl 1 rfl) ?_
        refine va_get (D := D) (ci := 3) (v := .ref azTk) (C := RX4) (T := TX4) (N := 4) hx hb hts iw_X4_copyFrom_X4 hown hK.1 hP 3 rfl rfl 0 (by decide) (hts (.fieldLink RX4 9 "PinDeck$Sheet" "taken" "[I") (by decide +kernel)) (fun _ h9 => h9) rfl dX4_copyFrom_14 ?_
        refine lv_iload_n hx hb dX4_copyFrom_17 rfl (lv_at hl 2 rfl) ?_
        obtain ⟨hz, hq⟩ := kite_n hq
        refine k_iald (j := (x2.toNatClampNeg)) hx hb hK.1 hP 4 0 rfl rfl hz rfl dX4_copyFrom_18 ?_
        obtain ⟨hz, hq⟩ := kite_n hq
        refine k_iast (j := (x2.toNatClampNeg)) hx hb hK.1 hP hD hS 1 0 rfl rfl hz rfl dX4_copyFrom_19 (fun H locs hP hD hS => ?_)
        have hP : va_P D vwCl [(aS, .inr (3, [.ref aTk, .ref aSr, .int rolls, .int frm])), (aTk, .inl (cI 0, 21, .inl (upd tk (x2.toNatClampNeg) (ztk (x2.toNatClampNeg))))), (aSr, .inl (cI 0, 11, .inl sr)), (azS, .inr (3, [.ref azTk, .ref azSr, .int zrolls, .int zfrm])), (azTk, .inl (cI 0, 21, .inl ztk)), (azSr, .inl (cI 0, 11, .inl zsr))] H := hP
        have hD : va_D A [(aS, .inr (3, [.ref aTk, .ref aSr, .int rolls, .int frm])), (aTk, .inl (cI 0, 21, .inl (upd tk (x2.toNatClampNeg) (ztk (x2.toNatClampNeg))))), (aSr, .inl (cI 0, 11, .inl sr)), (azS, .inr (3, [.ref azTk, .ref azSr, .int zrolls, .int zfrm])), (azTk, .inl (cI 0, 21, .inl ztk)), (azSr, .inl (cI 0, 11, .inl zsr))] := hD
        refine lv_iinc (v := (x2 + 1)) (lv' := [(2, .int (x2 + 1)), (0, .ref aS), (1, .ref azS)]) hx hb dX4_copyFrom_20 hl (k := 2) rfl rfl (by decide) rfl (fun ls hl => ?_)
        refine lv_goto (tgt := 2) hx hb dX4_copyFrom_23 (by decide) ?_
        exact ih _ _ _ rolls frm (upd tk (x2.toNatClampNeg) (ztk (x2.toNatClampNeg))) sr (x2 + 1) hq hP hD hS (lv_sub hl [1, 2, 0] rfl)
  refine lv_iconst (v := 0) hx hb dX4_copyFrom_0 (by decide) ?_
  refine lv_istore_n (lv' := [(2, .int (0 : Int32)), (0, .ref aS), (1, .ref azS)]) hx hb dX4_copyFrom_1 rfl hl (by decide) rfl (fun ls hl => ?_)
  exact b_2 4096 _ _ _ rolls frm tk sr (0 : Int32) hq hP hD hS (lv_sub hl [1, 2, 0] rfl)

theorem iw_X4_rolls_X4 : ∀ w ∈ wsX40, w ∈ wsX4_rolls := by decide +kernel
set_option maxHeartbeats 4000000 in
set_option maxRecDepth 100000 in
theorem mk_X4_rolls (l : Launch) (D : va_G) (cI : Nat → ClassId) (aS aTk aSr : Nat) (sz : Nat) (rolls : Int32) (frm : Int32) (o : Int32) (hq : fn_X4_rolls rolls = some o) : Met l yX4_rolls wsX4_rolls ({ frames := 0, cells := 0, slots := 0, locals := 0 }) (kPc D cI [(aS, .inr (3, [.ref aTk, .ref aSr, .int rolls, .int frm]))] sz [.ref aS]) (kQi D [(aS, .inr (3, [.ref aTk, .ref aSr, .int rolls, .int frm]))] [(aS, .inr (3, [.ref aTk, .ref aSr, .int rolls, .int frm]))] sz o) 0 0 (va_A [(aS, .inr (3, [.ref aTk, .ref aSr, .int rolls, .int frm]))] sz) := by
  refine kM_i (cc := cX4_rolls) (maxL := 1) (by decide +kernel) rfl (Nat.le_of_ble_eq_true rfl) ?_
  intro p e s m args below meth c A Q hF hK hG hD hA hend ls hP hS hl
  obtain ⟨hx, hb, hml, hown, hts⟩ := id hF
  have hl : lv_has ls 1 [(0, .ref aS)] := hl
  refine lv_aload_n hx hb dX4_rolls_0 rfl (lv_at hl 0 rfl) ?_
  refine va_get (D := D) (ci := 3) (v := .int rolls) (C := RX4) (T := TX4) (N := 4) hx hb hts iw_X4_rolls_X4 hown hK.1 hP 0 rfl rfl 2 (by decide) (hts (.fieldLink RX4 18 "PinDeck$Sheet" "rolls" "I") (by decide +kernel)) (fun _ h9 => h9) rfl dX4_rolls_1 ?_
  have ho := Option.some.inj hq
  subst ho
  exact hend _ _ _ _ hP hS dX4_rolls_4

theorem iw_X4_frameNow_X4 : ∀ w ∈ wsX40, w ∈ wsX4_frameNow := by decide +kernel
set_option maxHeartbeats 4000000 in
set_option maxRecDepth 100000 in
theorem mk_X4_frameNow (l : Launch) (D : va_G) (cI : Nat → ClassId) (aS aTk aSr : Nat) (sz : Nat) (rolls : Int32) (frm : Int32) (o : Int32) (hq : fn_X4_frameNow frm = some o) : Met l yX4_frameNow wsX4_frameNow ({ frames := 0, cells := 0, slots := 0, locals := 0 }) (kPc D cI [(aS, .inr (3, [.ref aTk, .ref aSr, .int rolls, .int frm]))] sz [.ref aS]) (kQi D [(aS, .inr (3, [.ref aTk, .ref aSr, .int rolls, .int frm]))] [(aS, .inr (3, [.ref aTk, .ref aSr, .int rolls, .int frm]))] sz o) 0 0 (va_A [(aS, .inr (3, [.ref aTk, .ref aSr, .int rolls, .int frm]))] sz) := by
  refine kM_i (cc := cX4_frameNow) (maxL := 1) (by decide +kernel) rfl (Nat.le_of_ble_eq_true rfl) ?_
  intro p e s m args below meth c A Q hF hK hG hD hA hend ls hP hS hl
  obtain ⟨hx, hb, hml, hown, hts⟩ := id hF
  have hl : lv_has ls 1 [(0, .ref aS)] := hl
  refine lv_aload_n hx hb dX4_frameNow_0 rfl (lv_at hl 0 rfl) ?_
  refine va_get (D := D) (ci := 3) (v := .int frm) (C := RX4) (T := TX4) (N := 4) hx hb hts iw_X4_frameNow_X4 hown hK.1 hP 0 rfl rfl 3 (by decide) (hts (.fieldLink RX4 22 "PinDeck$Sheet" "frame" "I") (by decide +kernel)) (fun _ h9 => h9) rfl dX4_frameNow_1 ?_
  have ho := Option.some.inj hq
  subst ho
  exact hend _ _ _ _ hP hS dX4_frameNow_4

theorem iw_X4_isOver_X4 : ∀ w ∈ wsX40, w ∈ wsX4_isOver := by decide +kernel
set_option maxHeartbeats 4000000 in
set_option maxRecDepth 100000 in
theorem mk_X4_isOver (l : Launch) (D : va_G) (cI : Nat → ClassId) (aS aTk aSr : Nat) (sz : Nat) (rolls : Int32) (frm : Int32) (o : Int32) (hq : fn_X4_isOver frm = some o) : Met l yX4_isOver wsX4_isOver ({ frames := 0, cells := 0, slots := 0, locals := 0 }) (kPc D cI [(aS, .inr (3, [.ref aTk, .ref aSr, .int rolls, .int frm]))] sz [.ref aS]) (kQi D [(aS, .inr (3, [.ref aTk, .ref aSr, .int rolls, .int frm]))] [(aS, .inr (3, [.ref aTk, .ref aSr, .int rolls, .int frm]))] sz o) 0 0 (va_A [(aS, .inr (3, [.ref aTk, .ref aSr, .int rolls, .int frm]))] sz) := by
  refine kM_z (cc := cX4_isOver) (maxL := 1) (by decide +kernel) rfl (Nat.le_of_ble_eq_true rfl) ?_
  intro p e s m args below meth c A Q hF hK hG hD hA hend ls hP hS hl
  obtain ⟨hx, hb, hml, hown, hts⟩ := id hF
  have hl : lv_has ls 1 [(0, .ref aS)] := hl
  have b_14 : ∀ (H : Heap) (locs : List Loc) (ls : Array Slot) (k0 : Int32), fn_X4_isOver_14 frm k0 = some o → va_P D vwCl [(aS, .inr (3, [.ref aTk, .ref aSr, .int rolls, .int frm]))] H → va_S A s.heap H locs → lv_has ls 1 [] → W p l e { frames := 0, cells := 0, slots := 0, locals := 0 } s m args below meth c H locs 0 0 Q (F0 m 14 ls [.int k0]) := by
    intro H locs ls k0
    intro hq hP hS hl
    obtain ⟨hz, hq⟩ := kite_b hq
    have ho := Option.some.inj hq
    subst ho
    exact hend _ _ _ _ hz hP hS dX4_isOver_14
  refine lv_aload_n hx hb dX4_isOver_0 rfl (lv_at hl 0 rfl) ?_
  refine va_get (D := D) (ci := 3) (v := .int frm) (C := RX4) (T := TX4) (N := 4) hx hb hts iw_X4_isOver_X4 hown hK.1 hP 0 rfl rfl 3 (by decide) (hts (.fieldLink RX4 22 "PinDeck$Sheet" "frame" "I") (by decide +kernel)) (fun _ h9 => h9) rfl dX4_isOver_1 ?_
  refine lv_bipush (v := 10) hx hb dX4_isOver_4 (by decide) ?_
  refine lv_icmp_lt (tgt := 13) hx hb dX4_isOver_6 (by decide) (fun c9 => ?_) (fun c9 => ?_)
  · have hq := kite_t c9 hq
    refine lv_iconst (v := 0) hx hb dX4_isOver_13 (by decide) ?_
    exact b_14  _ _ _ (0 : Int32) hq hP hS (lv_sub hl [] rfl)
  · have hq := kite_f c9 hq
    refine lv_iconst (v := 1) hx hb dX4_isOver_9 (by decide) ?_
    refine lv_goto (tgt := 14) hx hb dX4_isOver_10 (by decide) ?_
    exact b_14  _ _ _ (1 : Int32) hq hP hS (lv_sub hl [] rfl)

theorem iw_X4_takenBy_X4 : ∀ w ∈ wsX40, w ∈ wsX4_takenBy := by decide +kernel
set_option maxHeartbeats 4000000 in
set_option maxRecDepth 100000 in
theorem mk_X4_takenBy (l : Launch) (D : va_G) (cI : Nat → ClassId) (aS aTk aSr : Nat) (sz : Nat) (rolls : Int32) (frm : Int32) (tk : kF) (x1 : Int32) (o : Int32) (hq : fn_X4_takenBy rolls tk x1 = some o) : Met l yX4_takenBy wsX4_takenBy ({ frames := 0, cells := 0, slots := 0, locals := 0 }) (kPc D cI [(aS, .inr (3, [.ref aTk, .ref aSr, .int rolls, .int frm])), (aTk, .inl (cI 0, 21, .inl tk))] sz [.ref aS, .int x1]) (kQi D [(aS, .inr (3, [.ref aTk, .ref aSr, .int rolls, .int frm])), (aTk, .inl (cI 0, 21, .inl tk))] [(aS, .inr (3, [.ref aTk, .ref aSr, .int rolls, .int frm])), (aTk, .inl (cI 0, 21, .inl tk))] sz o) 0 0 (va_A [(aS, .inr (3, [.ref aTk, .ref aSr, .int rolls, .int frm])), (aTk, .inl (cI 0, 21, .inl tk))] sz) := by
  refine kM_i (cc := cX4_takenBy) (maxL := 2) (by decide +kernel) rfl (Nat.le_of_ble_eq_true rfl) ?_
  intro p e s m args below meth c A Q hF hK hG hD hA hend ls hP hS hl
  obtain ⟨hx, hb, hml, hown, hts⟩ := id hF
  have hl : lv_has ls 2 [(0, .ref aS), (1, .int x1)] := hl
  have b_28 : ∀ (H : Heap) (locs : List Loc) (ls : Array Slot) (k0 : Int32), fn_X4_takenBy_28 rolls tk k0 = some o → va_P D vwCl [(aS, .inr (3, [.ref aTk, .ref aSr, .int rolls, .int frm])), (aTk, .inl (cI 0, 21, .inl tk))] H → va_S A s.heap H locs → lv_has ls 2 [] → W p l e { frames := 0, cells := 0, slots := 0, locals := 0 } s m args below meth c H locs 0 0 Q (F0 m 28 ls [.int k0]) := by
    intro H locs ls k0
    intro hq hP hS hl
    have ho := Option.some.inj hq
    subst ho
    exact hend _ _ _ _ hP hS dX4_takenBy_28
  have b_27 : ∀ (H : Heap) (locs : List Loc) (ls : Array Slot), fn_X4_takenBy_27 rolls tk = some o → va_P D vwCl [(aS, .inr (3, [.ref aTk, .ref aSr, .int rolls, .int frm])), (aTk, .inl (cI 0, 21, .inl tk))] H → va_S A s.heap H locs → lv_has ls 2 [] → W p l e { frames := 0, cells := 0, slots := 0, locals := 0 } s m args below meth c H locs 0 0 Q (F0 m 27 ls []) := by
    intro H locs ls 
    intro hq hP hS hl
    refine lv_iconst (v := 0) hx hb dX4_takenBy_27 (by decide) ?_
    exact b_28  _ _ _ (0 : Int32) hq hP hS (lv_sub hl [] rfl)
  refine lv_iload_n hx hb dX4_takenBy_0 rfl (lv_at hl 1 rfl) ?_
  refine lv_if_lt (tgt := 27) hx hb dX4_takenBy_1 (by decide) (fun c9 => ?_) (fun c9 => ?_)
  · have hq := kite_t c9 hq
    exact b_27  _ _ _  hq hP hS (lv_sub hl [] rfl)
  · have hq := kite_f c9 hq
    refine lv_iload_n hx hb dX4_takenBy_4 rfl (lv_at hl 1 rfl) ?_
    refine lv_aload_n hx hb dX4_takenBy_5 rfl (lv_at hl 0 rfl) ?_
    refine va_get (D := D) (ci := 3) (v := .int rolls) (C := RX4) (T := TX4) (N := 4) hx hb hts iw_X4_takenBy_X4 hown hK.1 hP 0 rfl rfl 2 (by decide) (hts (.fieldLink RX4 18 "PinDeck$Sheet" "rolls" "I") (by decide +kernel)) (fun _ h9 => h9) rfl dX4_takenBy_6 ?_
    refine lv_icmp_ge (tgt := 27) hx hb dX4_takenBy_9 (by decide) (fun c9 => ?_) (fun c9 => ?_)
    · have hq := kite_t c9 hq
      exact b_27  _ _ _  hq hP hS (lv_sub hl [] rfl)
    · have hq := kite_f c9 hq
      refine lv_iload_n hx hb dX4_takenBy_12 rfl (lv_at hl 1 rfl) ?_
      refine lv_bipush (v := 21) hx hb dX4_takenBy_13 (by decide) ?_
      refine lv_icmp_ge (tgt := 27) hx hb dX4_takenBy_15 (by decide) (fun c9 => ?_) (fun c9 => ?_)
      · have hq := kite_t c9 hq
        exact b_27  _ _ _  hq hP hS (lv_sub hl [] rfl)
      · have hq := kite_f c9 hq
        refine lv_aload_n hx hb dX4_takenBy_18 rfl (lv_at hl 0 rfl) ?_
        refine va_get (D := D) (ci := 3) (v := .ref aTk) (C := RX4) (T := TX4) (N := 4) hx hb hts iw_X4_takenBy_X4 hown hK.1 hP 0 rfl rfl 0 (by decide) (hts (.fieldLink RX4 9 "PinDeck$Sheet" "taken" "[I") (by decide +kernel)) (fun _ h9 => h9) rfl dX4_takenBy_19 ?_
        refine lv_iload_n hx hb dX4_takenBy_22 rfl (lv_at hl 1 rfl) ?_
        obtain ⟨hz, hq⟩ := kite_n hq
        refine k_iald (j := (x1.toNatClampNeg)) hx hb hK.1 hP 1 0 rfl rfl hz rfl dX4_takenBy_23 ?_
        refine lv_goto (tgt := 28) hx hb dX4_takenBy_24 (by decide) ?_
        exact b_28  _ _ _ (tk (x1.toNatClampNeg)) hq hP hS (lv_sub hl [] rfl)

theorem iw_X4_startOf_X4 : ∀ w ∈ wsX40, w ∈ wsX4_startOf := by decide +kernel
set_option maxHeartbeats 4000000 in
set_option maxRecDepth 100000 in
theorem mk_X4_startOf (l : Launch) (D : va_G) (cI : Nat → ClassId) (aS aTk aSr : Nat) (sz : Nat) (rolls : Int32) (frm : Int32) (sr : kF) (x1 : Int32) (o : Int32) (hq : fn_X4_startOf rolls frm sr x1 = some o) : Met l yX4_startOf wsX4_startOf ({ frames := 0, cells := 0, slots := 0, locals := 0 }) (kPc D cI [(aS, .inr (3, [.ref aTk, .ref aSr, .int rolls, .int frm])), (aSr, .inl (cI 0, 11, .inl sr))] sz [.ref aS, .int x1]) (kQi D [(aS, .inr (3, [.ref aTk, .ref aSr, .int rolls, .int frm])), (aSr, .inl (cI 0, 11, .inl sr))] [(aS, .inr (3, [.ref aTk, .ref aSr, .int rolls, .int frm])), (aSr, .inl (cI 0, 11, .inl sr))] sz o) 0 0 (va_A [(aS, .inr (3, [.ref aTk, .ref aSr, .int rolls, .int frm])), (aSr, .inl (cI 0, 11, .inl sr))] sz) := by
  refine kM_i (cc := cX4_startOf) (maxL := 2) (by decide +kernel) rfl (Nat.le_of_ble_eq_true rfl) ?_
  intro p e s m args below meth c A Q hF hK hG hD hA hend ls hP hS hl
  obtain ⟨hx, hb, hml, hown, hts⟩ := id hF
  have hl : lv_has ls 2 [(0, .ref aS), (1, .int x1)] := hl
  have b_31 : ∀ (H : Heap) (locs : List Loc) (ls : Array Slot) (k0 : Int32), fn_X4_startOf_31 rolls frm sr k0 = some o → va_P D vwCl [(aS, .inr (3, [.ref aTk, .ref aSr, .int rolls, .int frm])), (aSr, .inl (cI 0, 11, .inl sr))] H → va_S A s.heap H locs → lv_has ls 2 [] → W p l e { frames := 0, cells := 0, slots := 0, locals := 0 } s m args below meth c H locs 0 0 Q (F0 m 31 ls [.int k0]) := by
    intro H locs ls k0
    intro hq hP hS hl
    have ho := Option.some.inj hq
    subst ho
    exact hend _ _ _ _ hP hS dX4_startOf_31
  have b_27 : ∀ (H : Heap) (locs : List Loc) (ls : Array Slot), fn_X4_startOf_27 rolls frm sr = some o → va_P D vwCl [(aS, .inr (3, [.ref aTk, .ref aSr, .int rolls, .int frm])), (aSr, .inl (cI 0, 11, .inl sr))] H → va_S A s.heap H locs → lv_has ls 2 [(0, .ref aS)] → W p l e { frames := 0, cells := 0, slots := 0, locals := 0 } s m args below meth c H locs 0 0 Q (F0 m 27 ls []) := by
    intro H locs ls 
    intro hq hP hS hl
    refine lv_aload_n hx hb dX4_startOf_27 rfl (lv_at hl 0 rfl) ?_
    refine va_get (D := D) (ci := 3) (v := .int rolls) (C := RX4) (T := TX4) (N := 4) hx hb hts iw_X4_startOf_X4 hown hK.1 hP 0 rfl rfl 2 (by decide) (hts (.fieldLink RX4 18 "PinDeck$Sheet" "rolls" "I") (by decide +kernel)) (fun _ h9 => h9) rfl dX4_startOf_28 ?_
    exact b_31  _ _ _ rolls hq hP hS (lv_sub hl [] rfl)
  refine lv_iload_n hx hb dX4_startOf_0 rfl (lv_at hl 1 rfl) ?_
  refine lv_if_lt (tgt := 27) hx hb dX4_startOf_1 (by decide) (fun c9 => ?_) (fun c9 => ?_)
  · have hq := kite_t c9 hq
    exact b_27  _ _ _  hq hP hS (lv_sub hl [0] rfl)
  · have hq := kite_f c9 hq
    refine lv_iload_n hx hb dX4_startOf_4 rfl (lv_at hl 1 rfl) ?_
    refine lv_bipush (v := 10) hx hb dX4_startOf_5 (by decide) ?_
    refine lv_icmp_gt (tgt := 27) hx hb dX4_startOf_7 (by decide) (fun c9 => ?_) (fun c9 => ?_)
    · have hq := kite_t c9 hq
      exact b_27  _ _ _  hq hP hS (lv_sub hl [0] rfl)
    · have hq := kite_f c9 hq
      refine lv_iload_n hx hb dX4_startOf_10 rfl (lv_at hl 1 rfl) ?_
      refine lv_aload_n hx hb dX4_startOf_11 rfl (lv_at hl 0 rfl) ?_
      refine va_get (D := D) (ci := 3) (v := .int frm) (C := RX4) (T := TX4) (N := 4) hx hb hts iw_X4_startOf_X4 hown hK.1 hP 0 rfl rfl 3 (by decide) (hts (.fieldLink RX4 22 "PinDeck$Sheet" "frame" "I") (by decide +kernel)) (fun _ h9 => h9) rfl dX4_startOf_12 ?_
      refine lv_icmp_gt (tgt := 27) hx hb dX4_startOf_15 (by decide) (fun c9 => ?_) (fun c9 => ?_)
      · have hq := kite_t c9 hq
        exact b_27  _ _ _  hq hP hS (lv_sub hl [0] rfl)
      · have hq := kite_f c9 hq
        refine lv_aload_n hx hb dX4_startOf_18 rfl (lv_at hl 0 rfl) ?_
        refine va_get (D := D) (ci := 3) (v := .ref aSr) (C := RX4) (T := TX4) (N := 4) hx hb hts iw_X4_startOf_X4 hown hK.1 hP 0 rfl rfl 1 (by decide) (hts (.fieldLink RX4 15 "PinDeck$Sheet" "start" "[I") (by decide +kernel)) (fun _ h9 => h9) rfl dX4_startOf_19 ?_
        refine lv_iload_n hx hb dX4_startOf_22 rfl (lv_at hl 1 rfl) ?_
        obtain ⟨hz, hq⟩ := kite_n hq
        refine k_iald (j := (x1.toNatClampNeg)) hx hb hK.1 hP 1 0 rfl rfl hz rfl dX4_startOf_23 ?_
        refine lv_goto (tgt := 31) hx hb dX4_startOf_24 (by decide) ?_
        exact b_31  _ _ _ (sr (x1.toNatClampNeg)) hq hP hS (lv_sub hl [] rfl)

set_option maxHeartbeats 4000000 in
set_option maxRecDepth 100000 in
theorem mk_X4_rollsIn (l : Launch) (D : va_G) (cI : Nat → ClassId) (aS aTk aSr : Nat) (sz : Nat) (rolls : Int32) (frm : Int32) (sr : kF) (x1 : Int32) (o : Int32) (hq : fn_X4_rollsIn rolls frm sr x1 = some o) : Met l yX4_rollsIn wsX4_rollsIn ({ frames := 1, cells := 0, slots := 0, locals := 21 }) (kPc D cI [(aS, .inr (3, [.ref aTk, .ref aSr, .int rolls, .int frm])), (aSr, .inl (cI 0, 11, .inl sr))] sz [.ref aS, .int x1]) (kQi D [(aS, .inr (3, [.ref aTk, .ref aSr, .int rolls, .int frm])), (aSr, .inl (cI 0, 11, .inl sr))] [(aS, .inr (3, [.ref aTk, .ref aSr, .int rolls, .int frm])), (aSr, .inl (cI 0, 11, .inl sr))] sz o) 0 0 (va_A [(aS, .inr (3, [.ref aTk, .ref aSr, .int rolls, .int frm])), (aSr, .inl (cI 0, 11, .inl sr))] sz) := by
  refine kM_i (cc := cX4_rollsIn) (maxL := 2) (by decide +kernel) rfl (Nat.le_of_ble_eq_true rfl) ?_
  intro p e s m args below meth c A Q hF hK hG hD hA hend ls hP hS hl
  obtain ⟨hx, hb, hml, hown, hts⟩ := id hF
  have hl : lv_has ls 2 [(0, .ref aS), (1, .int x1)] := hl
  refine lv_aload_n hx hb dX4_rollsIn_0 rfl (lv_at hl 0 rfl) ?_
  refine lv_iload_n hx hb dX4_rollsIn_1 rfl (lv_at hl 1 rfl) ?_
  refine lv_iconst (v := 1) hx hb dX4_rollsIn_2 (by decide) ?_
  refine lv_iadd hx hb dX4_rollsIn_3 ?_
  obtain ⟨o4, ho4, hq⟩ := kbind hq
  refine kc_Vi (av := [.int (x1 + (1 : Int32))]) (rest := []) hF hK hG hA (mk_X4_startOf l D cI aS aTk aSr s.heap.size rolls frm sr (x1 + (1 : Int32)) o4 ho4) (cwV 1 hts gX4_rollsIn_X4_startOf rfl rfl rfl (by decide +kernel) ⟨Nat.le_of_ble_eq_true rfl, Nat.le_of_ble_eq_true rfl⟩) hP hD hS [0, 1] (by decide) rfl rfl 0 rfl rfl rfl hl.1 rfl (Nat.le_of_ble_eq_true rfl) ⟨Nat.zero_le _, Nat.zero_le _⟩ dX4_rollsIn_4 (fun H locs hP hD hS => ?_)
  have hP : va_P D vwCl [(aS, .inr (3, [.ref aTk, .ref aSr, .int rolls, .int frm])), (aSr, .inl (cI 0, 11, .inl sr))] H := hP
  have hD : va_D A [(aS, .inr (3, [.ref aTk, .ref aSr, .int rolls, .int frm])), (aSr, .inl (cI 0, 11, .inl sr))] := hD
  refine lv_aload_n hx hb dX4_rollsIn_7 rfl (lv_at hl 0 rfl) ?_
  refine lv_iload_n hx hb dX4_rollsIn_8 rfl (lv_at hl 1 rfl) ?_
  obtain ⟨o9, ho9, hq⟩ := kbind hq
  refine kc_Vi (av := [.int x1]) (rest := [.int o4]) hF hK hG hA (mk_X4_startOf l D cI aS aTk aSr H.size rolls frm sr x1 o9 ho9) (cwV 1 hts gX4_rollsIn_X4_startOf rfl rfl rfl (by decide +kernel) ⟨Nat.le_of_ble_eq_true rfl, Nat.le_of_ble_eq_true rfl⟩) hP hD hS [0, 1] (by decide) rfl rfl 0 rfl rfl rfl hl.1 rfl (Nat.le_of_ble_eq_true rfl) ⟨Nat.zero_le _, Nat.zero_le _⟩ dX4_rollsIn_9 (fun H locs hP hD hS => ?_)
  have hP : va_P D vwCl [(aS, .inr (3, [.ref aTk, .ref aSr, .int rolls, .int frm])), (aSr, .inl (cI 0, 11, .inl sr))] H := hP
  have hD : va_D A [(aS, .inr (3, [.ref aTk, .ref aSr, .int rolls, .int frm])), (aSr, .inl (cI 0, 11, .inl sr))] := hD
  refine lv_isub hx hb dX4_rollsIn_12 ?_
  have ho := Option.some.inj hq
  subst ho
  exact hend _ _ _ _ hP hS dX4_rollsIn_13

set_option maxHeartbeats 4000000 in
set_option maxRecDepth 100000 in
theorem mk_X4_markOf (l : Launch) (D : va_G) (cI : Nat → ClassId) (aS aTk aSr : Nat) (sz : Nat) (rolls : Int32) (frm : Int32) (tk : kF) (sr : kF) (x1 : Int32) (o : Int32) (hq : fn_X4_markOf rolls frm tk sr x1 = some o) : Met l yX4_markOf wsX4_markOf ({ frames := 1, cells := 0, slots := 0, locals := 21 }) (kPc D cI [(aS, .inr (3, [.ref aTk, .ref aSr, .int rolls, .int frm])), (aTk, .inl (cI 0, 21, .inl tk)), (aSr, .inl (cI 0, 11, .inl sr))] sz [.ref aS, .int x1]) (kQi D [(aS, .inr (3, [.ref aTk, .ref aSr, .int rolls, .int frm])), (aTk, .inl (cI 0, 21, .inl tk)), (aSr, .inl (cI 0, 11, .inl sr))] [(aS, .inr (3, [.ref aTk, .ref aSr, .int rolls, .int frm])), (aTk, .inl (cI 0, 21, .inl tk)), (aSr, .inl (cI 0, 11, .inl sr))] sz o) 0 0 (va_A [(aS, .inr (3, [.ref aTk, .ref aSr, .int rolls, .int frm])), (aTk, .inl (cI 0, 21, .inl tk)), (aSr, .inl (cI 0, 11, .inl sr))] sz) := by
  refine kM_i (cc := cX4_markOf) (maxL := 3) (by decide +kernel) rfl (Nat.le_of_ble_eq_true rfl) ?_
  intro p e s m args below meth c A Q hF hK hG hD hA hend ls hP hS hl
  obtain ⟨hx, hb, hml, hown, hts⟩ := id hF
  have hl : lv_has ls 3 [(0, .ref aS), (1, .int x1)] := hl
  have b_41 : ∀ (H : Heap) (locs : List Loc) (ls : Array Slot) (k0 : Int32), fn_X4_markOf_41 rolls frm tk sr k0 = some o → va_P D vwCl [(aS, .inr (3, [.ref aTk, .ref aSr, .int rolls, .int frm])), (aTk, .inl (cI 0, 21, .inl tk)), (aSr, .inl (cI 0, 11, .inl sr))] H → va_S A s.heap H locs → lv_has ls 3 [] → W p l e { frames := 1, cells := 0, slots := 0, locals := 21 } s m args below meth c H locs 0 0 Q (F0 m 41 ls [.int k0]) := by
    intro H locs ls k0
    intro hq hP hS hl
    have ho := Option.some.inj hq
    subst ho
    exact hend _ _ _ _ hP hS dX4_markOf_41
  refine lv_aload_n hx hb dX4_markOf_0 rfl (lv_at hl 0 rfl) ?_
  refine lv_iload_n hx hb dX4_markOf_1 rfl (lv_at hl 1 rfl) ?_
  obtain ⟨o2, ho2, hq⟩ := kbind hq
  refine kc_Vi (av := [.int x1]) (rest := []) hF hK hG hA (mk_X4_startOf l D cI aS aTk aSr s.heap.size rolls frm sr x1 o2 ho2) (cwV 1 hts gX4_markOf_X4_startOf rfl rfl rfl (by decide +kernel) ⟨Nat.le_of_ble_eq_true rfl, Nat.le_of_ble_eq_true rfl⟩) hP hD hS [0, 2] (by decide) rfl rfl 0 rfl rfl rfl hl.1 rfl (Nat.le_of_ble_eq_true rfl) ⟨Nat.zero_le _, Nat.zero_le _⟩ dX4_markOf_2 (fun H locs hP hD hS => ?_)
  have hP : va_P D vwCl [(aS, .inr (3, [.ref aTk, .ref aSr, .int rolls, .int frm])), (aTk, .inl (cI 0, 21, .inl tk)), (aSr, .inl (cI 0, 11, .inl sr))] H := hP
  have hD : va_D A [(aS, .inr (3, [.ref aTk, .ref aSr, .int rolls, .int frm])), (aTk, .inl (cI 0, 21, .inl tk)), (aSr, .inl (cI 0, 11, .inl sr))] := hD
  refine lv_istore_n (lv' := [(2, .int o2), (0, .ref aS), (1, .int x1)]) hx hb dX4_markOf_5 rfl hl (by decide) rfl (fun ls hl => ?_)
  refine lv_aload_n hx hb dX4_markOf_6 rfl (lv_at hl 1 rfl) ?_
  refine lv_iload_n hx hb dX4_markOf_7 rfl (lv_at hl 0 rfl) ?_
  obtain ⟨o8, ho8, hq⟩ := kbind hq
  refine kc_Vi (av := [.int o2]) (rest := []) hF hK hG hA (mk_X4_takenBy l D cI aS aTk aSr H.size rolls frm tk o2 o8 ho8) (cwV 1 hts gX4_markOf_X4_takenBy rfl rfl rfl (by decide +kernel) ⟨Nat.le_of_ble_eq_true rfl, Nat.le_of_ble_eq_true rfl⟩) hP hD hS [0, 1] (by decide) rfl rfl 0 rfl rfl rfl hl.1 rfl (Nat.le_of_ble_eq_true rfl) ⟨Nat.zero_le _, Nat.zero_le _⟩ dX4_markOf_8 (fun H locs hP hD hS => ?_)
  have hP : va_P D vwCl [(aS, .inr (3, [.ref aTk, .ref aSr, .int rolls, .int frm])), (aTk, .inl (cI 0, 21, .inl tk)), (aSr, .inl (cI 0, 11, .inl sr))] H := hP
  have hD : va_D A [(aS, .inr (3, [.ref aTk, .ref aSr, .int rolls, .int frm])), (aTk, .inl (cI 0, 21, .inl tk)), (aSr, .inl (cI 0, 11, .inl sr))] := hD
  refine lv_bipush (v := 10) hx hb dX4_markOf_11 (by decide) ?_
  refine lv_icmp_ne (tgt := 18) hx hb dX4_markOf_13 (by decide) (fun c9 => ?_) (fun c9 => ?_)
  · have hq := kite_f c9 hq
    refine lv_aload_n hx hb dX4_markOf_18 rfl (lv_at hl 1 rfl) ?_
    refine lv_iload_n hx hb dX4_markOf_19 rfl (lv_at hl 0 rfl) ?_
    obtain ⟨o20, ho20, hq⟩ := kbind hq
    refine kc_Vi (av := [.int o2]) (rest := []) hF hK hG hA (mk_X4_takenBy l D cI aS aTk aSr H.size rolls frm tk o2 o20 ho20) (cwV 1 hts gX4_markOf_X4_takenBy rfl rfl rfl (by decide +kernel) ⟨Nat.le_of_ble_eq_true rfl, Nat.le_of_ble_eq_true rfl⟩) hP hD hS [0, 1] (by decide) rfl rfl 0 rfl rfl rfl hl.1 rfl (Nat.le_of_ble_eq_true rfl) ⟨Nat.zero_le _, Nat.zero_le _⟩ dX4_markOf_20 (fun H locs hP hD hS => ?_)
    have hP : va_P D vwCl [(aS, .inr (3, [.ref aTk, .ref aSr, .int rolls, .int frm])), (aTk, .inl (cI 0, 21, .inl tk)), (aSr, .inl (cI 0, 11, .inl sr))] H := hP
    have hD : va_D A [(aS, .inr (3, [.ref aTk, .ref aSr, .int rolls, .int frm])), (aTk, .inl (cI 0, 21, .inl tk)), (aSr, .inl (cI 0, 11, .inl sr))] := hD
    refine lv_aload_n hx hb dX4_markOf_23 rfl (lv_at hl 1 rfl) ?_
    refine lv_iload_n hx hb dX4_markOf_24 rfl (lv_at hl 0 rfl) ?_
    refine lv_iconst (v := 1) hx hb dX4_markOf_25 (by decide) ?_
    refine lv_iadd hx hb dX4_markOf_26 ?_
    obtain ⟨o27, ho27, hq⟩ := kbind hq
    refine kc_Vi (av := [.int (o2 + (1 : Int32))]) (rest := [.int o20]) hF hK hG hA (mk_X4_takenBy l D cI aS aTk aSr H.size rolls frm tk (o2 + (1 : Int32)) o27 ho27) (cwV 1 hts gX4_markOf_X4_takenBy rfl rfl rfl (by decide +kernel) ⟨Nat.le_of_ble_eq_true rfl, Nat.le_of_ble_eq_true rfl⟩) hP hD hS [0, 1] (by decide) rfl rfl 0 rfl rfl rfl hl.1 rfl (Nat.le_of_ble_eq_true rfl) ⟨Nat.zero_le _, Nat.zero_le _⟩ dX4_markOf_27 (fun H locs hP hD hS => ?_)
    have hP : va_P D vwCl [(aS, .inr (3, [.ref aTk, .ref aSr, .int rolls, .int frm])), (aTk, .inl (cI 0, 21, .inl tk)), (aSr, .inl (cI 0, 11, .inl sr))] H := hP
    have hD : va_D A [(aS, .inr (3, [.ref aTk, .ref aSr, .int rolls, .int frm])), (aTk, .inl (cI 0, 21, .inl tk)), (aSr, .inl (cI 0, 11, .inl sr))] := hD
    refine lv_iadd hx hb dX4_markOf_30 ?_
    refine lv_bipush (v := 10) hx hb dX4_markOf_31 (by decide) ?_
    refine lv_icmp_ne (tgt := 40) hx hb dX4_markOf_33 (by decide) (fun c9 => ?_) (fun c9 => ?_)
    · have hq := kite_f c9 hq
      refine lv_iconst (v := 0) hx hb dX4_markOf_40 (by decide) ?_
      exact b_41  _ _ _ (0 : Int32) hq hP hS (lv_sub hl [] rfl)
    · have hq := kite_t c9 hq
      refine lv_iconst (v := 2) hx hb dX4_markOf_36 (by decide) ?_
      refine lv_goto (tgt := 41) hx hb dX4_markOf_37 (by decide) ?_
      exact b_41  _ _ _ (2 : Int32) hq hP hS (lv_sub hl [] rfl)
  · have hq := kite_t c9 hq
    refine lv_iconst (v := 1) hx hb dX4_markOf_16 (by decide) ?_
    have ho := Option.some.inj hq
    subst ho
    exact hend _ _ _ _ hP hS dX4_markOf_17

set_option maxHeartbeats 4000000 in
set_option maxRecDepth 100000 in
theorem mk_X4_pointsOf (l : Launch) (D : va_G) (cI : Nat → ClassId) (aS aTk aSr : Nat) (sz : Nat) (rolls : Int32) (frm : Int32) (tk : kF) (sr : kF) (x1 : Int32) (o : Int32) (hq : fn_X4_pointsOf rolls frm tk sr x1 = some o) : Met l yX4_pointsOf wsX4_pointsOf ({ frames := 2, cells := 0, slots := 0, locals := 43 }) (kPc D cI [(aS, .inr (3, [.ref aTk, .ref aSr, .int rolls, .int frm])), (aTk, .inl (cI 0, 21, .inl tk)), (aSr, .inl (cI 0, 11, .inl sr))] sz [.ref aS, .int x1]) (kQi D [(aS, .inr (3, [.ref aTk, .ref aSr, .int rolls, .int frm])), (aTk, .inl (cI 0, 21, .inl tk)), (aSr, .inl (cI 0, 11, .inl sr))] [(aS, .inr (3, [.ref aTk, .ref aSr, .int rolls, .int frm])), (aTk, .inl (cI 0, 21, .inl tk)), (aSr, .inl (cI 0, 11, .inl sr))] sz o) 0 0 (va_A [(aS, .inr (3, [.ref aTk, .ref aSr, .int rolls, .int frm])), (aTk, .inl (cI 0, 21, .inl tk)), (aSr, .inl (cI 0, 11, .inl sr))] sz) := by
  refine kM_i (cc := cX4_pointsOf) (maxL := 4) (by decide +kernel) rfl (Nat.le_of_ble_eq_true rfl) ?_
  intro p e s m args below meth c A Q hF hK hG hD hA hend ls hP hS hl
  obtain ⟨hx, hb, hml, hown, hts⟩ := id hF
  have hl : lv_has ls 4 [(0, .ref aS), (1, .int x1)] := hl
  have b_41 : ∀ (H : Heap) (locs : List Loc) (ls : Array Slot) (k0 : Int32), fn_X4_pointsOf_41 rolls frm tk sr k0 = some o → va_P D vwCl [(aS, .inr (3, [.ref aTk, .ref aSr, .int rolls, .int frm])), (aTk, .inl (cI 0, 21, .inl tk)), (aSr, .inl (cI 0, 11, .inl sr))] H → va_S A s.heap H locs → lv_has ls 4 [] → W p l e { frames := 2, cells := 0, slots := 0, locals := 43 } s m args below meth c H locs 0 0 Q (F0 m 41 ls [.int k0]) := by
    intro H locs ls k0
    intro hq hP hS hl
    have ho := Option.some.inj hq
    subst ho
    exact hend _ _ _ _ hP hS dX4_pointsOf_41
  refine lv_aload_n hx hb dX4_pointsOf_0 rfl (lv_at hl 0 rfl) ?_
  refine lv_iload_n hx hb dX4_pointsOf_1 rfl (lv_at hl 1 rfl) ?_
  obtain ⟨o2, ho2, hq⟩ := kbind hq
  refine kc_Vi (av := [.int x1]) (rest := []) hF hK hG hA (mk_X4_startOf l D cI aS aTk aSr s.heap.size rolls frm sr x1 o2 ho2) (cwV 1 hts gX4_pointsOf_X4_startOf rfl rfl rfl (by decide +kernel) ⟨Nat.le_of_ble_eq_true rfl, Nat.le_of_ble_eq_true rfl⟩) hP hD hS [0, 2] (by decide) rfl rfl 0 rfl rfl rfl hl.1 rfl (Nat.le_of_ble_eq_true rfl) ⟨Nat.zero_le _, Nat.zero_le _⟩ dX4_pointsOf_2 (fun H locs hP hD hS => ?_)
  have hP : va_P D vwCl [(aS, .inr (3, [.ref aTk, .ref aSr, .int rolls, .int frm])), (aTk, .inl (cI 0, 21, .inl tk)), (aSr, .inl (cI 0, 11, .inl sr))] H := hP
  have hD : va_D A [(aS, .inr (3, [.ref aTk, .ref aSr, .int rolls, .int frm])), (aTk, .inl (cI 0, 21, .inl tk)), (aSr, .inl (cI 0, 11, .inl sr))] := hD
  refine lv_istore_n (lv' := [(2, .int o2), (0, .ref aS), (1, .int x1)]) hx hb dX4_pointsOf_5 rfl hl (by decide) rfl (fun ls hl => ?_)
  refine lv_aload_n hx hb dX4_pointsOf_6 rfl (lv_at hl 1 rfl) ?_
  refine lv_iload_n hx hb dX4_pointsOf_7 rfl (lv_at hl 0 rfl) ?_
  obtain ⟨o8, ho8, hq⟩ := kbind hq
  refine kc_Vi (av := [.int o2]) (rest := []) hF hK hG hA (mk_X4_takenBy l D cI aS aTk aSr H.size rolls frm tk o2 o8 ho8) (cwV 1 hts gX4_pointsOf_X4_takenBy rfl rfl rfl (by decide +kernel) ⟨Nat.le_of_ble_eq_true rfl, Nat.le_of_ble_eq_true rfl⟩) hP hD hS [0, 1] (by decide) rfl rfl 0 rfl rfl rfl hl.1 rfl (Nat.le_of_ble_eq_true rfl) ⟨Nat.zero_le _, Nat.zero_le _⟩ dX4_pointsOf_8 (fun H locs hP hD hS => ?_)
  have hP : va_P D vwCl [(aS, .inr (3, [.ref aTk, .ref aSr, .int rolls, .int frm])), (aTk, .inl (cI 0, 21, .inl tk)), (aSr, .inl (cI 0, 11, .inl sr))] H := hP
  have hD : va_D A [(aS, .inr (3, [.ref aTk, .ref aSr, .int rolls, .int frm])), (aTk, .inl (cI 0, 21, .inl tk)), (aSr, .inl (cI 0, 11, .inl sr))] := hD
  refine lv_aload_n hx hb dX4_pointsOf_11 rfl (lv_at hl 1 rfl) ?_
  refine lv_iload_n hx hb dX4_pointsOf_12 rfl (lv_at hl 0 rfl) ?_
  refine lv_iconst (v := 1) hx hb dX4_pointsOf_13 (by decide) ?_
  refine lv_iadd hx hb dX4_pointsOf_14 ?_
  obtain ⟨o15, ho15, hq⟩ := kbind hq
  refine kc_Vi (av := [.int (o2 + (1 : Int32))]) (rest := [.int o8]) hF hK hG hA (mk_X4_takenBy l D cI aS aTk aSr H.size rolls frm tk (o2 + (1 : Int32)) o15 ho15) (cwV 1 hts gX4_pointsOf_X4_takenBy rfl rfl rfl (by decide +kernel) ⟨Nat.le_of_ble_eq_true rfl, Nat.le_of_ble_eq_true rfl⟩) hP hD hS [0, 1] (by decide) rfl rfl 0 rfl rfl rfl hl.1 rfl (Nat.le_of_ble_eq_true rfl) ⟨Nat.zero_le _, Nat.zero_le _⟩ dX4_pointsOf_15 (fun H locs hP hD hS => ?_)
  have hP : va_P D vwCl [(aS, .inr (3, [.ref aTk, .ref aSr, .int rolls, .int frm])), (aTk, .inl (cI 0, 21, .inl tk)), (aSr, .inl (cI 0, 11, .inl sr))] H := hP
  have hD : va_D A [(aS, .inr (3, [.ref aTk, .ref aSr, .int rolls, .int frm])), (aTk, .inl (cI 0, 21, .inl tk)), (aSr, .inl (cI 0, 11, .inl sr))] := hD
  refine lv_iadd hx hb dX4_pointsOf_18 ?_
  refine lv_istore_n (lv' := [(3, .int (o8 + o15)), (2, .int o2), (0, .ref aS), (1, .int x1)]) hx hb dX4_pointsOf_19 rfl hl (by decide) rfl (fun ls hl => ?_)
  refine lv_aload_n hx hb dX4_pointsOf_20 rfl (lv_at hl 2 rfl) ?_
  refine lv_iload_n hx hb dX4_pointsOf_21 rfl (lv_at hl 3 rfl) ?_
  obtain ⟨o22, ho22, hq⟩ := kbind hq
  refine kc_Vi (av := [.int x1]) (rest := []) hF hK hG hA (mk_X4_markOf l D cI aS aTk aSr H.size rolls frm tk sr x1 o22 ho22) (cwV 1 hts gX4_pointsOf_X4_markOf rfl rfl rfl (by decide +kernel) ⟨Nat.le_of_ble_eq_true rfl, Nat.le_of_ble_eq_true rfl⟩) hP hD hS [0, 1, 2] (by decide) rfl rfl 0 rfl rfl rfl hl.1 rfl (Nat.le_of_ble_eq_true rfl) ⟨Nat.zero_le _, Nat.zero_le _⟩ dX4_pointsOf_22 (fun H locs hP hD hS => ?_)
  have hP : va_P D vwCl [(aS, .inr (3, [.ref aTk, .ref aSr, .int rolls, .int frm])), (aTk, .inl (cI 0, 21, .inl tk)), (aSr, .inl (cI 0, 11, .inl sr))] H := hP
  have hD : va_D A [(aS, .inr (3, [.ref aTk, .ref aSr, .int rolls, .int frm])), (aTk, .inl (cI 0, 21, .inl tk)), (aSr, .inl (cI 0, 11, .inl sr))] := hD
  refine lv_if_ne (tgt := 32) hx hb dX4_pointsOf_25 (by decide) (fun c9 => ?_) (fun c9 => ?_)
  · have hq := kite_f c9 hq
    refine lv_iload_n hx hb dX4_pointsOf_32 rfl (lv_at hl 0 rfl) ?_
    refine lv_aload_n hx hb dX4_pointsOf_33 rfl (lv_at hl 2 rfl) ?_
    refine lv_iload_n hx hb dX4_pointsOf_34 rfl (lv_at hl 1 rfl) ?_
    refine lv_iconst (v := 2) hx hb dX4_pointsOf_35 (by decide) ?_
    refine lv_iadd hx hb dX4_pointsOf_36 ?_
    obtain ⟨o37, ho37, hq⟩ := kbind hq
    refine kc_Vi (av := [.int (o2 + (2 : Int32))]) (rest := [.int (o8 + o15)]) hF hK hG hA (mk_X4_takenBy l D cI aS aTk aSr H.size rolls frm tk (o2 + (2 : Int32)) o37 ho37) (cwV 1 hts gX4_pointsOf_X4_takenBy rfl rfl rfl (by decide +kernel) ⟨Nat.le_of_ble_eq_true rfl, Nat.le_of_ble_eq_true rfl⟩) hP hD hS [0, 1] (by decide) rfl rfl 0 rfl rfl rfl hl.1 rfl (Nat.le_of_ble_eq_true rfl) ⟨Nat.zero_le _, Nat.zero_le _⟩ dX4_pointsOf_37 (fun H locs hP hD hS => ?_)
    have hP : va_P D vwCl [(aS, .inr (3, [.ref aTk, .ref aSr, .int rolls, .int frm])), (aTk, .inl (cI 0, 21, .inl tk)), (aSr, .inl (cI 0, 11, .inl sr))] H := hP
    have hD : va_D A [(aS, .inr (3, [.ref aTk, .ref aSr, .int rolls, .int frm])), (aTk, .inl (cI 0, 21, .inl tk)), (aSr, .inl (cI 0, 11, .inl sr))] := hD
    refine lv_iadd hx hb dX4_pointsOf_40 ?_
    exact b_41  _ _ _ ((o8 + o15) + o37) hq hP hS (lv_sub hl [] rfl)
  · have hq := kite_t c9 hq
    refine lv_iload_n hx hb dX4_pointsOf_28 rfl (lv_at hl 0 rfl) ?_
    refine lv_goto (tgt := 41) hx hb dX4_pointsOf_29 (by decide) ?_
    exact b_41  _ _ _ (o8 + o15) hq hP hS (lv_sub hl [] rfl)

set_option maxHeartbeats 4000000 in
set_option maxRecDepth 100000 in
theorem mk_X4_allPoints (l : Launch) (D : va_G) (cI : Nat → ClassId) (aS aTk aSr : Nat) (sz : Nat) (rolls : Int32) (frm : Int32) (tk : kF) (sr : kF) (o : Int32) (hq : fn_X4_allPoints rolls frm tk sr = some o) : Met l yX4_allPoints wsX4_allPoints ({ frames := 3, cells := 0, slots := 0, locals := 66 }) (kPc D cI [(aS, .inr (3, [.ref aTk, .ref aSr, .int rolls, .int frm])), (aTk, .inl (cI 0, 21, .inl tk)), (aSr, .inl (cI 0, 11, .inl sr))] sz [.ref aS]) (kQi D [(aS, .inr (3, [.ref aTk, .ref aSr, .int rolls, .int frm])), (aTk, .inl (cI 0, 21, .inl tk)), (aSr, .inl (cI 0, 11, .inl sr))] [(aS, .inr (3, [.ref aTk, .ref aSr, .int rolls, .int frm])), (aTk, .inl (cI 0, 21, .inl tk)), (aSr, .inl (cI 0, 11, .inl sr))] sz o) 0 0 (va_A [(aS, .inr (3, [.ref aTk, .ref aSr, .int rolls, .int frm])), (aTk, .inl (cI 0, 21, .inl tk)), (aSr, .inl (cI 0, 11, .inl sr))] sz) := by
  refine kM_i (cc := cX4_allPoints) (maxL := 3) (by decide +kernel) rfl (Nat.le_of_ble_eq_true rfl) ?_
  intro p e s m args below meth c A Q hF hK hG hD hA hend ls hP hS hl
  obtain ⟨hx, hb, hml, hown, hts⟩ := id hF
  have hl : lv_has ls 3 [(0, .ref aS)] := hl
  have b_4 : ∀ (q : Nat), ∀ (H : Heap) (locs : List Loc) (ls : Array Slot) (x1 : Int32) (x2 : Int32), fn_X4_allPoints_4 q rolls frm tk sr x1 x2 = some o → va_P D vwCl [(aS, .inr (3, [.ref aTk, .ref aSr, .int rolls, .int frm])), (aTk, .inl (cI 0, 21, .inl tk)), (aSr, .inl (cI 0, 11, .inl sr))] H → va_S A s.heap H locs → lv_has ls 3 [(0, .ref aS), (1, .int x1), (2, .int x2)] → W p l e { frames := 3, cells := 0, slots := 0, locals := 66 } s m args below meth c H locs 0 0 Q (F0 m 4 ls []) := by
    intro q
    induction q with
    | zero =>
      intro H locs ls x1 x2
      intro hq
      cases hq
    | succ q ih =>
      intro H locs ls x1 x2
      intro hq hP hS hl
      refine lv_iload_n hx hb dX4_allPoints_4 rfl (lv_at hl 2 rfl) ?_
      refine lv_bipush (v := 10) hx hb dX4_allPoints_5 (by decide) ?_
      refine lv_icmp_ge (tgt := 24) hx hb dX4_allPoints_7 (by decide) (fun c9 => ?_) (fun c9 => ?_)
      · have hq := kite_t c9 hq
        refine lv_iload_n hx hb dX4_allPoints_24 rfl (lv_at hl 1 rfl) ?_
        have ho := Option.some.inj hq
        subst ho
        exact hend _ _ _ _ hP hS dX4_allPoints_25
      · have hq := kite_f c9 hq
        refine lv_iload_n hx hb dX4_allPoints_10 rfl (lv_at hl 1 rfl) ?_
        refine lv_aload_n hx hb dX4_allPoints_11 rfl (lv_at hl 0 rfl) ?_
        refine lv_iload_n hx hb dX4_allPoints_12 rfl (lv_at hl 2 rfl) ?_
        obtain ⟨o13, ho13, hq⟩ := kbind hq
        refine kc_Vi (av := [.int x2]) (rest := [.int x1]) hF hK hG hA (mk_X4_pointsOf l D cI aS aTk aSr H.size rolls frm tk sr x2 o13 ho13) (cwV 1 hts gX4_allPoints_X4_pointsOf rfl rfl rfl (by decide +kernel) ⟨Nat.le_of_ble_eq_true rfl, Nat.le_of_ble_eq_true rfl⟩) hP hD hS [0, 1, 2] (by decide) rfl rfl 0 rfl rfl rfl hl.1 rfl (Nat.le_of_ble_eq_true rfl) ⟨Nat.zero_le _, Nat.zero_le _⟩ dX4_allPoints_13 (fun H locs hP hD hS => ?_)
        have hP : va_P D vwCl [(aS, .inr (3, [.ref aTk, .ref aSr, .int rolls, .int frm])), (aTk, .inl (cI 0, 21, .inl tk)), (aSr, .inl (cI 0, 11, .inl sr))] H := hP
        have hD : va_D A [(aS, .inr (3, [.ref aTk, .ref aSr, .int rolls, .int frm])), (aTk, .inl (cI 0, 21, .inl tk)), (aSr, .inl (cI 0, 11, .inl sr))] := hD
        refine lv_iadd hx hb dX4_allPoints_16 ?_
        refine lv_istore_n (lv' := [(1, .int (x1 + o13)), (0, .ref aS), (2, .int x2)]) hx hb dX4_allPoints_17 rfl hl (by decide) rfl (fun ls hl => ?_)
        refine lv_iinc (v := (x2 + 1)) (lv' := [(2, .int (x2 + 1)), (1, .int (x1 + o13)), (0, .ref aS)]) hx hb dX4_allPoints_18 hl (k := 2) rfl rfl (by decide) rfl (fun ls hl => ?_)
        refine lv_goto (tgt := 4) hx hb dX4_allPoints_21 (by decide) ?_
        exact ih _ _ _ (x1 + o13) (x2 + 1) hq hP hS (lv_sub hl [2, 1, 0] rfl)
  refine lv_iconst (v := 0) hx hb dX4_allPoints_0 (by decide) ?_
  refine lv_istore_n (lv' := [(1, .int (0 : Int32)), (0, .ref aS)]) hx hb dX4_allPoints_1 rfl hl (by decide) rfl (fun ls hl => ?_)
  refine lv_iconst (v := 0) hx hb dX4_allPoints_2 (by decide) ?_
  refine lv_istore_n (lv' := [(2, .int (0 : Int32)), (1, .int (0 : Int32)), (0, .ref aS)]) hx hb dX4_allPoints_3 rfl hl (by decide) rfl (fun ls hl => ?_)
  exact b_4 4096 _ _ _ (0 : Int32) (0 : Int32) hq hP hS (lv_sub hl [2, 1, 0] rfl)

theorem iw_X4_add_X4 : ∀ w ∈ wsX40, w ∈ wsX4_add := by decide +kernel
set_option maxHeartbeats 4000000 in
set_option maxRecDepth 100000 in
theorem mk_X4_add (l : Launch) (D : va_G) (cI : Nat → ClassId) (aS aTk aSr : Nat) (sz : Nat) (rolls : Int32) (frm : Int32) (tk : kF) (sr : kF) (x1 : Int32) (o : Int32 × Int32 × kF × kF) (hq : fn_X4_add rolls frm tk sr x1 = some o) : Met l yX4_add wsX4_add ({ frames := 2, cells := 0, slots := 0, locals := 43 }) (kPc D cI [(aS, .inr (3, [.ref aTk, .ref aSr, .int rolls, .int frm])), (aTk, .inl (cI 0, 21, .inl tk)), (aSr, .inl (cI 0, 11, .inl sr))] sz [.ref aS, .int x1]) (kQv D [(aS, .inr (3, [.ref aTk, .ref aSr, .int rolls, .int frm])), (aTk, .inl (cI 0, 21, .inl tk)), (aSr, .inl (cI 0, 11, .inl sr))] [(aS, .inr (3, [.ref aTk, .ref aSr, .int o.1, .int o.2.1])), (aTk, .inl (cI 0, 21, .inl o.2.2.1)), (aSr, .inl (cI 0, 11, .inl o.2.2.2))] sz) 0 0 (va_A [(aS, .inr (3, [.ref aTk, .ref aSr, .int rolls, .int frm])), (aTk, .inl (cI 0, 21, .inl tk)), (aSr, .inl (cI 0, 11, .inl sr))] sz) := by
  refine kM_v (cc := cX4_add) (maxL := 4) (by decide +kernel) rfl (Nat.le_of_ble_eq_true rfl) ?_
  intro p e s m args below meth c A Q hF hK hG hD hA hend ls hP hS hl
  obtain ⟨hx, hb, hml, hown, hts⟩ := id hF
  have hl : lv_has ls 4 [(0, .ref aS), (1, .int x1)] := hl
  have b_32 : ∀ (H : Heap) (locs : List Loc) (ls : Array Slot) (rolls : Int32) (frm : Int32) (tk : kF) (sr : kF), fn_X4_add_32 rolls frm tk sr = some o → va_P D vwCl [(aS, .inr (3, [.ref aTk, .ref aSr, .int rolls, .int frm])), (aTk, .inl (cI 0, 21, .inl tk)), (aSr, .inl (cI 0, 11, .inl sr))] H → va_D A [(aS, .inr (3, [.ref aTk, .ref aSr, .int rolls, .int frm])), (aTk, .inl (cI 0, 21, .inl tk)), (aSr, .inl (cI 0, 11, .inl sr))] → va_S A s.heap H locs → lv_has ls 4 [] → W p l e { frames := 2, cells := 0, slots := 0, locals := 43 } s m args below meth c H locs 0 0 Q (F0 m 32 ls []) := by
    intro H locs ls rolls frm tk sr
    intro hq hP hD hS hl
    have ho := Option.some.inj hq
    subst ho
    exact hend _ _ _ _ hP hS dX4_add_32
  have b_129 : ∀ (H : Heap) (locs : List Loc) (ls : Array Slot) (rolls : Int32) (frm : Int32) (tk : kF) (sr : kF), fn_X4_add_129 rolls frm tk sr = some o → va_P D vwCl [(aS, .inr (3, [.ref aTk, .ref aSr, .int rolls, .int frm])), (aTk, .inl (cI 0, 21, .inl tk)), (aSr, .inl (cI 0, 11, .inl sr))] H → va_D A [(aS, .inr (3, [.ref aTk, .ref aSr, .int rolls, .int frm])), (aTk, .inl (cI 0, 21, .inl tk)), (aSr, .inl (cI 0, 11, .inl sr))] → va_S A s.heap H locs → lv_has ls 4 [] → W p l e { frames := 2, cells := 0, slots := 0, locals := 43 } s m args below meth c H locs 0 0 Q (F0 m 129 ls []) := by
    intro H locs ls rolls frm tk sr
    intro hq hP hD hS hl
    have ho := Option.some.inj hq
    subst ho
    exact hend _ _ _ _ hP hS dX4_add_129
  have b_93 : ∀ (H : Heap) (locs : List Loc) (ls : Array Slot) (rolls : Int32) (frm : Int32) (tk : kF) (sr : kF) (k0 : Int32), fn_X4_add_93 rolls frm tk sr k0 = some o → va_P D vwCl [(aS, .inr (3, [.ref aTk, .ref aSr, .int rolls, .int frm])), (aTk, .inl (cI 0, 21, .inl tk)), (aSr, .inl (cI 0, 11, .inl sr))] H → va_D A [(aS, .inr (3, [.ref aTk, .ref aSr, .int rolls, .int frm])), (aTk, .inl (cI 0, 21, .inl tk)), (aSr, .inl (cI 0, 11, .inl sr))] → va_S A s.heap H locs → lv_has ls 4 [(0, .ref aS)] → W p l e { frames := 2, cells := 0, slots := 0, locals := 43 } s m args below meth c H locs 0 0 Q (F0 m 93 ls [.int k0]) := by
    intro H locs ls rolls frm tk sr k0
    intro hq hP hD hS hl
    refine lv_istore_n (lv' := [(3, .int k0), (0, .ref aS)]) hx hb dX4_add_93 rfl hl (by decide) rfl (fun ls hl => ?_)
    refine lv_aload_n hx hb dX4_add_94 rfl (lv_at hl 1 rfl) ?_
    refine lv_aload_n hx hb dX4_add_95 rfl (lv_at hl 1 rfl) ?_
    refine va_get (D := D) (ci := 3) (v := .int frm) (C := RX4) (T := TX4) (N := 4) hx hb hts iw_X4_add_X4 hown hK.1 hP 0 rfl rfl 3 (by decide) (hts (.fieldLink RX4 22 "PinDeck$Sheet" "frame" "I") (by decide +kernel)) (fun _ h9 => h9) rfl dX4_add_96 ?_
    obtain ⟨o99, ho99, hq⟩ := kbind hq
    refine kc_Vi (av := [.int frm]) (rest := []) hF hK hG hA (mk_X4_rollsIn l D cI aS aTk aSr H.size rolls frm sr frm o99 ho99) (cwV 1 hts gX4_add_X4_rollsIn rfl rfl rfl (by decide +kernel) ⟨Nat.le_of_ble_eq_true rfl, Nat.le_of_ble_eq_true rfl⟩) hP hD hS [0, 2] (by decide) rfl rfl 0 rfl rfl rfl hl.1 rfl (Nat.le_of_ble_eq_true rfl) ⟨Nat.zero_le _, Nat.zero_le _⟩ dX4_add_99 (fun H locs hP hD hS => ?_)
    have hP : va_P D vwCl [(aS, .inr (3, [.ref aTk, .ref aSr, .int rolls, .int frm])), (aTk, .inl (cI 0, 21, .inl tk)), (aSr, .inl (cI 0, 11, .inl sr))] H := hP
    have hD : va_D A [(aS, .inr (3, [.ref aTk, .ref aSr, .int rolls, .int frm])), (aTk, .inl (cI 0, 21, .inl tk)), (aSr, .inl (cI 0, 11, .inl sr))] := hD
    refine lv_iload_n hx hb dX4_add_102 rfl (lv_at hl 0 rfl) ?_
    refine lv_icmp_lt (tgt := 129) hx hb dX4_add_103 (by decide) (fun c9 => ?_) (fun c9 => ?_)
    · have hq := kite_t c9 hq
      exact b_129  _ _ _ rolls frm tk sr hq hP hD hS (lv_sub hl [] rfl)
    · have hq := kite_f c9 hq
      refine lv_aload_n hx hb dX4_add_106 rfl (lv_at hl 1 rfl) ?_
      refine lv_dup hx hb dX4_add_107 rfl ?_
      refine va_get (D := D) (ci := 3) (v := .int frm) (C := RX4) (T := TX4) (N := 4) hx hb hts iw_X4_add_X4 hown hK.1 hP 0 rfl rfl 3 (by decide) (hts (.fieldLink RX4 22 "PinDeck$Sheet" "frame" "I") (by decide +kernel)) (fun _ h9 => h9) rfl dX4_add_108 ?_
      refine lv_iconst (v := 1) hx hb dX4_add_111 (by decide) ?_
      refine lv_iadd hx hb dX4_add_112 ?_
      refine va_put (D := D) (ci := 3) (v := .int (frm + (1 : Int32))) (ty := .int) (C := RX4) (T := TX4) (N := 4) hx hb hts iw_X4_add_X4 tyX4 tyX4_ok nmX4 hown hK.1 hP hD hS 0 rfl rfl 3 (by decide) (hts (.fieldLink RX4 22 "PinDeck$Sheet" "frame" "I") (by decide +kernel)) (fun _ h9 => h9) rfl (by decide +kernel) rfl rfl (Nat.le_of_ble_eq_true rfl) dX4_add_113 (fun H locs hP hD hS => ?_)
      have hP : va_P D vwCl [(aS, .inr (3, [.ref aTk, .ref aSr, .int rolls, .int (frm + (1 : Int32))])), (aTk, .inl (cI 0, 21, .inl tk)), (aSr, .inl (cI 0, 11, .inl sr))] H := hP
      have hD : va_D A [(aS, .inr (3, [.ref aTk, .ref aSr, .int rolls, .int (frm + (1 : Int32))])), (aTk, .inl (cI 0, 21, .inl tk)), (aSr, .inl (cI 0, 11, .inl sr))] := hD
      refine lv_aload_n hx hb dX4_add_116 rfl (lv_at hl 1 rfl) ?_
      refine va_get (D := D) (ci := 3) (v := .ref aSr) (C := RX4) (T := TX4) (N := 4) hx hb hts iw_X4_add_X4 hown hK.1 hP 0 rfl rfl 1 (by decide) (hts (.fieldLink RX4 15 "PinDeck$Sheet" "start" "[I") (by decide +kernel)) (fun _ h9 => h9) rfl dX4_add_117 ?_
      refine lv_aload_n hx hb dX4_add_120 rfl (lv_at hl 1 rfl) ?_
      refine va_get (D := D) (ci := 3) (v := .int (frm + (1 : Int32))) (C := RX4) (T := TX4) (N := 4) hx hb hts iw_X4_add_X4 hown hK.1 hP 0 rfl rfl 3 (by decide) (hts (.fieldLink RX4 22 "PinDeck$Sheet" "frame" "I") (by decide +kernel)) (fun _ h9 => h9) rfl dX4_add_121 ?_
      refine lv_aload_n hx hb dX4_add_124 rfl (lv_at hl 1 rfl) ?_
      refine va_get (D := D) (ci := 3) (v := .int rolls) (C := RX4) (T := TX4) (N := 4) hx hb hts iw_X4_add_X4 hown hK.1 hP 0 rfl rfl 2 (by decide) (hts (.fieldLink RX4 18 "PinDeck$Sheet" "rolls" "I") (by decide +kernel)) (fun _ h9 => h9) rfl dX4_add_125 ?_
      obtain ⟨hz, hq⟩ := kite_n hq
      refine k_iast (j := ((frm + (1 : Int32)).toNatClampNeg)) hx hb hK.1 hP hD hS 2 0 rfl rfl hz rfl dX4_add_128 (fun H locs hP hD hS => ?_)
      have hP : va_P D vwCl [(aS, .inr (3, [.ref aTk, .ref aSr, .int rolls, .int (frm + (1 : Int32))])), (aTk, .inl (cI 0, 21, .inl tk)), (aSr, .inl (cI 0, 11, .inl (upd sr ((frm + (1 : Int32)).toNatClampNeg) rolls)))] H := hP
      have hD : va_D A [(aS, .inr (3, [.ref aTk, .ref aSr, .int rolls, .int (frm + (1 : Int32))])), (aTk, .inl (cI 0, 21, .inl tk)), (aSr, .inl (cI 0, 11, .inl (upd sr ((frm + (1 : Int32)).toNatClampNeg) rolls)))] := hD
      exact b_129  _ _ _ rolls (frm + (1 : Int32)) tk (upd sr ((frm + (1 : Int32)).toNatClampNeg) rolls) hq hP hD hS (lv_sub hl [] rfl)
  refine lv_aload_n hx hb dX4_add_0 rfl (lv_at hl 0 rfl) ?_
  refine va_get (D := D) (ci := 3) (v := .int frm) (C := RX4) (T := TX4) (N := 4) hx hb hts iw_X4_add_X4 hown hK.1 hP 0 rfl rfl 3 (by decide) (hts (.fieldLink RX4 22 "PinDeck$Sheet" "frame" "I") (by decide +kernel)) (fun _ h9 => h9) rfl dX4_add_1 ?_
  refine lv_if_lt (tgt := 32) hx hb dX4_add_4 (by decide) (fun c9 => ?_) (fun c9 => ?_)
  · have hq := kite_t c9 hq
    exact b_32  _ _ _ rolls frm tk sr hq hP hD hS (lv_sub hl [] rfl)
  · have hq := kite_f c9 hq
    refine lv_aload_n hx hb dX4_add_7 rfl (lv_at hl 0 rfl) ?_
    refine va_get (D := D) (ci := 3) (v := .int frm) (C := RX4) (T := TX4) (N := 4) hx hb hts iw_X4_add_X4 hown hK.1 hP 0 rfl rfl 3 (by decide) (hts (.fieldLink RX4 22 "PinDeck$Sheet" "frame" "I") (by decide +kernel)) (fun _ h9 => h9) rfl dX4_add_8 ?_
    refine lv_bipush (v := 10) hx hb dX4_add_11 (by decide) ?_
    refine lv_icmp_ge (tgt := 32) hx hb dX4_add_13 (by decide) (fun c9 => ?_) (fun c9 => ?_)
    · have hq := kite_t c9 hq
      exact b_32  _ _ _ rolls frm tk sr hq hP hD hS (lv_sub hl [] rfl)
    · have hq := kite_f c9 hq
      refine lv_aload_n hx hb dX4_add_16 rfl (lv_at hl 0 rfl) ?_
      refine va_get (D := D) (ci := 3) (v := .int rolls) (C := RX4) (T := TX4) (N := 4) hx hb hts iw_X4_add_X4 hown hK.1 hP 0 rfl rfl 2 (by decide) (hts (.fieldLink RX4 18 "PinDeck$Sheet" "rolls" "I") (by decide +kernel)) (fun _ h9 => h9) rfl dX4_add_17 ?_
      refine lv_if_lt (tgt := 32) hx hb dX4_add_20 (by decide) (fun c9 => ?_) (fun c9 => ?_)
      · have hq := kite_t c9 hq
        exact b_32  _ _ _ rolls frm tk sr hq hP hD hS (lv_sub hl [] rfl)
      · have hq := kite_f c9 hq
        refine lv_aload_n hx hb dX4_add_23 rfl (lv_at hl 0 rfl) ?_
        refine va_get (D := D) (ci := 3) (v := .int rolls) (C := RX4) (T := TX4) (N := 4) hx hb hts iw_X4_add_X4 hown hK.1 hP 0 rfl rfl 2 (by decide) (hts (.fieldLink RX4 18 "PinDeck$Sheet" "rolls" "I") (by decide +kernel)) (fun _ h9 => h9) rfl dX4_add_24 ?_
        refine lv_bipush (v := 21) hx hb dX4_add_27 (by decide) ?_
        refine lv_icmp_lt (tgt := 33) hx hb dX4_add_29 (by decide) (fun c9 => ?_) (fun c9 => ?_)
        · have hq := kite_t c9 hq
          refine lv_aload_n hx hb dX4_add_33 rfl (lv_at hl 0 rfl) ?_
          refine va_get (D := D) (ci := 3) (v := .ref aTk) (C := RX4) (T := TX4) (N := 4) hx hb hts iw_X4_add_X4 hown hK.1 hP 0 rfl rfl 0 (by decide) (hts (.fieldLink RX4 9 "PinDeck$Sheet" "taken" "[I") (by decide +kernel)) (fun _ h9 => h9) rfl dX4_add_34 ?_
          refine lv_aload_n hx hb dX4_add_37 rfl (lv_at hl 0 rfl) ?_
          refine va_get (D := D) (ci := 3) (v := .int rolls) (C := RX4) (T := TX4) (N := 4) hx hb hts iw_X4_add_X4 hown hK.1 hP 0 rfl rfl 2 (by decide) (hts (.fieldLink RX4 18 "PinDeck$Sheet" "rolls" "I") (by decide +kernel)) (fun _ h9 => h9) rfl dX4_add_38 ?_
          refine lv_iload_n hx hb dX4_add_41 rfl (lv_at hl 1 rfl) ?_
          obtain ⟨hz, hq⟩ := kite_n hq
          refine k_iast (j := (rolls.toNatClampNeg)) hx hb hK.1 hP hD hS 1 0 rfl rfl hz rfl dX4_add_42 (fun H locs hP hD hS => ?_)
          have hP : va_P D vwCl [(aS, .inr (3, [.ref aTk, .ref aSr, .int rolls, .int frm])), (aTk, .inl (cI 0, 21, .inl (upd tk (rolls.toNatClampNeg) x1))), (aSr, .inl (cI 0, 11, .inl sr))] H := hP
          have hD : va_D A [(aS, .inr (3, [.ref aTk, .ref aSr, .int rolls, .int frm])), (aTk, .inl (cI 0, 21, .inl (upd tk (rolls.toNatClampNeg) x1))), (aSr, .inl (cI 0, 11, .inl sr))] := hD
          refine lv_aload_n hx hb dX4_add_43 rfl (lv_at hl 0 rfl) ?_
          refine lv_dup hx hb dX4_add_44 rfl ?_
          refine va_get (D := D) (ci := 3) (v := .int rolls) (C := RX4) (T := TX4) (N := 4) hx hb hts iw_X4_add_X4 hown hK.1 hP 0 rfl rfl 2 (by decide) (hts (.fieldLink RX4 18 "PinDeck$Sheet" "rolls" "I") (by decide +kernel)) (fun _ h9 => h9) rfl dX4_add_45 ?_
          refine lv_iconst (v := 1) hx hb dX4_add_48 (by decide) ?_
          refine lv_iadd hx hb dX4_add_49 ?_
          refine va_put (D := D) (ci := 3) (v := .int (rolls + (1 : Int32))) (ty := .int) (C := RX4) (T := TX4) (N := 4) hx hb hts iw_X4_add_X4 tyX4 tyX4_ok nmX4 hown hK.1 hP hD hS 0 rfl rfl 2 (by decide) (hts (.fieldLink RX4 18 "PinDeck$Sheet" "rolls" "I") (by decide +kernel)) (fun _ h9 => h9) rfl (by decide +kernel) rfl rfl (Nat.le_of_ble_eq_true rfl) dX4_add_50 (fun H locs hP hD hS => ?_)
          have hP : va_P D vwCl [(aS, .inr (3, [.ref aTk, .ref aSr, .int (rolls + (1 : Int32)), .int frm])), (aTk, .inl (cI 0, 21, .inl (upd tk (rolls.toNatClampNeg) x1))), (aSr, .inl (cI 0, 11, .inl sr))] H := hP
          have hD : va_D A [(aS, .inr (3, [.ref aTk, .ref aSr, .int (rolls + (1 : Int32)), .int frm])), (aTk, .inl (cI 0, 21, .inl (upd tk (rolls.toNatClampNeg) x1))), (aSr, .inl (cI 0, 11, .inl sr))] := hD
          refine lv_aload_n hx hb dX4_add_53 rfl (lv_at hl 0 rfl) ?_
          refine lv_aload_n hx hb dX4_add_54 rfl (lv_at hl 0 rfl) ?_
          refine va_get (D := D) (ci := 3) (v := .int frm) (C := RX4) (T := TX4) (N := 4) hx hb hts iw_X4_add_X4 hown hK.1 hP 0 rfl rfl 3 (by decide) (hts (.fieldLink RX4 22 "PinDeck$Sheet" "frame" "I") (by decide +kernel)) (fun _ h9 => h9) rfl dX4_add_55 ?_
          obtain ⟨o58, ho58, hq⟩ := kbind hq
          refine kc_Vi (av := [.int frm]) (rest := []) hF hK hG hA (mk_X4_markOf l D cI aS aTk aSr H.size (rolls + (1 : Int32)) frm (upd tk (rolls.toNatClampNeg) x1) sr frm o58 ho58) (cwV 1 hts gX4_add_X4_markOf rfl rfl rfl (by decide +kernel) ⟨Nat.le_of_ble_eq_true rfl, Nat.le_of_ble_eq_true rfl⟩) hP hD hS [0, 1, 2] (by decide) rfl rfl 0 rfl rfl rfl hl.1 rfl (Nat.le_of_ble_eq_true rfl) ⟨Nat.zero_le _, Nat.zero_le _⟩ dX4_add_58 (fun H locs hP hD hS => ?_)
          have hP : va_P D vwCl [(aS, .inr (3, [.ref aTk, .ref aSr, .int (rolls + (1 : Int32)), .int frm])), (aTk, .inl (cI 0, 21, .inl (upd tk (rolls.toNatClampNeg) x1))), (aSr, .inl (cI 0, 11, .inl sr))] H := hP
          have hD : va_D A [(aS, .inr (3, [.ref aTk, .ref aSr, .int (rolls + (1 : Int32)), .int frm])), (aTk, .inl (cI 0, 21, .inl (upd tk (rolls.toNatClampNeg) x1))), (aSr, .inl (cI 0, 11, .inl sr))] := hD
          refine lv_istore_n (lv' := [(2, .int o58), (0, .ref aS), (1, .int x1)]) hx hb dX4_add_61 rfl hl (by decide) rfl (fun ls hl => ?_)
          refine lv_aload_n hx hb dX4_add_62 rfl (lv_at hl 1 rfl) ?_
          refine va_get (D := D) (ci := 3) (v := .int frm) (C := RX4) (T := TX4) (N := 4) hx hb hts iw_X4_add_X4 hown hK.1 hP 0 rfl rfl 3 (by decide) (hts (.fieldLink RX4 22 "PinDeck$Sheet" "frame" "I") (by decide +kernel)) (fun _ h9 => h9) rfl dX4_add_63 ?_
          refine lv_bipush (v := 9) hx hb dX4_add_66 (by decide) ?_
          refine lv_icmp_ne (tgt := 83) hx hb dX4_add_68 (by decide) (fun c9 => ?_) (fun c9 => ?_)
          · have hq := kite_f c9 hq
            refine lv_iload_n hx hb dX4_add_83 rfl (lv_at hl 0 rfl) ?_
            refine lv_iconst (v := 1) hx hb dX4_add_84 (by decide) ?_
            refine lv_icmp_ne (tgt := 92) hx hb dX4_add_85 (by decide) (fun c9 => ?_) (fun c9 => ?_)
            · have hq := kite_f c9 hq
              refine lv_iconst (v := 2) hx hb dX4_add_92 (by decide) ?_
              exact b_93  _ _ _ (rolls + (1 : Int32)) frm (upd tk (rolls.toNatClampNeg) x1) sr (2 : Int32) hq hP hD hS (lv_sub hl [1] rfl)
            · have hq := kite_t c9 hq
              refine lv_iconst (v := 1) hx hb dX4_add_88 (by decide) ?_
              refine lv_goto (tgt := 93) hx hb dX4_add_89 (by decide) ?_
              exact b_93  _ _ _ (rolls + (1 : Int32)) frm (upd tk (rolls.toNatClampNeg) x1) sr (1 : Int32) hq hP hD hS (lv_sub hl [1] rfl)
          · have hq := kite_t c9 hq
            refine lv_iload_n hx hb dX4_add_71 rfl (lv_at hl 0 rfl) ?_
            refine lv_if_ne (tgt := 79) hx hb dX4_add_72 (by decide) (fun c9 => ?_) (fun c9 => ?_)
            · have hq := kite_f c9 hq
              refine lv_iconst (v := 3) hx hb dX4_add_79 (by decide) ?_
              refine lv_goto (tgt := 93) hx hb dX4_add_80 (by decide) ?_
              exact b_93  _ _ _ (rolls + (1 : Int32)) frm (upd tk (rolls.toNatClampNeg) x1) sr (3 : Int32) hq hP hD hS (lv_sub hl [1] rfl)
            · have hq := kite_t c9 hq
              refine lv_iconst (v := 2) hx hb dX4_add_75 (by decide) ?_
              refine lv_goto (tgt := 93) hx hb dX4_add_76 (by decide) ?_
              exact b_93  _ _ _ (rolls + (1 : Int32)) frm (upd tk (rolls.toNatClampNeg) x1) sr (2 : Int32) hq hP hD hS (lv_sub hl [1] rfl)
        · have hq := kite_f c9 hq
          exact b_32  _ _ _ rolls frm tk sr hq hP hD hS (lv_sub hl [] rfl)

theorem iw_X4_wantsNewRack_X4 : ∀ w ∈ wsX40, w ∈ wsX4_wantsNewRack := by decide +kernel
set_option maxHeartbeats 4000000 in
set_option maxRecDepth 100000 in
theorem mk_X4_wantsNewRack (l : Launch) (D : va_G) (cI : Nat → ClassId) (aS aTk aSr : Nat) (sz : Nat) (rolls : Int32) (frm : Int32) (tk : kF) (sr : kF) (o : Int32) (hq : fn_X4_wantsNewRack rolls frm tk sr = some o) : Met l yX4_wantsNewRack wsX4_wantsNewRack ({ frames := 2, cells := 0, slots := 0, locals := 43 }) (kPc D cI [(aS, .inr (3, [.ref aTk, .ref aSr, .int rolls, .int frm])), (aTk, .inl (cI 0, 21, .inl tk)), (aSr, .inl (cI 0, 11, .inl sr))] sz [.ref aS]) (kQi D [(aS, .inr (3, [.ref aTk, .ref aSr, .int rolls, .int frm])), (aTk, .inl (cI 0, 21, .inl tk)), (aSr, .inl (cI 0, 11, .inl sr))] [(aS, .inr (3, [.ref aTk, .ref aSr, .int rolls, .int frm])), (aTk, .inl (cI 0, 21, .inl tk)), (aSr, .inl (cI 0, 11, .inl sr))] sz o) 0 0 (va_A [(aS, .inr (3, [.ref aTk, .ref aSr, .int rolls, .int frm])), (aTk, .inl (cI 0, 21, .inl tk)), (aSr, .inl (cI 0, 11, .inl sr))] sz) := by
  refine kM_z (cc := cX4_wantsNewRack) (maxL := 1) (by decide +kernel) rfl (Nat.le_of_ble_eq_true rfl) ?_
  intro p e s m args below meth c A Q hF hK hG hD hA hend ls hP hS hl
  obtain ⟨hx, hb, hml, hown, hts⟩ := id hF
  have hl : lv_has ls 1 [(0, .ref aS)] := hl
  have b_50 : ∀ (H : Heap) (locs : List Loc) (ls : Array Slot) (k0 : Int32), fn_X4_wantsNewRack_50 rolls frm tk sr k0 = some o → va_P D vwCl [(aS, .inr (3, [.ref aTk, .ref aSr, .int rolls, .int frm])), (aTk, .inl (cI 0, 21, .inl tk)), (aSr, .inl (cI 0, 11, .inl sr))] H → va_S A s.heap H locs → lv_has ls 1 [] → W p l e { frames := 2, cells := 0, slots := 0, locals := 43 } s m args below meth c H locs 0 0 Q (F0 m 50 ls [.int k0]) := by
    intro H locs ls k0
    intro hq hP hS hl
    obtain ⟨hz, hq⟩ := kite_b hq
    have ho := Option.some.inj hq
    subst ho
    exact hend _ _ _ _ hz hP hS dX4_wantsNewRack_50
  have b_49 : ∀ (H : Heap) (locs : List Loc) (ls : Array Slot), fn_X4_wantsNewRack_49 rolls frm tk sr = some o → va_P D vwCl [(aS, .inr (3, [.ref aTk, .ref aSr, .int rolls, .int frm])), (aTk, .inl (cI 0, 21, .inl tk)), (aSr, .inl (cI 0, 11, .inl sr))] H → va_S A s.heap H locs → lv_has ls 1 [] → W p l e { frames := 2, cells := 0, slots := 0, locals := 43 } s m args below meth c H locs 0 0 Q (F0 m 49 ls []) := by
    intro H locs ls 
    intro hq hP hS hl
    refine lv_iconst (v := 0) hx hb dX4_wantsNewRack_49 (by decide) ?_
    exact b_50  _ _ _ (0 : Int32) hq hP hS (lv_sub hl [] rfl)
  have b_45 : ∀ (H : Heap) (locs : List Loc) (ls : Array Slot), fn_X4_wantsNewRack_45 rolls frm tk sr = some o → va_P D vwCl [(aS, .inr (3, [.ref aTk, .ref aSr, .int rolls, .int frm])), (aTk, .inl (cI 0, 21, .inl tk)), (aSr, .inl (cI 0, 11, .inl sr))] H → va_S A s.heap H locs → lv_has ls 1 [] → W p l e { frames := 2, cells := 0, slots := 0, locals := 43 } s m args below meth c H locs 0 0 Q (F0 m 45 ls []) := by
    intro H locs ls 
    intro hq hP hS hl
    refine lv_iconst (v := 1) hx hb dX4_wantsNewRack_45 (by decide) ?_
    refine lv_goto (tgt := 50) hx hb dX4_wantsNewRack_46 (by decide) ?_
    exact b_50  _ _ _ (1 : Int32) hq hP hS (lv_sub hl [] rfl)
  refine lv_aload_n hx hb dX4_wantsNewRack_0 rfl (lv_at hl 0 rfl) ?_
  obtain ⟨o1, ho1, hq⟩ := kbind hq
  refine kc_Vi (av := []) (rest := []) hF hK hG hA (mk_X4_isOver l D cI aS aTk aSr s.heap.size rolls frm o1 ho1) (cwV 0 hts gX4_wantsNewRack_X4_isOver rfl rfl rfl (by decide +kernel) ⟨Nat.le_of_ble_eq_true rfl, Nat.le_of_ble_eq_true rfl⟩) hP hD hS [0] (by decide) rfl rfl 0 rfl rfl rfl hl.1 rfl (Nat.le_of_ble_eq_true rfl) ⟨Nat.zero_le _, Nat.zero_le _⟩ dX4_wantsNewRack_1 (fun H locs hP hD hS => ?_)
  have hP : va_P D vwCl [(aS, .inr (3, [.ref aTk, .ref aSr, .int rolls, .int frm])), (aTk, .inl (cI 0, 21, .inl tk)), (aSr, .inl (cI 0, 11, .inl sr))] H := hP
  have hD : va_D A [(aS, .inr (3, [.ref aTk, .ref aSr, .int rolls, .int frm])), (aTk, .inl (cI 0, 21, .inl tk)), (aSr, .inl (cI 0, 11, .inl sr))] := hD
  refine lv_if_ne (tgt := 49) hx hb dX4_wantsNewRack_4 (by decide) (fun c9 => ?_) (fun c9 => ?_)
  · have hq := kite_f c9 hq
    exact b_49  _ _ _  hq hP hS (lv_sub hl [] rfl)
  · have hq := kite_t c9 hq
    refine lv_aload_n hx hb dX4_wantsNewRack_7 rfl (lv_at hl 0 rfl) ?_
    refine lv_aload_n hx hb dX4_wantsNewRack_8 rfl (lv_at hl 0 rfl) ?_
    refine va_get (D := D) (ci := 3) (v := .int frm) (C := RX4) (T := TX4) (N := 4) hx hb hts iw_X4_wantsNewRack_X4 hown hK.1 hP 0 rfl rfl 3 (by decide) (hts (.fieldLink RX4 22 "PinDeck$Sheet" "frame" "I") (by decide +kernel)) (fun _ h9 => h9) rfl dX4_wantsNewRack_9 ?_
    obtain ⟨o12, ho12, hq⟩ := kbind hq
    refine kc_Vi (av := [.int frm]) (rest := []) hF hK hG hA (mk_X4_rollsIn l D cI aS aTk aSr H.size rolls frm sr frm o12 ho12) (cwV 1 hts gX4_wantsNewRack_X4_rollsIn rfl rfl rfl (by decide +kernel) ⟨Nat.le_of_ble_eq_true rfl, Nat.le_of_ble_eq_true rfl⟩) hP hD hS [0, 2] (by decide) rfl rfl 0 rfl rfl rfl hl.1 rfl (Nat.le_of_ble_eq_true rfl) ⟨Nat.zero_le _, Nat.zero_le _⟩ dX4_wantsNewRack_12 (fun H locs hP hD hS => ?_)
    have hP : va_P D vwCl [(aS, .inr (3, [.ref aTk, .ref aSr, .int rolls, .int frm])), (aTk, .inl (cI 0, 21, .inl tk)), (aSr, .inl (cI 0, 11, .inl sr))] H := hP
    have hD : va_D A [(aS, .inr (3, [.ref aTk, .ref aSr, .int rolls, .int frm])), (aTk, .inl (cI 0, 21, .inl tk)), (aSr, .inl (cI 0, 11, .inl sr))] := hD
    refine lv_if_eq (tgt := 45) hx hb dX4_wantsNewRack_15 (by decide) (fun c9 => ?_) (fun c9 => ?_)
    · have hq := kite_t c9 hq
      exact b_45  _ _ _  hq hP hS (lv_sub hl [] rfl)
    · have hq := kite_f c9 hq
      refine lv_aload_n hx hb dX4_wantsNewRack_18 rfl (lv_at hl 0 rfl) ?_
      refine lv_aload_n hx hb dX4_wantsNewRack_19 rfl (lv_at hl 0 rfl) ?_
      refine va_get (D := D) (ci := 3) (v := .int rolls) (C := RX4) (T := TX4) (N := 4) hx hb hts iw_X4_wantsNewRack_X4 hown hK.1 hP 0 rfl rfl 2 (by decide) (hts (.fieldLink RX4 18 "PinDeck$Sheet" "rolls" "I") (by decide +kernel)) (fun _ h9 => h9) rfl dX4_wantsNewRack_20 ?_
      refine lv_iconst (v := 1) hx hb dX4_wantsNewRack_23 (by decide) ?_
      refine lv_isub hx hb dX4_wantsNewRack_24 ?_
      obtain ⟨o25, ho25, hq⟩ := kbind hq
      refine kc_Vi (av := [.int (rolls - (1 : Int32))]) (rest := []) hF hK hG hA (mk_X4_takenBy l D cI aS aTk aSr H.size rolls frm tk (rolls - (1 : Int32)) o25 ho25) (cwV 1 hts gX4_wantsNewRack_X4_takenBy rfl rfl rfl (by decide +kernel) ⟨Nat.le_of_ble_eq_true rfl, Nat.le_of_ble_eq_true rfl⟩) hP hD hS [0, 1] (by decide) rfl rfl 0 rfl rfl rfl hl.1 rfl (Nat.le_of_ble_eq_true rfl) ⟨Nat.zero_le _, Nat.zero_le _⟩ dX4_wantsNewRack_25 (fun H locs hP hD hS => ?_)
      have hP : va_P D vwCl [(aS, .inr (3, [.ref aTk, .ref aSr, .int rolls, .int frm])), (aTk, .inl (cI 0, 21, .inl tk)), (aSr, .inl (cI 0, 11, .inl sr))] H := hP
      have hD : va_D A [(aS, .inr (3, [.ref aTk, .ref aSr, .int rolls, .int frm])), (aTk, .inl (cI 0, 21, .inl tk)), (aSr, .inl (cI 0, 11, .inl sr))] := hD
      refine lv_bipush (v := 10) hx hb dX4_wantsNewRack_28 (by decide) ?_
      refine lv_icmp_eq (tgt := 45) hx hb dX4_wantsNewRack_30 (by decide) (fun c9 => ?_) (fun c9 => ?_)
      · have hq := kite_t c9 hq
        exact b_45  _ _ _  hq hP hS (lv_sub hl [] rfl)
      · have hq := kite_f c9 hq
        refine lv_aload_n hx hb dX4_wantsNewRack_33 rfl (lv_at hl 0 rfl) ?_
        refine lv_aload_n hx hb dX4_wantsNewRack_34 rfl (lv_at hl 0 rfl) ?_
        refine va_get (D := D) (ci := 3) (v := .int frm) (C := RX4) (T := TX4) (N := 4) hx hb hts iw_X4_wantsNewRack_X4 hown hK.1 hP 0 rfl rfl 3 (by decide) (hts (.fieldLink RX4 22 "PinDeck$Sheet" "frame" "I") (by decide +kernel)) (fun _ h9 => h9) rfl dX4_wantsNewRack_35 ?_
        obtain ⟨o38, ho38, hq⟩ := kbind hq
        refine kc_Vi (av := [.int frm]) (rest := []) hF hK hG hA (mk_X4_markOf l D cI aS aTk aSr H.size rolls frm tk sr frm o38 ho38) (cwV 1 hts gX4_wantsNewRack_X4_markOf rfl rfl rfl (by decide +kernel) ⟨Nat.le_of_ble_eq_true rfl, Nat.le_of_ble_eq_true rfl⟩) hP hD hS [0, 1, 2] (by decide) rfl rfl 0 rfl rfl rfl hl.1 rfl (Nat.le_of_ble_eq_true rfl) ⟨Nat.zero_le _, Nat.zero_le _⟩ dX4_wantsNewRack_38 (fun H locs hP hD hS => ?_)
        have hP : va_P D vwCl [(aS, .inr (3, [.ref aTk, .ref aSr, .int rolls, .int frm])), (aTk, .inl (cI 0, 21, .inl tk)), (aSr, .inl (cI 0, 11, .inl sr))] H := hP
        have hD : va_D A [(aS, .inr (3, [.ref aTk, .ref aSr, .int rolls, .int frm])), (aTk, .inl (cI 0, 21, .inl tk)), (aSr, .inl (cI 0, 11, .inl sr))] := hD
        refine lv_iconst (v := 2) hx hb dX4_wantsNewRack_41 (by decide) ?_
        refine lv_icmp_ne (tgt := 49) hx hb dX4_wantsNewRack_42 (by decide) (fun c9 => ?_) (fun c9 => ?_)
        · have hq := kite_f c9 hq
          exact b_49  _ _ _  hq hP hS (lv_sub hl [] rfl)
        · have hq := kite_t c9 hq
          exact b_45  _ _ _  hq hP hS (lv_sub hl [] rfl)
