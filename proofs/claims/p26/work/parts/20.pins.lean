/-! Pins: pure functions of its methods, and that the methods answer them (written by wip/whole/gen) -/
theorem iw_X2_newRack_X2 : ∀ w ∈ wsX20, w ∈ wsX2_newRack := by decide +kernel
set_option maxHeartbeats 4000000 in
set_option maxRecDepth 100000 in
theorem mk_X2_newRack (l : Launch) (D : va_G) (cI : Nat → ClassId) (aP aLe aSh : Nat) (sz : Nat) (told : Int32) (wl : Int32) (wr : Int32) (le : kF) (sh : kF) (o : Int32 × kF × kF) (hq : fn_X2_newRack told le sh = some o) : Met l yX2_newRack wsX2_newRack ({ frames := 0, cells := 0, slots := 0, locals := 0 }) (kPc D cI [(aP, .inr (2, [.ref aLe, .ref aSh, .int told, .int wl, .int wr])), (aLe, .inl (cI 0, 10, .inl le)), (aSh, .inl (cI 0, 10, .inl sh))] sz [.ref aP]) (kQv D [(aP, .inr (2, [.ref aLe, .ref aSh, .int told, .int wl, .int wr])), (aLe, .inl (cI 0, 10, .inl le)), (aSh, .inl (cI 0, 10, .inl sh))] [(aP, .inr (2, [.ref aLe, .ref aSh, .int o.1, .int wl, .int wr])), (aLe, .inl (cI 0, 10, .inl o.2.1)), (aSh, .inl (cI 0, 10, .inl o.2.2))] sz) 0 0 (va_A [(aP, .inr (2, [.ref aLe, .ref aSh, .int told, .int wl, .int wr])), (aLe, .inl (cI 0, 10, .inl le)), (aSh, .inl (cI 0, 10, .inl sh))] sz) := by
  refine kM_v (cc := cX2_newRack) (maxL := 2) (by decide +kernel) rfl (Nat.le_of_ble_eq_true rfl) ?_
  intro p e s m args below meth c A Q hF hK hG hD hA hend ls hP hS hl
  obtain ⟨hx, hb, hml, hown, hts⟩ := id hF
  have hl : lv_has ls 2 [(0, .ref aP)] := hl
  have b_2 : ∀ (q : Nat), ∀ (H : Heap) (locs : List Loc) (ls : Array Slot) (told : Int32) (le : kF) (sh : kF) (x1 : Int32), fn_X2_newRack_2 q told le sh x1 = some o → va_P D vwCl [(aP, .inr (2, [.ref aLe, .ref aSh, .int told, .int wl, .int wr])), (aLe, .inl (cI 0, 10, .inl le)), (aSh, .inl (cI 0, 10, .inl sh))] H → va_D A [(aP, .inr (2, [.ref aLe, .ref aSh, .int told, .int wl, .int wr])), (aLe, .inl (cI 0, 10, .inl le)), (aSh, .inl (cI 0, 10, .inl sh))] → va_S A s.heap H locs → lv_has ls 2 [(0, .ref aP), (1, .int x1)] → W p l e { frames := 0, cells := 0, slots := 0, locals := 0 } s m args below meth c H locs 0 0 Q (F0 m 2 ls []) := by
    intro q
    induction q with
    | zero =>
      intro H locs ls told le sh x1
      intro hq
      cases hq
    | succ q ih =>
      intro H locs ls told le sh x1
      intro hq hP hD hS hl
      refine lv_iload_n hx hb dX2_newRack_2 rfl (lv_at hl 1 rfl) ?_
      refine lv_bipush (v := 10) hx hb dX2_newRack_3 (by decide) ?_
      refine lv_icmp_ge (tgt := 28) hx hb dX2_newRack_5 (by decide) (fun c9 => ?_) (fun c9 => ?_)
      · have hq := kite_t c9 hq
        refine lv_aload_n hx hb dX2_newRack_28 rfl (lv_at hl 0 rfl) ?_
        refine lv_sipush (v := 1023) hx hb dX2_newRack_29 (by decide) ?_
        refine va_put (D := D) (ci := 2) (v := .int (1023 : Int32)) (ty := .int) (C := RX2) (T := TX2) (N := 5) hx hb hts iw_X2_newRack_X2 tyX2 tyX2_ok nmX2 hown hK.1 hP hD hS 0 rfl rfl 2 (by decide) (hts (.fieldLink RX2 18 "PinDeck$Pins" "told" "I") (by decide +kernel)) (fun _ h9 => h9) rfl (by decide +kernel) rfl rfl (Nat.le_of_ble_eq_true rfl) dX2_newRack_32 (fun H locs hP hD hS => ?_)
        have hP : va_P D vwCl [(aP, .inr (2, [.ref aLe, .ref aSh, .int (1023 : Int32), .int wl, .int wr])), (aLe, .inl (cI 0, 10, .inl le)), (aSh, .inl (cI 0, 10, .inl sh))] H := hP
        have hD : va_D A [(aP, .inr (2, [.ref aLe, .ref aSh, .int (1023 : Int32), .int wl, .int wr])), (aLe, .inl (cI 0, 10, .inl le)), (aSh, .inl (cI 0, 10, .inl sh))] := hD
        have ho := Option.some.inj hq
        subst ho
        exact hend _ _ _ _ hP hS dX2_newRack_35
      · have hq := kite_f c9 hq
        refine lv_aload_n hx hb dX2_newRack_8 rfl (lv_at hl 0 rfl) ?_
        refine va_get (D := D) (ci := 2) (v := .ref aLe) (C := RX2) (T := TX2) (N := 5) hx hb hts iw_X2_newRack_X2 hown hK.1 hP 0 rfl rfl 0 (by decide) (hts (.fieldLink RX2 9 "PinDeck$Pins" "leaning" "[I") (by decide +kernel)) (fun _ h9 => h9) rfl dX2_newRack_9 ?_
        refine lv_iload_n hx hb dX2_newRack_12 rfl (lv_at hl 1 rfl) ?_
        refine lv_iconst (v := 0) hx hb dX2_newRack_13 (by decide) ?_
        obtain ⟨hz, hq⟩ := kite_n hq
        refine k_iast (j := (x1.toNatClampNeg)) hx hb hK.1 hP hD hS 1 0 rfl rfl hz rfl dX2_newRack_14 (fun H locs hP hD hS => ?_)
        have hP : va_P D vwCl [(aP, .inr (2, [.ref aLe, .ref aSh, .int told, .int wl, .int wr])), (aLe, .inl (cI 0, 10, .inl (upd le (x1.toNatClampNeg) (0 : Int32)))), (aSh, .inl (cI 0, 10, .inl sh))] H := hP
        have hD : va_D A [(aP, .inr (2, [.ref aLe, .ref aSh, .int told, .int wl, .int wr])), (aLe, .inl (cI 0, 10, .inl (upd le (x1.toNatClampNeg) (0 : Int32)))), (aSh, .inl (cI 0, 10, .inl sh))] := hD
        refine lv_aload_n hx hb dX2_newRack_15 rfl (lv_at hl 0 rfl) ?_
        refine va_get (D := D) (ci := 2) (v := .ref aSh) (C := RX2) (T := TX2) (N := 5) hx hb hts iw_X2_newRack_X2 hown hK.1 hP 0 rfl rfl 1 (by decide) (hts (.fieldLink RX2 15 "PinDeck$Pins" "shift" "[I") (by decide +kernel)) (fun _ h9 => h9) rfl dX2_newRack_16 ?_
        refine lv_iload_n hx hb dX2_newRack_19 rfl (lv_at hl 1 rfl) ?_
        refine lv_iconst (v := 0) hx hb dX2_newRack_20 (by decide) ?_
        obtain ⟨hz, hq⟩ := kite_n hq
        refine k_iast (j := (x1.toNatClampNeg)) hx hb hK.1 hP hD hS 2 0 rfl rfl hz rfl dX2_newRack_21 (fun H locs hP hD hS => ?_)
        have hP : va_P D vwCl [(aP, .inr (2, [.ref aLe, .ref aSh, .int told, .int wl, .int wr])), (aLe, .inl (cI 0, 10, .inl (upd le (x1.toNatClampNeg) (0 : Int32)))), (aSh, .inl (cI 0, 10, .inl (upd sh (x1.toNatClampNeg) (0 : Int32))))] H := hP
        have hD : va_D A [(aP, .inr (2, [.ref aLe, .ref aSh, .int told, .int wl, .int wr])), (aLe, .inl (cI 0, 10, .inl (upd le (x1.toNatClampNeg) (0 : Int32)))), (aSh, .inl (cI 0, 10, .inl (upd sh (x1.toNatClampNeg) (0 : Int32))))] := hD
        refine lv_iinc (v := (x1 + 1)) (lv' := [(1, .int (x1 + 1)), (0, .ref aP)]) hx hb dX2_newRack_22 hl (k := 1) rfl rfl (by decide) rfl (fun ls hl => ?_)
        refine lv_goto (tgt := 2) hx hb dX2_newRack_25 (by decide) ?_
        exact ih _ _ _ told (upd le (x1.toNatClampNeg) (0 : Int32)) (upd sh (x1.toNatClampNeg) (0 : Int32)) (x1 + 1) hq hP hD hS (lv_sub hl [1, 0] rfl)
  refine lv_iconst (v := 0) hx hb dX2_newRack_0 (by decide) ?_
  refine lv_istore_n (lv' := [(1, .int (0 : Int32)), (0, .ref aP)]) hx hb dX2_newRack_1 rfl hl (by decide) rfl (fun ls hl => ?_)
  exact b_2 4096 _ _ _ told le sh (0 : Int32) hq hP hD hS (lv_sub hl [1, 0] rfl)

theorem iw_X2_copyFrom_X2 : ∀ w ∈ wsX20, w ∈ wsX2_copyFrom := by decide +kernel
set_option maxHeartbeats 4000000 in
set_option maxRecDepth 100000 in
theorem mk_X2_copyFrom (l : Launch) (D : va_G) (cI : Nat → ClassId) (aP aLe aSh azP azLe azSh : Nat) (sz : Nat) (told : Int32) (wl : Int32) (wr : Int32) (le : kF) (sh : kF) (ztold : Int32) (zwl : Int32) (zwr : Int32) (zle : kF) (zsh : kF) (o : Int32 × kF × kF) (hq : fn_X2_copyFrom told le sh ztold zle zsh = some o) : Met l yX2_copyFrom wsX2_copyFrom ({ frames := 0, cells := 0, slots := 0, locals := 0 }) (kPc D cI [(aP, .inr (2, [.ref aLe, .ref aSh, .int told, .int wl, .int wr])), (aLe, .inl (cI 0, 10, .inl le)), (aSh, .inl (cI 0, 10, .inl sh)), (azP, .inr (2, [.ref azLe, .ref azSh, .int ztold, .int zwl, .int zwr])), (azLe, .inl (cI 0, 10, .inl zle)), (azSh, .inl (cI 0, 10, .inl zsh))] sz [.ref aP, .ref azP]) (kQv D [(aP, .inr (2, [.ref aLe, .ref aSh, .int told, .int wl, .int wr])), (aLe, .inl (cI 0, 10, .inl le)), (aSh, .inl (cI 0, 10, .inl sh)), (azP, .inr (2, [.ref azLe, .ref azSh, .int ztold, .int zwl, .int zwr])), (azLe, .inl (cI 0, 10, .inl zle)), (azSh, .inl (cI 0, 10, .inl zsh))] [(aP, .inr (2, [.ref aLe, .ref aSh, .int o.1, .int wl, .int wr])), (aLe, .inl (cI 0, 10, .inl o.2.1)), (aSh, .inl (cI 0, 10, .inl o.2.2)), (azP, .inr (2, [.ref azLe, .ref azSh, .int ztold, .int zwl, .int zwr])), (azLe, .inl (cI 0, 10, .inl zle)), (azSh, .inl (cI 0, 10, .inl zsh))] sz) 0 0 (va_A [(aP, .inr (2, [.ref aLe, .ref aSh, .int told, .int wl, .int wr])), (aLe, .inl (cI 0, 10, .inl le)), (aSh, .inl (cI 0, 10, .inl sh)), (azP, .inr (2, [.ref azLe, .ref azSh, .int ztold, .int zwl, .int zwr])), (azLe, .inl (cI 0, 10, .inl zle)), (azSh, .inl (cI 0, 10, .inl zsh))] sz) := by
  refine kM_v (cc := cX2_copyFrom) (maxL := 3) (by decide +kernel) rfl (Nat.le_of_ble_eq_true rfl) ?_
  intro p e s m args below meth c A Q hF hK hG hD hA hend ls hP hS hl
  obtain ⟨hx, hb, hml, hown, hts⟩ := id hF
  have hl : lv_has ls 3 [(0, .ref aP), (1, .ref azP)] := hl
  have b_2 : ∀ (q : Nat), ∀ (H : Heap) (locs : List Loc) (ls : Array Slot) (told : Int32) (le : kF) (sh : kF) (x2 : Int32), fn_X2_copyFrom_2 q told le sh ztold zle zsh x2 = some o → va_P D vwCl [(aP, .inr (2, [.ref aLe, .ref aSh, .int told, .int wl, .int wr])), (aLe, .inl (cI 0, 10, .inl le)), (aSh, .inl (cI 0, 10, .inl sh)), (azP, .inr (2, [.ref azLe, .ref azSh, .int ztold, .int zwl, .int zwr])), (azLe, .inl (cI 0, 10, .inl zle)), (azSh, .inl (cI 0, 10, .inl zsh))] H → va_D A [(aP, .inr (2, [.ref aLe, .ref aSh, .int told, .int wl, .int wr])), (aLe, .inl (cI 0, 10, .inl le)), (aSh, .inl (cI 0, 10, .inl sh)), (azP, .inr (2, [.ref azLe, .ref azSh, .int ztold, .int zwl, .int zwr])), (azLe, .inl (cI 0, 10, .inl zle)), (azSh, .inl (cI 0, 10, .inl zsh))] → va_S A s.heap H locs → lv_has ls 3 [(0, .ref aP), (1, .ref azP), (2, .int x2)] → W p l e { frames := 0, cells := 0, slots := 0, locals := 0 } s m args below meth c H locs 0 0 Q (F0 m 2 ls []) := by
    intro q
    induction q with
    | zero =>
      intro H locs ls told le sh x2
      intro hq
      cases hq
    | succ q ih =>
      intro H locs ls told le sh x2
      intro hq hP hD hS hl
      refine lv_iload_n hx hb dX2_copyFrom_2 rfl (lv_at hl 2 rfl) ?_
      refine lv_bipush (v := 10) hx hb dX2_copyFrom_3 (by decide) ?_
      refine lv_icmp_ge (tgt := 38) hx hb dX2_copyFrom_5 (by decide) (fun c9 => ?_) (fun c9 => ?_)
      · have hq := kite_t c9 hq
        refine lv_aload_n hx hb dX2_copyFrom_38 rfl (lv_at hl 0 rfl) ?_
        refine lv_aload_n hx hb dX2_copyFrom_39 rfl (lv_at hl 1 rfl) ?_
        refine va_get (D := D) (ci := 2) (v := .int ztold) (C := RX2) (T := TX2) (N := 5) hx hb hts iw_X2_copyFrom_X2 hown hK.1 hP 3 rfl rfl 2 (by decide) (hts (.fieldLink RX2 18 "PinDeck$Pins" "told" "I") (by decide +kernel)) (fun _ h9 => h9) rfl dX2_copyFrom_40 ?_
        refine va_put (D := D) (ci := 2) (v := .int ztold) (ty := .int) (C := RX2) (T := TX2) (N := 5) hx hb hts iw_X2_copyFrom_X2 tyX2 tyX2_ok nmX2 hown hK.1 hP hD hS 0 rfl rfl 2 (by decide) (hts (.fieldLink RX2 18 "PinDeck$Pins" "told" "I") (by decide +kernel)) (fun _ h9 => h9) rfl (by decide +kernel) rfl rfl (Nat.le_of_ble_eq_true rfl) dX2_copyFrom_43 (fun H locs hP hD hS => ?_)
        have hP : va_P D vwCl [(aP, .inr (2, [.ref aLe, .ref aSh, .int ztold, .int wl, .int wr])), (aLe, .inl (cI 0, 10, .inl le)), (aSh, .inl (cI 0, 10, .inl sh)), (azP, .inr (2, [.ref azLe, .ref azSh, .int ztold, .int zwl, .int zwr])), (azLe, .inl (cI 0, 10, .inl zle)), (azSh, .inl (cI 0, 10, .inl zsh))] H := hP
        have hD : va_D A [(aP, .inr (2, [.ref aLe, .ref aSh, .int ztold, .int wl, .int wr])), (aLe, .inl (cI 0, 10, .inl le)), (aSh, .inl (cI 0, 10, .inl sh)), (azP, .inr (2, [.ref azLe, .ref azSh, .int ztold, .int zwl, .int zwr])), (azLe, .inl (cI 0, 10, .inl zle)), (azSh, .inl (cI 0, 10, .inl zsh))] := hD
        have ho := Option.some.inj hq
        subst ho
        exact hend _ _ _ _ hP hS dX2_copyFrom_46
      · have hq := kite_f c9 hq
        refine lv_aload_n hx hb dX2_copyFrom_8 rfl (lv_at hl 0 rfl) ?_
        refine va_get (D := D) (ci := 2) (v := .ref aLe) (C := RX2) (T := TX2) (N := 5) hx hb hts iw_X2_copyFrom_X2 hown hK.1 hP 0 rfl rfl 0 (by decide) (hts (.fieldLink RX2 9 "PinDeck$Pins" "leaning" "[I") (by decide +kernel)) (fun _ h9 => h9) rfl dX2_copyFrom_9 ?_
        refine lv_iload_n hx hb dX2_copyFrom_12 rfl (lv_at hl 2 rfl) ?_
        refine lv_aload_n hx hb dX2_copyFrom_13 rfl (lv_at hl 1 rfl) ?_
        refine va_get (D := D) (ci := 2) (v := .ref azLe) (C := RX2) (T := TX2) (N := 5) hx hb hts iw_X2_copyFrom_X2 hown hK.1 hP 3 rfl rfl 0 (by decide) (hts (.fieldLink RX2 9 "PinDeck$Pins" "leaning" "[I") (by decide +kernel)) (fun _ h9 => h9) rfl dX2_copyFrom_14 ?_
        refine lv_iload_n hx hb dX2_copyFrom_17 rfl (lv_at hl 2 rfl) ?_
        obtain ⟨hz, hq⟩ := kite_n hq
        refine k_iald (j := (x2.toNatClampNeg)) hx hb hK.1 hP 4 0 rfl rfl hz rfl dX2_copyFrom_18 ?_
        obtain ⟨hz, hq⟩ := kite_n hq
        refine k_iast (j := (x2.toNatClampNeg)) hx hb hK.1 hP hD hS 1 0 rfl rfl hz rfl dX2_copyFrom_19 (fun H locs hP hD hS => ?_)
        have hP : va_P D vwCl [(aP, .inr (2, [.ref aLe, .ref aSh, .int told, .int wl, .int wr])), (aLe, .inl (cI 0, 10, .inl (upd le (x2.toNatClampNeg) (zle (x2.toNatClampNeg))))), (aSh, .inl (cI 0, 10, .inl sh)), (azP, .inr (2, [.ref azLe, .ref azSh, .int ztold, .int zwl, .int zwr])), (azLe, .inl (cI 0, 10, .inl zle)), (azSh, .inl (cI 0, 10, .inl zsh))] H := hP
        have hD : va_D A [(aP, .inr (2, [.ref aLe, .ref aSh, .int told, .int wl, .int wr])), (aLe, .inl (cI 0, 10, .inl (upd le (x2.toNatClampNeg) (zle (x2.toNatClampNeg))))), (aSh, .inl (cI 0, 10, .inl sh)), (azP, .inr (2, [.ref azLe, .ref azSh, .int ztold, .int zwl, .int zwr])), (azLe, .inl (cI 0, 10, .inl zle)), (azSh, .inl (cI 0, 10, .inl zsh))] := hD
        refine lv_aload_n hx hb dX2_copyFrom_20 rfl (lv_at hl 0 rfl) ?_
        refine va_get (D := D) (ci := 2) (v := .ref aSh) (C := RX2) (T := TX2) (N := 5) hx hb hts iw_X2_copyFrom_X2 hown hK.1 hP 0 rfl rfl 1 (by decide) (hts (.fieldLink RX2 15 "PinDeck$Pins" "shift" "[I") (by decide +kernel)) (fun _ h9 => h9) rfl dX2_copyFrom_21 ?_
        refine lv_iload_n hx hb dX2_copyFrom_24 rfl (lv_at hl 2 rfl) ?_
        refine lv_aload_n hx hb dX2_copyFrom_25 rfl (lv_at hl 1 rfl) ?_
        refine va_get (D := D) (ci := 2) (v := .ref azSh) (C := RX2) (T := TX2) (N := 5) hx hb hts iw_X2_copyFrom_X2 hown hK.1 hP 3 rfl rfl 1 (by decide) (hts (.fieldLink RX2 15 "PinDeck$Pins" "shift" "[I") (by decide +kernel)) (fun _ h9 => h9) rfl dX2_copyFrom_26 ?_
        refine lv_iload_n hx hb dX2_copyFrom_29 rfl (lv_at hl 2 rfl) ?_
        obtain ⟨hz, hq⟩ := kite_n hq
        refine k_iald (j := (x2.toNatClampNeg)) hx hb hK.1 hP 5 0 rfl rfl hz rfl dX2_copyFrom_30 ?_
        obtain ⟨hz, hq⟩ := kite_n hq
        refine k_iast (j := (x2.toNatClampNeg)) hx hb hK.1 hP hD hS 2 0 rfl rfl hz rfl dX2_copyFrom_31 (fun H locs hP hD hS => ?_)
        have hP : va_P D vwCl [(aP, .inr (2, [.ref aLe, .ref aSh, .int told, .int wl, .int wr])), (aLe, .inl (cI 0, 10, .inl (upd le (x2.toNatClampNeg) (zle (x2.toNatClampNeg))))), (aSh, .inl (cI 0, 10, .inl (upd sh (x2.toNatClampNeg) (zsh (x2.toNatClampNeg))))), (azP, .inr (2, [.ref azLe, .ref azSh, .int ztold, .int zwl, .int zwr])), (azLe, .inl (cI 0, 10, .inl zle)), (azSh, .inl (cI 0, 10, .inl zsh))] H := hP
        have hD : va_D A [(aP, .inr (2, [.ref aLe, .ref aSh, .int told, .int wl, .int wr])), (aLe, .inl (cI 0, 10, .inl (upd le (x2.toNatClampNeg) (zle (x2.toNatClampNeg))))), (aSh, .inl (cI 0, 10, .inl (upd sh (x2.toNatClampNeg) (zsh (x2.toNatClampNeg))))), (azP, .inr (2, [.ref azLe, .ref azSh, .int ztold, .int zwl, .int zwr])), (azLe, .inl (cI 0, 10, .inl zle)), (azSh, .inl (cI 0, 10, .inl zsh))] := hD
        refine lv_iinc (v := (x2 + 1)) (lv' := [(2, .int (x2 + 1)), (0, .ref aP), (1, .ref azP)]) hx hb dX2_copyFrom_32 hl (k := 2) rfl rfl (by decide) rfl (fun ls hl => ?_)
        refine lv_goto (tgt := 2) hx hb dX2_copyFrom_35 (by decide) ?_
        exact ih _ _ _ told (upd le (x2.toNatClampNeg) (zle (x2.toNatClampNeg))) (upd sh (x2.toNatClampNeg) (zsh (x2.toNatClampNeg))) (x2 + 1) hq hP hD hS (lv_sub hl [1, 2, 0] rfl)
  refine lv_iconst (v := 0) hx hb dX2_copyFrom_0 (by decide) ?_
  refine lv_istore_n (lv' := [(2, .int (0 : Int32)), (0, .ref aP), (1, .ref azP)]) hx hb dX2_copyFrom_1 rfl hl (by decide) rfl (fun ls hl => ?_)
  exact b_2 4096 _ _ _ told le sh (0 : Int32) hq hP hD hS (lv_sub hl [1, 2, 0] rfl)

theorem iw_X2_isUp_X2 : ∀ w ∈ wsX20, w ∈ wsX2_isUp := by decide +kernel
set_option maxHeartbeats 4000000 in
set_option maxRecDepth 100000 in
theorem mk_X2_isUp (l : Launch) (D : va_G) (cI : Nat → ClassId) (aP aLe aSh : Nat) (sz : Nat) (told : Int32) (wl : Int32) (wr : Int32) (le : kF) (x1 : Int32) (o : Int32) (hq : fn_X2_isUp le x1 = some o) : Met l yX2_isUp wsX2_isUp ({ frames := 0, cells := 0, slots := 0, locals := 0 }) (kPc D cI [(aP, .inr (2, [.ref aLe, .ref aSh, .int told, .int wl, .int wr])), (aLe, .inl (cI 0, 10, .inl le))] sz [.ref aP, .int x1]) (kQi D [(aP, .inr (2, [.ref aLe, .ref aSh, .int told, .int wl, .int wr])), (aLe, .inl (cI 0, 10, .inl le))] [(aP, .inr (2, [.ref aLe, .ref aSh, .int told, .int wl, .int wr])), (aLe, .inl (cI 0, 10, .inl le))] sz o) 0 0 (va_A [(aP, .inr (2, [.ref aLe, .ref aSh, .int told, .int wl, .int wr])), (aLe, .inl (cI 0, 10, .inl le))] sz) := by
  refine kM_z (cc := cX2_isUp) (maxL := 2) (by decide +kernel) rfl (Nat.le_of_ble_eq_true rfl) ?_
  intro p e s m args below meth c A Q hF hK hG hD hA hend ls hP hS hl
  obtain ⟨hx, hb, hml, hown, hts⟩ := id hF
  have hl : lv_has ls 2 [(0, .ref aP), (1, .int x1)] := hl
  have b_25 : ∀ (H : Heap) (locs : List Loc) (ls : Array Slot) (k0 : Int32), fn_X2_isUp_25 le k0 = some o → va_P D vwCl [(aP, .inr (2, [.ref aLe, .ref aSh, .int told, .int wl, .int wr])), (aLe, .inl (cI 0, 10, .inl le))] H → va_S A s.heap H locs → lv_has ls 2 [] → W p l e { frames := 0, cells := 0, slots := 0, locals := 0 } s m args below meth c H locs 0 0 Q (F0 m 25 ls [.int k0]) := by
    intro H locs ls k0
    intro hq hP hS hl
    obtain ⟨hz, hq⟩ := kite_b hq
    have ho := Option.some.inj hq
    subst ho
    exact hend _ _ _ _ hz hP hS dX2_isUp_25
  have b_24 : ∀ (H : Heap) (locs : List Loc) (ls : Array Slot), fn_X2_isUp_24 le = some o → va_P D vwCl [(aP, .inr (2, [.ref aLe, .ref aSh, .int told, .int wl, .int wr])), (aLe, .inl (cI 0, 10, .inl le))] H → va_S A s.heap H locs → lv_has ls 2 [] → W p l e { frames := 0, cells := 0, slots := 0, locals := 0 } s m args below meth c H locs 0 0 Q (F0 m 24 ls []) := by
    intro H locs ls 
    intro hq hP hS hl
    refine lv_iconst (v := 0) hx hb dX2_isUp_24 (by decide) ?_
    exact b_25  _ _ _ (0 : Int32) hq hP hS (lv_sub hl [] rfl)
  refine lv_iload_n hx hb dX2_isUp_0 rfl (lv_at hl 1 rfl) ?_
  refine lv_if_lt (tgt := 24) hx hb dX2_isUp_1 (by decide) (fun c9 => ?_) (fun c9 => ?_)
  · have hq := kite_t c9 hq
    exact b_24  _ _ _  hq hP hS (lv_sub hl [] rfl)
  · have hq := kite_f c9 hq
    refine lv_iload_n hx hb dX2_isUp_4 rfl (lv_at hl 1 rfl) ?_
    refine lv_bipush (v := 10) hx hb dX2_isUp_5 (by decide) ?_
    refine lv_icmp_ge (tgt := 24) hx hb dX2_isUp_7 (by decide) (fun c9 => ?_) (fun c9 => ?_)
    · have hq := kite_t c9 hq
      exact b_24  _ _ _  hq hP hS (lv_sub hl [] rfl)
    · have hq := kite_f c9 hq
      refine lv_aload_n hx hb dX2_isUp_10 rfl (lv_at hl 0 rfl) ?_
      refine va_get (D := D) (ci := 2) (v := .ref aLe) (C := RX2) (T := TX2) (N := 5) hx hb hts iw_X2_isUp_X2 hown hK.1 hP 0 rfl rfl 0 (by decide) (hts (.fieldLink RX2 9 "PinDeck$Pins" "leaning" "[I") (by decide +kernel)) (fun _ h9 => h9) rfl dX2_isUp_11 ?_
      refine lv_iload_n hx hb dX2_isUp_14 rfl (lv_at hl 1 rfl) ?_
      obtain ⟨hz, hq⟩ := kite_n hq
      refine k_iald (j := (x1.toNatClampNeg)) hx hb hK.1 hP 1 0 rfl rfl hz rfl dX2_isUp_15 ?_
      refine lv_iconst (v := 4) hx hb dX2_isUp_16 (by decide) ?_
      refine lv_icmp_ge (tgt := 24) hx hb dX2_isUp_17 (by decide) (fun c9 => ?_) (fun c9 => ?_)
      · have hq := kite_t c9 hq
        exact b_24  _ _ _  hq hP hS (lv_sub hl [] rfl)
      · have hq := kite_f c9 hq
        refine lv_iconst (v := 1) hx hb dX2_isUp_20 (by decide) ?_
        refine lv_goto (tgt := 25) hx hb dX2_isUp_21 (by decide) ?_
        exact b_25  _ _ _ (1 : Int32) hq hP hS (lv_sub hl [] rfl)

set_option maxHeartbeats 4000000 in
set_option maxRecDepth 100000 in
theorem mk_X7_isPin (l : Launch) (D : va_G) (cI : Nat → ClassId) (sz : Nat) (x0 : Int32) (o : Int32) (hq : fn_X7_isPin x0 = some o) : Met l yX7_isPin wsX7_isPin ({ frames := 0, cells := 0, slots := 0, locals := 0 }) (kPc D cI [] sz [.int x0]) (kQi D [] [] sz o) 0 0 (va_A [] sz) := by
  refine kM_z (cc := cX7_isPin) (maxL := 1) (by decide +kernel) rfl (Nat.le_of_ble_eq_true rfl) ?_
  intro p e s m args below meth c A Q hF hK hG hD hA hend ls hP hS hl
  obtain ⟨hx, hb, hml, hown, hts⟩ := id hF
  have hl : lv_has ls 1 [(0, .int x0)] := hl
  have b_15 : ∀ (H : Heap) (locs : List Loc) (ls : Array Slot) (k0 : Int32), fn_X7_isPin_15 k0 = some o → va_P D vwCl [] H → va_S A s.heap H locs → lv_has ls 1 [] → W p l e { frames := 0, cells := 0, slots := 0, locals := 0 } s m args below meth c H locs 0 0 Q (F0 m 15 ls [.int k0]) := by
    intro H locs ls k0
    intro hq hP hS hl
    obtain ⟨hz, hq⟩ := kite_b hq
    have ho := Option.some.inj hq
    subst ho
    exact hend _ _ _ _ hz hP hS dX7_isPin_15
  have b_14 : ∀ (H : Heap) (locs : List Loc) (ls : Array Slot), fn_X7_isPin_14  = some o → va_P D vwCl [] H → va_S A s.heap H locs → lv_has ls 1 [] → W p l e { frames := 0, cells := 0, slots := 0, locals := 0 } s m args below meth c H locs 0 0 Q (F0 m 14 ls []) := by
    intro H locs ls 
    intro hq hP hS hl
    refine lv_iconst (v := 0) hx hb dX7_isPin_14 (by decide) ?_
    exact b_15  _ _ _ (0 : Int32) hq hP hS (lv_sub hl [] rfl)
  refine lv_iload_n hx hb dX7_isPin_0 rfl (lv_at hl 0 rfl) ?_
  refine lv_if_lt (tgt := 14) hx hb dX7_isPin_1 (by decide) (fun c9 => ?_) (fun c9 => ?_)
  · have hq := kite_t c9 hq
    exact b_14  _ _ _  hq hP hS (lv_sub hl [] rfl)
  · have hq := kite_f c9 hq
    refine lv_iload_n hx hb dX7_isPin_4 rfl (lv_at hl 0 rfl) ?_
    refine lv_bipush (v := 10) hx hb dX7_isPin_5 (by decide) ?_
    refine lv_icmp_ge (tgt := 14) hx hb dX7_isPin_7 (by decide) (fun c9 => ?_) (fun c9 => ?_)
    · have hq := kite_t c9 hq
      exact b_14  _ _ _  hq hP hS (lv_sub hl [] rfl)
    · have hq := kite_f c9 hq
      refine lv_iconst (v := 1) hx hb dX7_isPin_10 (by decide) ?_
      refine lv_goto (tgt := 15) hx hb dX7_isPin_11 (by decide) ?_
      exact b_15  _ _ _ (1 : Int32) hq hP hS (lv_sub hl [] rfl)

theorem iw_X2_leaningOf_X2 : ∀ w ∈ wsX20, w ∈ wsX2_leaningOf := by decide +kernel
set_option maxHeartbeats 4000000 in
set_option maxRecDepth 100000 in
theorem mk_X2_leaningOf (l : Launch) (D : va_G) (cI : Nat → ClassId) (aP aLe aSh : Nat) (sz : Nat) (told : Int32) (wl : Int32) (wr : Int32) (le : kF) (x1 : Int32) (o : Int32) (hq : fn_X2_leaningOf le x1 = some o) : Met l yX2_leaningOf wsX2_leaningOf ({ frames := 1, cells := 0, slots := 0, locals := 20 }) (kPc D cI [(aP, .inr (2, [.ref aLe, .ref aSh, .int told, .int wl, .int wr])), (aLe, .inl (cI 0, 10, .inl le))] sz [.ref aP, .int x1]) (kQi D [(aP, .inr (2, [.ref aLe, .ref aSh, .int told, .int wl, .int wr])), (aLe, .inl (cI 0, 10, .inl le))] [(aP, .inr (2, [.ref aLe, .ref aSh, .int told, .int wl, .int wr])), (aLe, .inl (cI 0, 10, .inl le))] sz o) 0 0 (va_A [(aP, .inr (2, [.ref aLe, .ref aSh, .int told, .int wl, .int wr])), (aLe, .inl (cI 0, 10, .inl le))] sz) := by
  refine kM_i (cc := cX2_leaningOf) (maxL := 2) (by decide +kernel) rfl (Nat.le_of_ble_eq_true rfl) ?_
  intro p e s m args below meth c A Q hF hK hG hD hA hend ls hP hS hl
  obtain ⟨hx, hb, hml, hown, hts⟩ := id hF
  have hl : lv_has ls 2 [(0, .ref aP), (1, .int x1)] := hl
  have b_17 : ∀ (H : Heap) (locs : List Loc) (ls : Array Slot) (k0 : Int32), fn_X2_leaningOf_17 le k0 = some o → va_P D vwCl [(aP, .inr (2, [.ref aLe, .ref aSh, .int told, .int wl, .int wr])), (aLe, .inl (cI 0, 10, .inl le))] H → va_S A s.heap H locs → lv_has ls 2 [] → W p l e { frames := 1, cells := 0, slots := 0, locals := 20 } s m args below meth c H locs 0 0 Q (F0 m 17 ls [.int k0]) := by
    intro H locs ls k0
    intro hq hP hS hl
    have ho := Option.some.inj hq
    subst ho
    exact hend _ _ _ _ hP hS dX2_leaningOf_17
  refine lv_iload_n hx hb dX2_leaningOf_0 rfl (lv_at hl 1 rfl) ?_
  obtain ⟨o1, ho1, hq⟩ := kbind hq
  refine kc_Ni (av := [.int x1]) (rest := []) hF hK hG hA (mk_X7_isPin l D cI s.heap.size x1 o1 ho1) ⟨va_cnB 1 hts gX2_leaningOf_X7_isPin_n22 rfl rfl rfl (hK.2.1 (.methodLinkNest "PinDeck$Pins" 22 ⟨"PinDeck", "isPin", "(I)Z"⟩ "PinDeck") (by decide +kernel)) (hts (.initialized RX7) (by decide +kernel)) (by decide +kernel) ⟨Nat.le_of_ble_eq_true rfl, Nat.le_of_ble_eq_true rfl⟩, hts (.static yX7_isPin) (by decide +kernel), trivial⟩ hP hD hS [] (by decide) rfl rfl rfl hl.1 rfl (Nat.le_of_ble_eq_true rfl) ⟨Nat.zero_le _, Nat.zero_le _⟩ dX2_leaningOf_1 (fun H locs hP hD hS => ?_)
  have hP : va_P D vwCl [(aP, .inr (2, [.ref aLe, .ref aSh, .int told, .int wl, .int wr])), (aLe, .inl (cI 0, 10, .inl le))] H := hP
  have hD : va_D A [(aP, .inr (2, [.ref aLe, .ref aSh, .int told, .int wl, .int wr])), (aLe, .inl (cI 0, 10, .inl le))] := hD
  refine lv_if_eq (tgt := 16) hx hb dX2_leaningOf_4 (by decide) (fun c9 => ?_) (fun c9 => ?_)
  · have hq := kite_t c9 hq
    refine lv_iconst (v := 4) hx hb dX2_leaningOf_16 (by decide) ?_
    exact b_17  _ _ _ (4 : Int32) hq hP hS (lv_sub hl [] rfl)
  · have hq := kite_f c9 hq
    refine lv_aload_n hx hb dX2_leaningOf_7 rfl (lv_at hl 0 rfl) ?_
    refine va_get (D := D) (ci := 2) (v := .ref aLe) (C := RX2) (T := TX2) (N := 5) hx hb hts iw_X2_leaningOf_X2 hown hK.1 hP 0 rfl rfl 0 (by decide) (hts (.fieldLink RX2 9 "PinDeck$Pins" "leaning" "[I") (by decide +kernel)) (fun _ h9 => h9) rfl dX2_leaningOf_8 ?_
    refine lv_iload_n hx hb dX2_leaningOf_11 rfl (lv_at hl 1 rfl) ?_
    obtain ⟨hz, hq⟩ := kite_n hq
    refine k_iald (j := (x1.toNatClampNeg)) hx hb hK.1 hP 1 0 rfl rfl hz rfl dX2_leaningOf_12 ?_
    refine lv_goto (tgt := 17) hx hb dX2_leaningOf_13 (by decide) ?_
    exact b_17  _ _ _ (le (x1.toNatClampNeg)) hq hP hS (lv_sub hl [] rfl)

theorem iw_X2_shiftOf_X2 : ∀ w ∈ wsX20, w ∈ wsX2_shiftOf := by decide +kernel
set_option maxHeartbeats 4000000 in
set_option maxRecDepth 100000 in
theorem mk_X2_shiftOf (l : Launch) (D : va_G) (cI : Nat → ClassId) (aP aLe aSh : Nat) (sz : Nat) (told : Int32) (wl : Int32) (wr : Int32) (sh : kF) (x1 : Int32) (o : Int32) (hq : fn_X2_shiftOf sh x1 = some o) : Met l yX2_shiftOf wsX2_shiftOf ({ frames := 1, cells := 0, slots := 0, locals := 20 }) (kPc D cI [(aP, .inr (2, [.ref aLe, .ref aSh, .int told, .int wl, .int wr])), (aSh, .inl (cI 0, 10, .inl sh))] sz [.ref aP, .int x1]) (kQi D [(aP, .inr (2, [.ref aLe, .ref aSh, .int told, .int wl, .int wr])), (aSh, .inl (cI 0, 10, .inl sh))] [(aP, .inr (2, [.ref aLe, .ref aSh, .int told, .int wl, .int wr])), (aSh, .inl (cI 0, 10, .inl sh))] sz o) 0 0 (va_A [(aP, .inr (2, [.ref aLe, .ref aSh, .int told, .int wl, .int wr])), (aSh, .inl (cI 0, 10, .inl sh))] sz) := by
  refine kM_i (cc := cX2_shiftOf) (maxL := 2) (by decide +kernel) rfl (Nat.le_of_ble_eq_true rfl) ?_
  intro p e s m args below meth c A Q hF hK hG hD hA hend ls hP hS hl
  obtain ⟨hx, hb, hml, hown, hts⟩ := id hF
  have hl : lv_has ls 2 [(0, .ref aP), (1, .int x1)] := hl
  have b_17 : ∀ (H : Heap) (locs : List Loc) (ls : Array Slot) (k0 : Int32), fn_X2_shiftOf_17 sh k0 = some o → va_P D vwCl [(aP, .inr (2, [.ref aLe, .ref aSh, .int told, .int wl, .int wr])), (aSh, .inl (cI 0, 10, .inl sh))] H → va_S A s.heap H locs → lv_has ls 2 [] → W p l e { frames := 1, cells := 0, slots := 0, locals := 20 } s m args below meth c H locs 0 0 Q (F0 m 17 ls [.int k0]) := by
    intro H locs ls k0
    intro hq hP hS hl
    have ho := Option.some.inj hq
    subst ho
    exact hend _ _ _ _ hP hS dX2_shiftOf_17
  refine lv_iload_n hx hb dX2_shiftOf_0 rfl (lv_at hl 1 rfl) ?_
  obtain ⟨o1, ho1, hq⟩ := kbind hq
  refine kc_Ni (av := [.int x1]) (rest := []) hF hK hG hA (mk_X7_isPin l D cI s.heap.size x1 o1 ho1) ⟨va_cnB 1 hts gX2_shiftOf_X7_isPin_n22 rfl rfl rfl (hK.2.1 (.methodLinkNest "PinDeck$Pins" 22 ⟨"PinDeck", "isPin", "(I)Z"⟩ "PinDeck") (by decide +kernel)) (hts (.initialized RX7) (by decide +kernel)) (by decide +kernel) ⟨Nat.le_of_ble_eq_true rfl, Nat.le_of_ble_eq_true rfl⟩, hts (.static yX7_isPin) (by decide +kernel), trivial⟩ hP hD hS [] (by decide) rfl rfl rfl hl.1 rfl (Nat.le_of_ble_eq_true rfl) ⟨Nat.zero_le _, Nat.zero_le _⟩ dX2_shiftOf_1 (fun H locs hP hD hS => ?_)
  have hP : va_P D vwCl [(aP, .inr (2, [.ref aLe, .ref aSh, .int told, .int wl, .int wr])), (aSh, .inl (cI 0, 10, .inl sh))] H := hP
  have hD : va_D A [(aP, .inr (2, [.ref aLe, .ref aSh, .int told, .int wl, .int wr])), (aSh, .inl (cI 0, 10, .inl sh))] := hD
  refine lv_if_eq (tgt := 16) hx hb dX2_shiftOf_4 (by decide) (fun c9 => ?_) (fun c9 => ?_)
  · have hq := kite_t c9 hq
    refine lv_iconst (v := 0) hx hb dX2_shiftOf_16 (by decide) ?_
    exact b_17  _ _ _ (0 : Int32) hq hP hS (lv_sub hl [] rfl)
  · have hq := kite_f c9 hq
    refine lv_aload_n hx hb dX2_shiftOf_7 rfl (lv_at hl 0 rfl) ?_
    refine va_get (D := D) (ci := 2) (v := .ref aSh) (C := RX2) (T := TX2) (N := 5) hx hb hts iw_X2_shiftOf_X2 hown hK.1 hP 0 rfl rfl 1 (by decide) (hts (.fieldLink RX2 15 "PinDeck$Pins" "shift" "[I") (by decide +kernel)) (fun _ h9 => h9) rfl dX2_shiftOf_8 ?_
    refine lv_iload_n hx hb dX2_shiftOf_11 rfl (lv_at hl 1 rfl) ?_
    obtain ⟨hz, hq⟩ := kite_n hq
    refine k_iald (j := (x1.toNatClampNeg)) hx hb hK.1 hP 1 0 rfl rfl hz rfl dX2_shiftOf_12 ?_
    refine lv_goto (tgt := 17) hx hb dX2_shiftOf_13 (by decide) ?_
    exact b_17  _ _ _ (sh (x1.toNatClampNeg)) hq hP hS (lv_sub hl [] rfl)

theorem iw_X2_boardOf_X2 : ∀ w ∈ wsX20, w ∈ wsX2_boardOf := by decide +kernel
set_option maxHeartbeats 4000000 in
set_option maxRecDepth 100000 in
theorem mk_X2_boardOf (l : Launch) (D : va_G) (cI : Nat → ClassId) (aP aLe aSh : Nat) (sz : Nat) (told : Int32) (wl : Int32) (wr : Int32) (sh : kF) (x1 : Int32) (o : Int32) (hq : fn_X2_boardOf sh x1 = some o) : Met l yX2_boardOf wsX2_boardOf ({ frames := 0, cells := 0, slots := 0, locals := 0 }) (kPc D cI [(aP, .inr (2, [.ref aLe, .ref aSh, .int told, .int wl, .int wr])), (aSh, .inl (cI 0, 10, .inl sh))] sz [.ref aP, .int x1]) (kQi D [(aP, .inr (2, [.ref aLe, .ref aSh, .int told, .int wl, .int wr])), (aSh, .inl (cI 0, 10, .inl sh))] [(aP, .inr (2, [.ref aLe, .ref aSh, .int told, .int wl, .int wr])), (aSh, .inl (cI 0, 10, .inl sh))] sz o) 0 0 (va_A [(aP, .inr (2, [.ref aLe, .ref aSh, .int told, .int wl, .int wr])), (aSh, .inl (cI 0, 10, .inl sh))] sz) := by
  refine kM_i (cc := cX2_boardOf) (maxL := 2) (by decide +kernel) rfl (Nat.le_of_ble_eq_true rfl) ?_
  intro p e s m args below meth c A Q hF hK hG hD hA hend ls hP hS hl
  obtain ⟨hx, hb, hml, hown, hts⟩ := id hF
  obtain ⟨⟨tHB, hZ9, hT9⟩, -, -⟩ := id hG
  have hl : lv_has ls 2 [(0, .ref aP), (1, .int x1)] := hl
  have b_26 : ∀ (H : Heap) (locs : List Loc) (ls : Array Slot) (k0 : Int32), fn_X2_boardOf_26 sh k0 = some o → va_P D vwCl [(aP, .inr (2, [.ref aLe, .ref aSh, .int told, .int wl, .int wr])), (aSh, .inl (cI 0, 10, .inl sh))] H → va_S A s.heap H locs → lv_has ls 2 [] → W p l e { frames := 0, cells := 0, slots := 0, locals := 0 } s m args below meth c H locs 0 0 Q (F0 m 26 ls [.int k0]) := by
    intro H locs ls k0
    intro hq hP hS hl
    have ho := Option.some.inj hq
    subst ho
    exact hend _ _ _ _ hP hS dX2_boardOf_26
  have b_25 : ∀ (H : Heap) (locs : List Loc) (ls : Array Slot), fn_X2_boardOf_25 sh = some o → va_P D vwCl [(aP, .inr (2, [.ref aLe, .ref aSh, .int told, .int wl, .int wr])), (aSh, .inl (cI 0, 10, .inl sh))] H → va_S A s.heap H locs → lv_has ls 2 [] → W p l e { frames := 0, cells := 0, slots := 0, locals := 0 } s m args below meth c H locs 0 0 Q (F0 m 25 ls []) := by
    intro H locs ls 
    intro hq hP hS hl
    refine lv_iconst (v := 0) hx hb dX2_boardOf_25 (by decide) ?_
    exact b_26  _ _ _ (0 : Int32) hq hP hS (lv_sub hl [] rfl)
  refine lv_iload_n hx hb dX2_boardOf_0 rfl (lv_at hl 1 rfl) ?_
  refine lv_if_lt (tgt := 25) hx hb dX2_boardOf_1 (by decide) (fun c9 => ?_) (fun c9 => ?_)
  · have hq := kite_t c9 hq
    exact b_25  _ _ _  hq hP hS (lv_sub hl [] rfl)
  · have hq := kite_f c9 hq
    refine lv_iload_n hx hb dX2_boardOf_4 rfl (lv_at hl 1 rfl) ?_
    refine lv_bipush (v := 10) hx hb dX2_boardOf_5 (by decide) ?_
    refine lv_icmp_ge (tgt := 25) hx hb dX2_boardOf_7 (by decide) (fun c9 => ?_) (fun c9 => ?_)
    · have hq := kite_t c9 hq
      exact b_25  _ _ _  hq hP hS (lv_sub hl [] rfl)
    · have hq := kite_f c9 hq
      refine va_getsN hx hb hZ9 hS hown (hK.2.1.at (w := .fieldLinkNest "PinDeck$Pins" 26 "PinDeck" "HOME_BOARD" "[I" "PinDeck") (by decide +kernel)) (fun _ h9 => h9) dX2_boardOf_10 ?_
      refine lv_iload_n hx hb dX2_boardOf_13 rfl (lv_at hl 1 rfl) ?_
      obtain ⟨hz, hq⟩ := kite_n hq
      refine va_ti (v := .int (kHB x1.toNatClampNeg)) hx hb hT9 hS hz rfl dX2_boardOf_14 ?_
      refine lv_aload_n hx hb dX2_boardOf_15 rfl (lv_at hl 0 rfl) ?_
      refine va_get (D := D) (ci := 2) (v := .ref aSh) (C := RX2) (T := TX2) (N := 5) hx hb hts iw_X2_boardOf_X2 hown hK.1 hP 0 rfl rfl 1 (by decide) (hts (.fieldLink RX2 15 "PinDeck$Pins" "shift" "[I") (by decide +kernel)) (fun _ h9 => h9) rfl dX2_boardOf_16 ?_
      refine lv_iload_n hx hb dX2_boardOf_19 rfl (lv_at hl 1 rfl) ?_
      obtain ⟨hz, hq⟩ := kite_n hq
      refine k_iald (j := (x1.toNatClampNeg)) hx hb hK.1 hP 1 0 rfl rfl hz rfl dX2_boardOf_20 ?_
      refine lv_iadd hx hb dX2_boardOf_21 ?_
      refine lv_goto (tgt := 26) hx hb dX2_boardOf_22 (by decide) ?_
      exact b_26  _ _ _ ((kHB x1.toNatClampNeg) + (sh (x1.toNatClampNeg))) hq hP hS (lv_sub hl [] rfl)

theorem iw_X2_makeLean_X2 : ∀ w ∈ wsX20, w ∈ wsX2_makeLean := by decide +kernel
set_option maxHeartbeats 4000000 in
set_option maxRecDepth 100000 in
theorem mk_X2_makeLean (l : Launch) (D : va_G) (cI : Nat → ClassId) (aP aLe aSh : Nat) (sz : Nat) (told : Int32) (wl : Int32) (wr : Int32) (le : kF) (x1 : Int32) (x2 : Int32) (o : Int32 × kF) (hq : fn_X2_makeLean le x1 x2 = some o) : Met l yX2_makeLean wsX2_makeLean ({ frames := 2, cells := 0, slots := 0, locals := 41 }) (kPc D cI [(aP, .inr (2, [.ref aLe, .ref aSh, .int told, .int wl, .int wr])), (aLe, .inl (cI 0, 10, .inl le))] sz [.ref aP, .int x1, .int x2]) (kQi D [(aP, .inr (2, [.ref aLe, .ref aSh, .int told, .int wl, .int wr])), (aLe, .inl (cI 0, 10, .inl le))] [(aP, .inr (2, [.ref aLe, .ref aSh, .int told, .int wl, .int wr])), (aLe, .inl (cI 0, 10, .inl o.2))] sz o.1) 0 0 (va_A [(aP, .inr (2, [.ref aLe, .ref aSh, .int told, .int wl, .int wr])), (aLe, .inl (cI 0, 10, .inl le))] sz) := by
  refine kM_i (cc := cX2_makeLean) (maxL := 4) (by decide +kernel) rfl (Nat.le_of_ble_eq_true rfl) ?_
  intro p e s m args below meth c A Q hF hK hG hD hA hend ls hP hS hl
  obtain ⟨hx, hb, hml, hown, hts⟩ := id hF
  have hl : lv_has ls 4 [(0, .ref aP), (1, .int x1), (2, .int x2)] := hl
  have b_21 : ∀ (H : Heap) (locs : List Loc) (ls : Array Slot) (le : kF) (x3 : Int32), fn_X2_makeLean_21 le x3 = some o → va_P D vwCl [(aP, .inr (2, [.ref aLe, .ref aSh, .int told, .int wl, .int wr])), (aLe, .inl (cI 0, 10, .inl le))] H → va_D A [(aP, .inr (2, [.ref aLe, .ref aSh, .int told, .int wl, .int wr])), (aLe, .inl (cI 0, 10, .inl le))] → va_S A s.heap H locs → lv_has ls 4 [(3, .int x3)] → W p l e { frames := 2, cells := 0, slots := 0, locals := 41 } s m args below meth c H locs 0 0 Q (F0 m 21 ls []) := by
    intro H locs ls le x3
    intro hq hP hD hS hl
    refine lv_iload_n hx hb dX2_makeLean_21 rfl (lv_at hl 0 rfl) ?_
    have ho := Option.some.inj hq
    subst ho
    exact hend _ _ _ _ hP hS dX2_makeLean_22
  refine lv_aload_n hx hb dX2_makeLean_0 rfl (lv_at hl 0 rfl) ?_
  refine lv_iload_n hx hb dX2_makeLean_1 rfl (lv_at hl 1 rfl) ?_
  obtain ⟨o2, ho2, hq⟩ := kbind hq
  refine kc_Vi (av := [.int x1]) (rest := []) hF hK hG hA (mk_X2_leaningOf l D cI aP aLe aSh s.heap.size told wl wr le x1 o2 ho2) (cwV 1 hts gX2_makeLean_X2_leaningOf rfl rfl rfl (by decide +kernel) ⟨Nat.le_of_ble_eq_true rfl, Nat.le_of_ble_eq_true rfl⟩) hP hD hS [0, 1] (by decide) rfl rfl 0 rfl rfl rfl hl.1 rfl (Nat.le_of_ble_eq_true rfl) ⟨Nat.zero_le _, Nat.zero_le _⟩ dX2_makeLean_2 (fun H locs hP hD hS => ?_)
  have hP : va_P D vwCl [(aP, .inr (2, [.ref aLe, .ref aSh, .int told, .int wl, .int wr])), (aLe, .inl (cI 0, 10, .inl le))] H := hP
  have hD : va_D A [(aP, .inr (2, [.ref aLe, .ref aSh, .int told, .int wl, .int wr])), (aLe, .inl (cI 0, 10, .inl le))] := hD
  refine lv_istore_n (lv' := [(3, .int o2), (0, .ref aP), (1, .int x1), (2, .int x2)]) hx hb dX2_makeLean_5 rfl hl (by decide) rfl (fun ls hl => ?_)
  refine lv_aload_n hx hb dX2_makeLean_6 rfl (lv_at hl 1 rfl) ?_
  refine lv_iload_n hx hb dX2_makeLean_7 rfl (lv_at hl 2 rfl) ?_
  obtain ⟨o8, ho8, hq⟩ := kbind hq
  refine kc_Vi (av := [.int x1]) (rest := []) hF hK hG hA (mk_X2_isUp l D cI aP aLe aSh H.size told wl wr le x1 o8 ho8) (cwV 1 hts gX2_makeLean_X2_isUp rfl rfl rfl (by decide +kernel) ⟨Nat.le_of_ble_eq_true rfl, Nat.le_of_ble_eq_true rfl⟩) hP hD hS [0, 1] (by decide) rfl rfl 0 rfl rfl rfl hl.1 rfl (Nat.le_of_ble_eq_true rfl) ⟨Nat.zero_le _, Nat.zero_le _⟩ dX2_makeLean_8 (fun H locs hP hD hS => ?_)
  have hP : va_P D vwCl [(aP, .inr (2, [.ref aLe, .ref aSh, .int told, .int wl, .int wr])), (aLe, .inl (cI 0, 10, .inl le))] H := hP
  have hD : va_D A [(aP, .inr (2, [.ref aLe, .ref aSh, .int told, .int wl, .int wr])), (aLe, .inl (cI 0, 10, .inl le))] := hD
  refine lv_if_eq (tgt := 21) hx hb dX2_makeLean_11 (by decide) (fun c9 => ?_) (fun c9 => ?_)
  · have hq := kite_t c9 hq
    exact b_21  _ _ _ le o2 hq hP hD hS (lv_sub hl [0] rfl)
  · have hq := kite_f c9 hq
    refine lv_aload_n hx hb dX2_makeLean_14 rfl (lv_at hl 1 rfl) ?_
    refine va_get (D := D) (ci := 2) (v := .ref aLe) (C := RX2) (T := TX2) (N := 5) hx hb hts iw_X2_makeLean_X2 hown hK.1 hP 0 rfl rfl 0 (by decide) (hts (.fieldLink RX2 9 "PinDeck$Pins" "leaning" "[I") (by decide +kernel)) (fun _ h9 => h9) rfl dX2_makeLean_15 ?_
    refine lv_iload_n hx hb dX2_makeLean_18 rfl (lv_at hl 2 rfl) ?_
    refine lv_iload_n hx hb dX2_makeLean_19 rfl (lv_at hl 3 rfl) ?_
    obtain ⟨hz, hq⟩ := kite_n hq
    refine k_iast (j := (x1.toNatClampNeg)) hx hb hK.1 hP hD hS 1 0 rfl rfl hz rfl dX2_makeLean_20 (fun H locs hP hD hS => ?_)
    have hP : va_P D vwCl [(aP, .inr (2, [.ref aLe, .ref aSh, .int told, .int wl, .int wr])), (aLe, .inl (cI 0, 10, .inl (upd le (x1.toNatClampNeg) x2)))] H := hP
    have hD : va_D A [(aP, .inr (2, [.ref aLe, .ref aSh, .int told, .int wl, .int wr])), (aLe, .inl (cI 0, 10, .inl (upd le (x1.toNatClampNeg) x2)))] := hD
    exact b_21  _ _ _ (upd le (x1.toNatClampNeg) x2) o2 hq hP hD hS (lv_sub hl [0] rfl)

theorem iw_X2_leanMore_X2 : ∀ w ∈ wsX20, w ∈ wsX2_leanMore := by decide +kernel
set_option maxHeartbeats 4000000 in
set_option maxRecDepth 100000 in
theorem mk_X2_leanMore (l : Launch) (D : va_G) (cI : Nat → ClassId) (aP aLe aSh : Nat) (sz : Nat) (told : Int32) (wl : Int32) (wr : Int32) (le : kF) (x1 : Int32) (x2 : Int32) (x3 : Int32) (o : Int32 × Int32 × kF) (hq : fn_X2_leanMore wl wr le x1 x2 x3 = some o) : Met l yX2_leanMore wsX2_leanMore ({ frames := 0, cells := 0, slots := 0, locals := 0 }) (kPc D cI [(aP, .inr (2, [.ref aLe, .ref aSh, .int told, .int wl, .int wr])), (aLe, .inl (cI 0, 10, .inl le))] sz [.ref aP, .int x1, .int x2, .int x3]) (kQv D [(aP, .inr (2, [.ref aLe, .ref aSh, .int told, .int wl, .int wr])), (aLe, .inl (cI 0, 10, .inl le))] [(aP, .inr (2, [.ref aLe, .ref aSh, .int told, .int o.1, .int o.2.1])), (aLe, .inl (cI 0, 10, .inl o.2.2))] sz) 0 0 (va_A [(aP, .inr (2, [.ref aLe, .ref aSh, .int told, .int wl, .int wr])), (aLe, .inl (cI 0, 10, .inl le))] sz) := by
  refine kM_v (cc := cX2_leanMore) (maxL := 4) (by decide +kernel) rfl (Nat.le_of_ble_eq_true rfl) ?_
  intro p e s m args below meth c A Q hF hK hG hD hA hend ls hP hS hl
  obtain ⟨hx, hb, hml, hown, hts⟩ := id hF
  have hl : lv_has ls 4 [(0, .ref aP), (1, .int x1), (2, .int x2), (3, .int x3)] := hl
  have b_20 : ∀ (H : Heap) (locs : List Loc) (ls : Array Slot) (wl : Int32) (wr : Int32) (le : kF), fn_X2_leanMore_20 wl wr le = some o → va_P D vwCl [(aP, .inr (2, [.ref aLe, .ref aSh, .int told, .int wl, .int wr])), (aLe, .inl (cI 0, 10, .inl le))] H → va_D A [(aP, .inr (2, [.ref aLe, .ref aSh, .int told, .int wl, .int wr])), (aLe, .inl (cI 0, 10, .inl le))] → va_S A s.heap H locs → lv_has ls 4 [] → W p l e { frames := 0, cells := 0, slots := 0, locals := 0 } s m args below meth c H locs 0 0 Q (F0 m 20 ls []) := by
    intro H locs ls wl wr le
    intro hq hP hD hS hl
    have ho := Option.some.inj hq
    subst ho
    exact hend _ _ _ _ hP hS dX2_leanMore_20
  have b_83 : ∀ (H : Heap) (locs : List Loc) (ls : Array Slot) (wl : Int32) (wr : Int32) (le : kF), fn_X2_leanMore_83 wl wr le = some o → va_P D vwCl [(aP, .inr (2, [.ref aLe, .ref aSh, .int told, .int wl, .int wr])), (aLe, .inl (cI 0, 10, .inl le))] H → va_D A [(aP, .inr (2, [.ref aLe, .ref aSh, .int told, .int wl, .int wr])), (aLe, .inl (cI 0, 10, .inl le))] → va_S A s.heap H locs → lv_has ls 4 [] → W p l e { frames := 0, cells := 0, slots := 0, locals := 0 } s m args below meth c H locs 0 0 Q (F0 m 83 ls []) := by
    intro H locs ls wl wr le
    intro hq hP hD hS hl
    have ho := Option.some.inj hq
    subst ho
    exact hend _ _ _ _ hP hS dX2_leanMore_83
  have b_67 : ∀ (H : Heap) (locs : List Loc) (ls : Array Slot) (wl : Int32) (wr : Int32) (le : kF) (x1 : Int32) (x3 : Int32), fn_X2_leanMore_67 wl wr le x1 x3 = some o → va_P D vwCl [(aP, .inr (2, [.ref aLe, .ref aSh, .int told, .int wl, .int wr])), (aLe, .inl (cI 0, 10, .inl le))] H → va_D A [(aP, .inr (2, [.ref aLe, .ref aSh, .int told, .int wl, .int wr])), (aLe, .inl (cI 0, 10, .inl le))] → va_S A s.heap H locs → lv_has ls 4 [(0, .ref aP), (1, .int x1), (3, .int x3)] → W p l e { frames := 0, cells := 0, slots := 0, locals := 0 } s m args below meth c H locs 0 0 Q (F0 m 67 ls []) := by
    intro H locs ls wl wr le x1 x3
    intro hq hP hD hS hl
    refine lv_iload_n hx hb dX2_leanMore_67 rfl (lv_at hl 2 rfl) ?_
    refine lv_if_lt (tgt := 83) hx hb dX2_leanMore_68 (by decide) (fun c9 => ?_) (fun c9 => ?_)
    · have hq := kite_t c9 hq
      exact b_83  _ _ _ wl wr le hq hP hD hS (lv_sub hl [] rfl)
    · have hq := kite_f c9 hq
      refine lv_aload_n hx hb dX2_leanMore_71 rfl (lv_at hl 0 rfl) ?_
      refine lv_dup hx hb dX2_leanMore_72 rfl ?_
      refine va_get (D := D) (ci := 2) (v := .int wr) (C := RX2) (T := TX2) (N := 5) hx hb hts iw_X2_leanMore_X2 hown hK.1 hP 0 rfl rfl 4 (by decide) (hts (.fieldLink RX2 39 "PinDeck$Pins" "wentRight" "I") (by decide +kernel)) (fun _ h9 => h9) rfl dX2_leanMore_73 ?_
      refine lv_iconst (v := 1) hx hb dX2_leanMore_76 (by decide) ?_
      refine lv_iload_n hx hb dX2_leanMore_77 rfl (lv_at hl 1 rfl) ?_
      refine lv_ishl hx hb dX2_leanMore_78 ?_
      refine lv_ior hx hb dX2_leanMore_79 ?_
      refine va_put (D := D) (ci := 2) (v := .int (wr ||| ((1 : Int32) <<< (x1 &&& 31)))) (ty := .int) (C := RX2) (T := TX2) (N := 5) hx hb hts iw_X2_leanMore_X2 tyX2 tyX2_ok nmX2 hown hK.1 hP hD hS 0 rfl rfl 4 (by decide) (hts (.fieldLink RX2 39 "PinDeck$Pins" "wentRight" "I") (by decide +kernel)) (fun _ h9 => h9) rfl (by decide +kernel) rfl rfl (Nat.le_of_ble_eq_true rfl) dX2_leanMore_80 (fun H locs hP hD hS => ?_)
      have hP : va_P D vwCl [(aP, .inr (2, [.ref aLe, .ref aSh, .int told, .int wl, .int (wr ||| ((1 : Int32) <<< (x1 &&& 31)))])), (aLe, .inl (cI 0, 10, .inl le))] H := hP
      have hD : va_D A [(aP, .inr (2, [.ref aLe, .ref aSh, .int told, .int wl, .int (wr ||| ((1 : Int32) <<< (x1 &&& 31)))])), (aLe, .inl (cI 0, 10, .inl le))] := hD
      exact b_83  _ _ _ wl (wr ||| ((1 : Int32) <<< (x1 &&& 31))) le hq hP hD hS (lv_sub hl [] rfl)
  refine lv_iload_n hx hb dX2_leanMore_0 rfl (lv_at hl 1 rfl) ?_
  refine lv_if_lt (tgt := 20) hx hb dX2_leanMore_1 (by decide) (fun c9 => ?_) (fun c9 => ?_)
  · have hq := kite_t c9 hq
    exact b_20  _ _ _ wl wr le hq hP hD hS (lv_sub hl [] rfl)
  · have hq := kite_f c9 hq
    refine lv_iload_n hx hb dX2_leanMore_4 rfl (lv_at hl 1 rfl) ?_
    refine lv_bipush (v := 10) hx hb dX2_leanMore_5 (by decide) ?_
    refine lv_icmp_ge (tgt := 20) hx hb dX2_leanMore_7 (by decide) (fun c9 => ?_) (fun c9 => ?_)
    · have hq := kite_t c9 hq
      exact b_20  _ _ _ wl wr le hq hP hD hS (lv_sub hl [] rfl)
    · have hq := kite_f c9 hq
      refine lv_aload_n hx hb dX2_leanMore_10 rfl (lv_at hl 0 rfl) ?_
      refine va_get (D := D) (ci := 2) (v := .ref aLe) (C := RX2) (T := TX2) (N := 5) hx hb hts iw_X2_leanMore_X2 hown hK.1 hP 0 rfl rfl 0 (by decide) (hts (.fieldLink RX2 9 "PinDeck$Pins" "leaning" "[I") (by decide +kernel)) (fun _ h9 => h9) rfl dX2_leanMore_11 ?_
      refine lv_iload_n hx hb dX2_leanMore_14 rfl (lv_at hl 1 rfl) ?_
      obtain ⟨hz, hq⟩ := kite_n hq
      refine k_iald (j := (x1.toNatClampNeg)) hx hb hK.1 hP 1 0 rfl rfl hz rfl dX2_leanMore_15 ?_
      refine lv_iconst (v := 4) hx hb dX2_leanMore_16 (by decide) ?_
      refine lv_icmp_lt (tgt := 21) hx hb dX2_leanMore_17 (by decide) (fun c9 => ?_) (fun c9 => ?_)
      · have hq := kite_t c9 hq
        refine lv_aload_n hx hb dX2_leanMore_21 rfl (lv_at hl 0 rfl) ?_
        refine va_get (D := D) (ci := 2) (v := .ref aLe) (C := RX2) (T := TX2) (N := 5) hx hb hts iw_X2_leanMore_X2 hown hK.1 hP 0 rfl rfl 0 (by decide) (hts (.fieldLink RX2 9 "PinDeck$Pins" "leaning" "[I") (by decide +kernel)) (fun _ h9 => h9) rfl dX2_leanMore_22 ?_
        refine lv_iload_n hx hb dX2_leanMore_25 rfl (lv_at hl 1 rfl) ?_
        obtain ⟨hz, hq⟩ := kite_n hq
        refine k_iald (j := (x1.toNatClampNeg)) hx hb hK.1 hP 1 0 rfl rfl hz rfl dX2_leanMore_26 ?_
        refine lv_iload_n hx hb dX2_leanMore_27 rfl (lv_at hl 2 rfl) ?_
        refine lv_iadd hx hb dX2_leanMore_28 ?_
        refine lv_iconst (v := 3) hx hb dX2_leanMore_29 (by decide) ?_
        refine lv_icmp_gt (tgt := 44) hx hb dX2_leanMore_30 (by decide) (fun c9 => ?_) (fun c9 => ?_)
        · have hq := kite_t c9 hq
          refine lv_aload_n hx hb dX2_leanMore_44 rfl (lv_at hl 0 rfl) ?_
          refine va_get (D := D) (ci := 2) (v := .ref aLe) (C := RX2) (T := TX2) (N := 5) hx hb hts iw_X2_leanMore_X2 hown hK.1 hP 0 rfl rfl 0 (by decide) (hts (.fieldLink RX2 9 "PinDeck$Pins" "leaning" "[I") (by decide +kernel)) (fun _ h9 => h9) rfl dX2_leanMore_45 ?_
          refine lv_iload_n hx hb dX2_leanMore_48 rfl (lv_at hl 1 rfl) ?_
          refine lv_iconst (v := 4) hx hb dX2_leanMore_49 (by decide) ?_
          obtain ⟨hz, hq⟩ := kite_n hq
          refine k_iast (j := (x1.toNatClampNeg)) hx hb hK.1 hP hD hS 1 0 rfl rfl hz rfl dX2_leanMore_50 (fun H locs hP hD hS => ?_)
          have hP : va_P D vwCl [(aP, .inr (2, [.ref aLe, .ref aSh, .int told, .int wl, .int wr])), (aLe, .inl (cI 0, 10, .inl (upd le (x1.toNatClampNeg) (4 : Int32))))] H := hP
          have hD : va_D A [(aP, .inr (2, [.ref aLe, .ref aSh, .int told, .int wl, .int wr])), (aLe, .inl (cI 0, 10, .inl (upd le (x1.toNatClampNeg) (4 : Int32))))] := hD
          refine lv_iload_n hx hb dX2_leanMore_51 rfl (lv_at hl 3 rfl) ?_
          refine lv_if_gt (tgt := 67) hx hb dX2_leanMore_52 (by decide) (fun c9 => ?_) (fun c9 => ?_)
          · have hq := kite_t c9 hq
            exact b_67  _ _ _ wl wr (upd le (x1.toNatClampNeg) (4 : Int32)) x1 x3 hq hP hD hS (lv_sub hl [0, 1, 3] rfl)
          · have hq := kite_f c9 hq
            refine lv_aload_n hx hb dX2_leanMore_55 rfl (lv_at hl 0 rfl) ?_
            refine lv_dup hx hb dX2_leanMore_56 rfl ?_
            refine va_get (D := D) (ci := 2) (v := .int wl) (C := RX2) (T := TX2) (N := 5) hx hb hts iw_X2_leanMore_X2 hown hK.1 hP 0 rfl rfl 3 (by decide) (hts (.fieldLink RX2 36 "PinDeck$Pins" "wentLeft" "I") (by decide +kernel)) (fun _ h9 => h9) rfl dX2_leanMore_57 ?_
            refine lv_iconst (v := 1) hx hb dX2_leanMore_60 (by decide) ?_
            refine lv_iload_n hx hb dX2_leanMore_61 rfl (lv_at hl 1 rfl) ?_
            refine lv_ishl hx hb dX2_leanMore_62 ?_
            refine lv_ior hx hb dX2_leanMore_63 ?_
            refine va_put (D := D) (ci := 2) (v := .int (wl ||| ((1 : Int32) <<< (x1 &&& 31)))) (ty := .int) (C := RX2) (T := TX2) (N := 5) hx hb hts iw_X2_leanMore_X2 tyX2 tyX2_ok nmX2 hown hK.1 hP hD hS 0 rfl rfl 3 (by decide) (hts (.fieldLink RX2 36 "PinDeck$Pins" "wentLeft" "I") (by decide +kernel)) (fun _ h9 => h9) rfl (by decide +kernel) rfl rfl (Nat.le_of_ble_eq_true rfl) dX2_leanMore_64 (fun H locs hP hD hS => ?_)
            have hP : va_P D vwCl [(aP, .inr (2, [.ref aLe, .ref aSh, .int told, .int (wl ||| ((1 : Int32) <<< (x1 &&& 31))), .int wr])), (aLe, .inl (cI 0, 10, .inl (upd le (x1.toNatClampNeg) (4 : Int32))))] H := hP
            have hD : va_D A [(aP, .inr (2, [.ref aLe, .ref aSh, .int told, .int (wl ||| ((1 : Int32) <<< (x1 &&& 31))), .int wr])), (aLe, .inl (cI 0, 10, .inl (upd le (x1.toNatClampNeg) (4 : Int32))))] := hD
            exact b_67  _ _ _ (wl ||| ((1 : Int32) <<< (x1 &&& 31))) wr (upd le (x1.toNatClampNeg) (4 : Int32)) x1 x3 hq hP hD hS (lv_sub hl [0, 1, 3] rfl)
        · have hq := kite_f c9 hq
          refine lv_aload_n hx hb dX2_leanMore_33 rfl (lv_at hl 0 rfl) ?_
          refine va_get (D := D) (ci := 2) (v := .ref aLe) (C := RX2) (T := TX2) (N := 5) hx hb hts iw_X2_leanMore_X2 hown hK.1 hP 0 rfl rfl 0 (by decide) (hts (.fieldLink RX2 9 "PinDeck$Pins" "leaning" "[I") (by decide +kernel)) (fun _ h9 => h9) rfl dX2_leanMore_34 ?_
          refine lv_iload_n hx hb dX2_leanMore_37 rfl (lv_at hl 1 rfl) ?_
          refine lv_dup2_11 hx hb dX2_leanMore_38 rfl rfl ?_
          obtain ⟨hz, hq⟩ := kite_n hq
          refine k_iald (j := (x1.toNatClampNeg)) hx hb hK.1 hP 1 0 rfl rfl hz rfl dX2_leanMore_39 ?_
          refine lv_iload_n hx hb dX2_leanMore_40 rfl (lv_at hl 2 rfl) ?_
          refine lv_iadd hx hb dX2_leanMore_41 ?_
          obtain ⟨hz, hq⟩ := kite_n hq
          refine k_iast (j := (x1.toNatClampNeg)) hx hb hK.1 hP hD hS 1 0 rfl rfl hz rfl dX2_leanMore_42 (fun H locs hP hD hS => ?_)
          have hP : va_P D vwCl [(aP, .inr (2, [.ref aLe, .ref aSh, .int told, .int wl, .int wr])), (aLe, .inl (cI 0, 10, .inl (upd le (x1.toNatClampNeg) ((le (x1.toNatClampNeg)) + x2))))] H := hP
          have hD : va_D A [(aP, .inr (2, [.ref aLe, .ref aSh, .int told, .int wl, .int wr])), (aLe, .inl (cI 0, 10, .inl (upd le (x1.toNatClampNeg) ((le (x1.toNatClampNeg)) + x2))))] := hD
          have ho := Option.some.inj hq
          subst ho
          exact hend _ _ _ _ hP hS dX2_leanMore_43
      · have hq := kite_f c9 hq
        exact b_20  _ _ _ wl wr le hq hP hD hS (lv_sub hl [] rfl)

set_option maxHeartbeats 4000000 in
set_option maxRecDepth 100000 in
theorem mk_J6_compare_7cf53 (l : Launch) (D : va_G) (cI : Nat → ClassId) (sz : Nat) (x0 : Int32) (x1 : Int32) (o : Int32) (hq : fn_J6_compare_7cf53 x0 x1 = some o) : Met l yJ6_compare_7cf53 wsJ6_compare_7cf53 ({ frames := 0, cells := 0, slots := 0, locals := 0 }) (kPc D cI [] sz [.int x0, .int x1]) (kQi D [] [] sz o) 0 0 (va_A [] sz) := by
  refine kM_i (cc := cJ6_compare_7cf53) (maxL := 2) (by decide +kernel) rfl (Nat.le_of_ble_eq_true rfl) ?_
  intro p e s m args below meth c A Q hF hK hG hD hA hend ls hP hS hl
  obtain ⟨hx, hb, hml, hown, hts⟩ := id hF
  have hl : lv_has ls 2 [(0, .int x0), (1, .int x1)] := hl
  have b_19 : ∀ (H : Heap) (locs : List Loc) (ls : Array Slot) (k0 : Int32), fn_J6_compare_7cf53_19 k0 = some o → va_P D vwCl [] H → va_S A s.heap H locs → lv_has ls 2 [] → W p l e { frames := 0, cells := 0, slots := 0, locals := 0 } s m args below meth c H locs 0 0 Q (F0 m 19 ls [.int k0]) := by
    intro H locs ls k0
    intro hq hP hS hl
    have ho := Option.some.inj hq
    subst ho
    exact hend _ _ _ _ hP hS dJ6_compare_7cf53_19
  refine lv_iload_n hx hb dJ6_compare_7cf53_0 rfl (lv_at hl 0 rfl) ?_
  refine lv_iload_n hx hb dJ6_compare_7cf53_1 rfl (lv_at hl 1 rfl) ?_
  refine lv_icmp_ge (tgt := 9) hx hb dJ6_compare_7cf53_2 (by decide) (fun c9 => ?_) (fun c9 => ?_)
  · have hq := kite_t c9 hq
    refine lv_iload_n hx hb dJ6_compare_7cf53_9 rfl (lv_at hl 0 rfl) ?_
    refine lv_iload_n hx hb dJ6_compare_7cf53_10 rfl (lv_at hl 1 rfl) ?_
    refine lv_icmp_ne (tgt := 18) hx hb dJ6_compare_7cf53_11 (by decide) (fun c9 => ?_) (fun c9 => ?_)
    · have hq := kite_f c9 hq
      refine lv_iconst (v := 1) hx hb dJ6_compare_7cf53_18 (by decide) ?_
      exact b_19  _ _ _ (1 : Int32) hq hP hS (lv_sub hl [] rfl)
    · have hq := kite_t c9 hq
      refine lv_iconst (v := 0) hx hb dJ6_compare_7cf53_14 (by decide) ?_
      refine lv_goto (tgt := 19) hx hb dJ6_compare_7cf53_15 (by decide) ?_
      exact b_19  _ _ _ (0 : Int32) hq hP hS (lv_sub hl [] rfl)
  · have hq := kite_f c9 hq
    refine lv_iconst (v := (-1)) hx hb dJ6_compare_7cf53_5 (by decide) ?_
    refine lv_goto (tgt := 19) hx hb dJ6_compare_7cf53_6 (by decide) ?_
    exact b_19  _ _ _ (-1 : Int32) hq hP hS (lv_sub hl [] rfl)

theorem iw_X2_meet_X2 : ∀ w ∈ wsX20, w ∈ wsX2_meet := by decide +kernel
set_option maxHeartbeats 4000000 in
set_option maxRecDepth 100000 in
theorem mk_X2_meet (l : Launch) (D : va_G) (cI : Nat → ClassId) (aP aLe aSh : Nat) (sz : Nat) (told : Int32) (wl : Int32) (wr : Int32) (le : kF) (sh : kF) (x1 : Int32) (x2 : Int32) (o : Int32 × Int32 × Int32 × kF × kF) (hq : fn_X2_meet wl wr le sh x1 x2 = some o) : Met l yX2_meet wsX2_meet ({ frames := 1, cells := 0, slots := 0, locals := 23 }) (kPc D cI [(aP, .inr (2, [.ref aLe, .ref aSh, .int told, .int wl, .int wr])), (aLe, .inl (cI 0, 10, .inl le)), (aSh, .inl (cI 0, 10, .inl sh))] sz [.ref aP, .int x1, .int x2]) (kQi D [(aP, .inr (2, [.ref aLe, .ref aSh, .int told, .int wl, .int wr])), (aLe, .inl (cI 0, 10, .inl le)), (aSh, .inl (cI 0, 10, .inl sh))] [(aP, .inr (2, [.ref aLe, .ref aSh, .int told, .int o.2.1, .int o.2.2.1])), (aLe, .inl (cI 0, 10, .inl o.2.2.2.1)), (aSh, .inl (cI 0, 10, .inl o.2.2.2.2))] sz o.1) 0 0 (va_A [(aP, .inr (2, [.ref aLe, .ref aSh, .int told, .int wl, .int wr])), (aLe, .inl (cI 0, 10, .inl le)), (aSh, .inl (cI 0, 10, .inl sh))] sz) := by
  refine kM_i (cc := cX2_meet) (maxL := 5) (by decide +kernel) rfl (Nat.le_of_ble_eq_true rfl) ?_
  intro p e s m args below meth c A Q hF hK hG hD hA hend ls hP hS hl
  obtain ⟨hx, hb, hml, hown, hts⟩ := id hF
  have hl : lv_has ls 5 [(0, .ref aP), (1, .int x1), (2, .int x2)] := hl
  have b_102 : ∀ (H : Heap) (locs : List Loc) (ls : Array Slot) (wl : Int32) (wr : Int32) (le : kF) (sh : kF), fn_X2_meet_102 wl wr le sh = some o → va_P D vwCl [(aP, .inr (2, [.ref aLe, .ref aSh, .int told, .int wl, .int wr])), (aLe, .inl (cI 0, 10, .inl le)), (aSh, .inl (cI 0, 10, .inl sh))] H → va_D A [(aP, .inr (2, [.ref aLe, .ref aSh, .int told, .int wl, .int wr])), (aLe, .inl (cI 0, 10, .inl le)), (aSh, .inl (cI 0, 10, .inl sh))] → va_S A s.heap H locs → lv_has ls 5 [] → W p l e { frames := 1, cells := 0, slots := 0, locals := 23 } s m args below meth c H locs 0 0 Q (F0 m 102 ls []) := by
    intro H locs ls wl wr le sh
    intro hq hP hD hS hl
    refine lv_iconst (v := 0) hx hb dX2_meet_102 (by decide) ?_
    have ho := Option.some.inj hq
    subst ho
    exact hend _ _ _ _ hP hS dX2_meet_103
  have b_95 : ∀ (H : Heap) (locs : List Loc) (ls : Array Slot) (wl : Int32) (wr : Int32) (le : kF) (sh : kF) (x1 : Int32) (x3 : Int32), fn_X2_meet_95 wl wr le sh x1 x3 = some o → va_P D vwCl [(aP, .inr (2, [.ref aLe, .ref aSh, .int told, .int wl, .int wr])), (aLe, .inl (cI 0, 10, .inl le)), (aSh, .inl (cI 0, 10, .inl sh))] H → va_D A [(aP, .inr (2, [.ref aLe, .ref aSh, .int told, .int wl, .int wr])), (aLe, .inl (cI 0, 10, .inl le)), (aSh, .inl (cI 0, 10, .inl sh))] → va_S A s.heap H locs → lv_has ls 5 [(0, .ref aP), (1, .int x1), (3, .int x3)] → W p l e { frames := 1, cells := 0, slots := 0, locals := 23 } s m args below meth c H locs 0 0 Q (F0 m 95 ls []) := by
    intro H locs ls wl wr le sh x1 x3
    intro hq hP hD hS hl
    refine lv_aload_n hx hb dX2_meet_95 rfl (lv_at hl 0 rfl) ?_
    refine lv_iload_n hx hb dX2_meet_96 rfl (lv_at hl 1 rfl) ?_
    refine lv_iconst (v := 1) hx hb dX2_meet_97 (by decide) ?_
    refine lv_iload_n hx hb dX2_meet_98 rfl (lv_at hl 2 rfl) ?_
    obtain ⟨o99, ho99, hq⟩ := kbind hq
    refine kc_Vv (av := [.int x1, .int (1 : Int32), .int x3]) (rest := []) hF hK hG hA (mk_X2_leanMore l D cI aP aLe aSh H.size told wl wr le x1 (1 : Int32) x3 o99 ho99) (cwV 3 hts gX2_meet_X2_leanMore rfl rfl rfl (by decide +kernel) ⟨Nat.le_of_ble_eq_true rfl, Nat.le_of_ble_eq_true rfl⟩) hP hD hS [0, 1] (by decide) rfl rfl 0 rfl rfl rfl hl.1 rfl (Nat.le_of_ble_eq_true rfl) ⟨Nat.zero_le _, Nat.zero_le _⟩ dX2_meet_99 (fun H locs hP hD hS => ?_)
    have hP : va_P D vwCl [(aP, .inr (2, [.ref aLe, .ref aSh, .int told, .int o99.1, .int o99.2.1])), (aLe, .inl (cI 0, 10, .inl o99.2.2)), (aSh, .inl (cI 0, 10, .inl sh))] H := hP
    have hD : va_D A [(aP, .inr (2, [.ref aLe, .ref aSh, .int told, .int o99.1, .int o99.2.1])), (aLe, .inl (cI 0, 10, .inl o99.2.2)), (aSh, .inl (cI 0, 10, .inl sh))] := hD
    exact b_102  _ _ _ o99.1 o99.2.1 o99.2.2 sh hq hP hD hS (lv_sub hl [] rfl)
  have b_76 : ∀ (H : Heap) (locs : List Loc) (ls : Array Slot) (wl : Int32) (wr : Int32) (le : kF) (sh : kF) (x1 : Int32) (x3 : Int32) (k0 : Int32), fn_X2_meet_76 wl wr le sh x1 x3 k0 = some o → va_P D vwCl [(aP, .inr (2, [.ref aLe, .ref aSh, .int told, .int wl, .int wr])), (aLe, .inl (cI 0, 10, .inl le)), (aSh, .inl (cI 0, 10, .inl sh))] H → va_D A [(aP, .inr (2, [.ref aLe, .ref aSh, .int told, .int wl, .int wr])), (aLe, .inl (cI 0, 10, .inl le)), (aSh, .inl (cI 0, 10, .inl sh))] → va_S A s.heap H locs → lv_has ls 5 [(0, .ref aP), (1, .int x1), (3, .int x3)] → W p l e { frames := 1, cells := 0, slots := 0, locals := 23 } s m args below meth c H locs 0 0 Q (F0 m 76 ls [.int k0]) := by
    intro H locs ls wl wr le sh x1 x3 k0
    intro hq hP hD hS hl
    refine lv_istore (lv' := [(4, .int k0), (0, .ref aP), (1, .int x1), (3, .int x3)]) hx hb dX2_meet_76 hl (by decide) rfl (fun ls hl => ?_)
    refine lv_aload_n hx hb dX2_meet_78 rfl (lv_at hl 1 rfl) ?_
    refine va_get (D := D) (ci := 2) (v := .ref aSh) (C := RX2) (T := TX2) (N := 5) hx hb hts iw_X2_meet_X2 hown hK.1 hP 0 rfl rfl 1 (by decide) (hts (.fieldLink RX2 15 "PinDeck$Pins" "shift" "[I") (by decide +kernel)) (fun _ h9 => h9) rfl dX2_meet_79 ?_
    refine lv_iload_n hx hb dX2_meet_82 rfl (lv_at hl 2 rfl) ?_
    refine lv_bipush (v := (-2)) hx hb dX2_meet_83 (by decide) ?_
    refine lv_iconst (v := 2) hx hb dX2_meet_85 (by decide) ?_
    refine lv_iload hx hb dX2_meet_86 (lv_at hl 0 rfl) ?_
    refine va_mmin hx hb (hml.trans hl.1.symm) hown (hts (.methodLink RX2 62 Lib.Math.min.name) (by decide +kernel)) (hts (.static Lib.Math.min.name) (by decide +kernel)) (hts (.initialized "java/lang/Math") (by decide +kernel)) (hts (.code Lib.Math.min.name Lib.Math.min.code 2 (some .int)) (by decide +kernel)) (Nat.le_of_ble_eq_true rfl) (Nat.le_of_ble_eq_true rfl) (Nat.zero_le _) (Nat.zero_le _) dX2_meet_88 ?_
    refine va_mmax hx hb (hml.trans hl.1.symm) hown (hts (.methodLink RX2 67 Lib.Math.max.name) (by decide +kernel)) (hts (.static Lib.Math.max.name) (by decide +kernel)) (hts (.initialized "java/lang/Math") (by decide +kernel)) (hts (.code Lib.Math.max.name Lib.Math.max.code 2 (some .int)) (by decide +kernel)) (Nat.le_of_ble_eq_true rfl) (Nat.le_of_ble_eq_true rfl) (Nat.zero_le _) (Nat.zero_le _) dX2_meet_91 ?_
    obtain ⟨hz, hq⟩ := kite_n hq
    refine k_iast (j := (x1.toNatClampNeg)) hx hb hK.1 hP hD hS 2 0 rfl rfl hz rfl dX2_meet_94 (fun H locs hP hD hS => ?_)
    have hP : va_P D vwCl [(aP, .inr (2, [.ref aLe, .ref aSh, .int told, .int wl, .int wr])), (aLe, .inl (cI 0, 10, .inl le)), (aSh, .inl (cI 0, 10, .inl (upd sh (x1.toNatClampNeg) (if (-2 : Int32) < (if k0 < (2 : Int32) then k0 else (2 : Int32)) then (if k0 < (2 : Int32) then k0 else (2 : Int32)) else (-2 : Int32)))))] H := hP
    have hD : va_D A [(aP, .inr (2, [.ref aLe, .ref aSh, .int told, .int wl, .int wr])), (aLe, .inl (cI 0, 10, .inl le)), (aSh, .inl (cI 0, 10, .inl (upd sh (x1.toNatClampNeg) (if (-2 : Int32) < (if k0 < (2 : Int32) then k0 else (2 : Int32)) then (if k0 < (2 : Int32) then k0 else (2 : Int32)) else (-2 : Int32)))))] := hD
    exact b_95  _ _ _ wl wr le (upd sh (x1.toNatClampNeg) (if (-2 : Int32) < (if k0 < (2 : Int32) then k0 else (2 : Int32)) then (if k0 < (2 : Int32) then k0 else (2 : Int32)) else (-2 : Int32))) x1 x3 hq hP hD hS (lv_sub hl [1, 2, 3] rfl)
  have b_53 : ∀ (H : Heap) (locs : List Loc) (ls : Array Slot) (wl : Int32) (wr : Int32) (le : kF) (sh : kF) (x1 : Int32) (x3 : Int32), fn_X2_meet_53 wl wr le sh x1 x3 = some o → va_P D vwCl [(aP, .inr (2, [.ref aLe, .ref aSh, .int told, .int wl, .int wr])), (aLe, .inl (cI 0, 10, .inl le)), (aSh, .inl (cI 0, 10, .inl sh))] H → va_D A [(aP, .inr (2, [.ref aLe, .ref aSh, .int told, .int wl, .int wr])), (aLe, .inl (cI 0, 10, .inl le)), (aSh, .inl (cI 0, 10, .inl sh))] → va_S A s.heap H locs → lv_has ls 5 [(0, .ref aP), (1, .int x1), (3, .int x3)] → W p l e { frames := 1, cells := 0, slots := 0, locals := 23 } s m args below meth c H locs 0 0 Q (F0 m 53 ls []) := by
    intro H locs ls wl wr le sh x1 x3
    intro hq hP hD hS hl
    refine lv_iload_n hx hb dX2_meet_53 rfl (lv_at hl 2 rfl) ?_
    refine lv_if_le (tgt := 68) hx hb dX2_meet_54 (by decide) (fun c9 => ?_) (fun c9 => ?_)
    · have hq := kite_t c9 hq
      refine lv_aload_n hx hb dX2_meet_68 rfl (lv_at hl 0 rfl) ?_
      refine va_get (D := D) (ci := 2) (v := .ref aSh) (C := RX2) (T := TX2) (N := 5) hx hb hts iw_X2_meet_X2 hown hK.1 hP 0 rfl rfl 1 (by decide) (hts (.fieldLink RX2 15 "PinDeck$Pins" "shift" "[I") (by decide +kernel)) (fun _ h9 => h9) rfl dX2_meet_69 ?_
      refine lv_iload_n hx hb dX2_meet_72 rfl (lv_at hl 1 rfl) ?_
      obtain ⟨hz, hq⟩ := kite_n hq
      refine k_iald (j := (x1.toNatClampNeg)) hx hb hK.1 hP 2 0 rfl rfl hz rfl dX2_meet_73 ?_
      refine lv_iconst (v := 1) hx hb dX2_meet_74 (by decide) ?_
      refine lv_isub hx hb dX2_meet_75 ?_
      exact b_76  _ _ _ wl wr le sh x1 x3 ((sh (x1.toNatClampNeg)) - (1 : Int32)) hq hP hD hS (lv_sub hl [0, 1, 2] rfl)
    · have hq := kite_f c9 hq
      refine lv_aload_n hx hb dX2_meet_57 rfl (lv_at hl 0 rfl) ?_
      refine va_get (D := D) (ci := 2) (v := .ref aSh) (C := RX2) (T := TX2) (N := 5) hx hb hts iw_X2_meet_X2 hown hK.1 hP 0 rfl rfl 1 (by decide) (hts (.fieldLink RX2 15 "PinDeck$Pins" "shift" "[I") (by decide +kernel)) (fun _ h9 => h9) rfl dX2_meet_58 ?_
      refine lv_iload_n hx hb dX2_meet_61 rfl (lv_at hl 1 rfl) ?_
      obtain ⟨hz, hq⟩ := kite_n hq
      refine k_iald (j := (x1.toNatClampNeg)) hx hb hK.1 hP 2 0 rfl rfl hz rfl dX2_meet_62 ?_
      refine lv_iconst (v := 1) hx hb dX2_meet_63 (by decide) ?_
      refine lv_iadd hx hb dX2_meet_64 ?_
      refine lv_goto (tgt := 76) hx hb dX2_meet_65 (by decide) ?_
      exact b_76  _ _ _ wl wr le sh x1 x3 ((sh (x1.toNatClampNeg)) + (1 : Int32)) hq hP hD hS (lv_sub hl [0, 1, 2] rfl)
  have b_42 : ∀ (H : Heap) (locs : List Loc) (ls : Array Slot) (wl : Int32) (wr : Int32) (le : kF) (sh : kF) (x1 : Int32) (x3 : Int32), fn_X2_meet_42 wl wr le sh x1 x3 = some o → va_P D vwCl [(aP, .inr (2, [.ref aLe, .ref aSh, .int told, .int wl, .int wr])), (aLe, .inl (cI 0, 10, .inl le)), (aSh, .inl (cI 0, 10, .inl sh))] H → va_D A [(aP, .inr (2, [.ref aLe, .ref aSh, .int told, .int wl, .int wr])), (aLe, .inl (cI 0, 10, .inl le)), (aSh, .inl (cI 0, 10, .inl sh))] → va_S A s.heap H locs → lv_has ls 5 [(0, .ref aP), (1, .int x1), (3, .int x3)] → W p l e { frames := 1, cells := 0, slots := 0, locals := 23 } s m args below meth c H locs 0 0 Q (F0 m 42 ls []) := by
    intro H locs ls wl wr le sh x1 x3
    intro hq hP hD hS hl
    refine lv_iload_n hx hb dX2_meet_42 rfl (lv_at hl 2 rfl) ?_
    refine lv_iconst (v := 4) hx hb dX2_meet_43 (by decide) ?_
    refine lv_icmp_eq (tgt := 53) hx hb dX2_meet_44 (by decide) (fun c9 => ?_) (fun c9 => ?_)
    · have hq := kite_t c9 hq
      exact b_53  _ _ _ wl wr le sh x1 x3 hq hP hD hS (lv_sub hl [0, 1, 2] rfl)
    · have hq := kite_f c9 hq
      refine lv_iload_n hx hb dX2_meet_47 rfl (lv_at hl 2 rfl) ?_
      refine lv_bipush (v := (-4)) hx hb dX2_meet_48 (by decide) ?_
      refine lv_icmp_ne (tgt := 102) hx hb dX2_meet_50 (by decide) (fun c9 => ?_) (fun c9 => ?_)
      · have hq := kite_f c9 hq
        exact b_102  _ _ _ wl wr le sh hq hP hD hS (lv_sub hl [] rfl)
      · have hq := kite_t c9 hq
        exact b_53  _ _ _ wl wr le sh x1 x3 hq hP hD hS (lv_sub hl [0, 1, 2] rfl)
  refine lv_aload_n hx hb dX2_meet_0 rfl (lv_at hl 0 rfl) ?_
  refine lv_iload_n hx hb dX2_meet_1 rfl (lv_at hl 1 rfl) ?_
  obtain ⟨o2, ho2, hq⟩ := kbind hq
  refine kc_Vi (av := [.int x1]) (rest := []) hF hK hG hA (mk_X2_isUp l D cI aP aLe aSh s.heap.size told wl wr le x1 o2 ho2) (cwV 1 hts gX2_meet_X2_isUp rfl rfl rfl (by decide +kernel) ⟨Nat.le_of_ble_eq_true rfl, Nat.le_of_ble_eq_true rfl⟩) hP hD hS [0, 1] (by decide) rfl rfl 0 rfl rfl rfl hl.1 rfl (Nat.le_of_ble_eq_true rfl) ⟨Nat.zero_le _, Nat.zero_le _⟩ dX2_meet_2 (fun H locs hP hD hS => ?_)
  have hP : va_P D vwCl [(aP, .inr (2, [.ref aLe, .ref aSh, .int told, .int wl, .int wr])), (aLe, .inl (cI 0, 10, .inl le)), (aSh, .inl (cI 0, 10, .inl sh))] H := hP
  have hD : va_D A [(aP, .inr (2, [.ref aLe, .ref aSh, .int told, .int wl, .int wr])), (aLe, .inl (cI 0, 10, .inl le)), (aSh, .inl (cI 0, 10, .inl sh))] := hD
  refine lv_if_ne (tgt := 10) hx hb dX2_meet_5 (by decide) (fun c9 => ?_) (fun c9 => ?_)
  · have hq := kite_f c9 hq
    refine lv_aload_n hx hb dX2_meet_10 rfl (lv_at hl 0 rfl) ?_
    refine lv_iload_n hx hb dX2_meet_11 rfl (lv_at hl 1 rfl) ?_
    obtain ⟨o12, ho12, hq⟩ := kbind hq
    refine kc_Vi (av := [.int x1]) (rest := []) hF hK hG hA (mk_X2_boardOf l D cI aP aLe aSh H.size told wl wr sh x1 o12 ho12) (cwV 1 hts gX2_meet_X2_boardOf rfl rfl rfl (by decide +kernel) ⟨Nat.le_of_ble_eq_true rfl, Nat.le_of_ble_eq_true rfl⟩) hP hD hS [0, 2] (by decide) rfl rfl 0 rfl rfl rfl hl.1 rfl (Nat.le_of_ble_eq_true rfl) ⟨Nat.zero_le _, Nat.zero_le _⟩ dX2_meet_12 (fun H locs hP hD hS => ?_)
    have hP : va_P D vwCl [(aP, .inr (2, [.ref aLe, .ref aSh, .int told, .int wl, .int wr])), (aLe, .inl (cI 0, 10, .inl le)), (aSh, .inl (cI 0, 10, .inl sh))] H := hP
    have hD : va_D A [(aP, .inr (2, [.ref aLe, .ref aSh, .int told, .int wl, .int wr])), (aLe, .inl (cI 0, 10, .inl le)), (aSh, .inl (cI 0, 10, .inl sh))] := hD
    refine lv_iload_n hx hb dX2_meet_15 rfl (lv_at hl 2 rfl) ?_
    refine lv_isub hx hb dX2_meet_16 ?_
    refine lv_istore_n (lv' := [(3, .int (o12 - x2)), (0, .ref aP), (1, .int x1), (2, .int x2)]) hx hb dX2_meet_17 rfl hl (by decide) rfl (fun ls hl => ?_)
    refine lv_iload_n hx hb dX2_meet_18 rfl (lv_at hl 0 rfl) ?_
    refine lv_bipush (v := (-3)) hx hb dX2_meet_19 (by decide) ?_
    refine lv_icmp_lt (tgt := 42) hx hb dX2_meet_21 (by decide) (fun c9 => ?_) (fun c9 => ?_)
    · have hq := kite_t c9 hq
      exact b_42  _ _ _ wl wr le sh x1 (o12 - x2) hq hP hD hS (lv_sub hl [1, 2, 0] rfl)
    · have hq := kite_f c9 hq
      refine lv_iload_n hx hb dX2_meet_24 rfl (lv_at hl 0 rfl) ?_
      refine lv_iconst (v := 3) hx hb dX2_meet_25 (by decide) ?_
      refine lv_icmp_gt (tgt := 42) hx hb dX2_meet_26 (by decide) (fun c9 => ?_) (fun c9 => ?_)
      · have hq := kite_t c9 hq
        exact b_42  _ _ _ wl wr le sh x1 (o12 - x2) hq hP hD hS (lv_sub hl [1, 2, 0] rfl)
      · have hq := kite_f c9 hq
        refine lv_aload_n hx hb dX2_meet_29 rfl (lv_at hl 1 rfl) ?_
        refine lv_iload_n hx hb dX2_meet_30 rfl (lv_at hl 2 rfl) ?_
        refine lv_iconst (v := 4) hx hb dX2_meet_31 (by decide) ?_
        refine lv_iload_n hx hb dX2_meet_32 rfl (lv_at hl 0 rfl) ?_
        obtain ⟨o33, ho33, hq⟩ := kbind hq
        refine kc_Vv (av := [.int x1, .int (4 : Int32), .int (o12 - x2)]) (rest := []) hF hK hG hA (mk_X2_leanMore l D cI aP aLe aSh H.size told wl wr le x1 (4 : Int32) (o12 - x2) o33 ho33) (cwV 3 hts gX2_meet_X2_leanMore rfl rfl rfl (by decide +kernel) ⟨Nat.le_of_ble_eq_true rfl, Nat.le_of_ble_eq_true rfl⟩) hP hD hS [0, 1] (by decide) rfl rfl 0 rfl rfl rfl hl.1 rfl (Nat.le_of_ble_eq_true rfl) ⟨Nat.zero_le _, Nat.zero_le _⟩ dX2_meet_33 (fun H locs hP hD hS => ?_)
        have hP : va_P D vwCl [(aP, .inr (2, [.ref aLe, .ref aSh, .int told, .int o33.1, .int o33.2.1])), (aLe, .inl (cI 0, 10, .inl o33.2.2)), (aSh, .inl (cI 0, 10, .inl sh))] H := hP
        have hD : va_D A [(aP, .inr (2, [.ref aLe, .ref aSh, .int told, .int o33.1, .int o33.2.1])), (aLe, .inl (cI 0, 10, .inl o33.2.2)), (aSh, .inl (cI 0, 10, .inl sh))] := hD
        refine lv_iconst (v := 0) hx hb dX2_meet_36 (by decide) ?_
        refine lv_iload_n hx hb dX2_meet_37 rfl (lv_at hl 0 rfl) ?_
        obtain ⟨o38, ho38, hq⟩ := kbind hq
        refine kc_Si (av := [.int (0 : Int32), .int (o12 - x2)]) (rest := []) hF hK hG hA (mk_J6_compare_7cf53 l D cI H.size (0 : Int32) (o12 - x2) o38 ho38) (va_cwS 2 hts gX2_meet_J6_compare_7cf53 rfl rfl rfl (by decide +kernel) ⟨Nat.le_of_ble_eq_true rfl, Nat.le_of_ble_eq_true rfl⟩) hP hD hS [] (by decide) rfl rfl rfl hl.1 rfl (Nat.le_of_ble_eq_true rfl) ⟨Nat.zero_le _, Nat.zero_le _⟩ dX2_meet_38 (fun H locs hP hD hS => ?_)
        have hP : va_P D vwCl [(aP, .inr (2, [.ref aLe, .ref aSh, .int told, .int o33.1, .int o33.2.1])), (aLe, .inl (cI 0, 10, .inl o33.2.2)), (aSh, .inl (cI 0, 10, .inl sh))] H := hP
        have hD : va_D A [(aP, .inr (2, [.ref aLe, .ref aSh, .int told, .int o33.1, .int o33.2.1])), (aLe, .inl (cI 0, 10, .inl o33.2.2)), (aSh, .inl (cI 0, 10, .inl sh))] := hD
        have ho := Option.some.inj hq
        subst ho
        exact hend _ _ _ _ hP hS dX2_meet_41
  · have hq := kite_t c9 hq
    refine lv_iconst (v := 0) hx hb dX2_meet_8 (by decide) ?_
    have ho := Option.some.inj hq
    subst ho
    exact hend _ _ _ _ hP hS dX2_meet_9

theorem iw_X2_pushBehind_X2 : ∀ w ∈ wsX20, w ∈ wsX2_pushBehind := by decide +kernel
set_option maxHeartbeats 4000000 in
set_option maxRecDepth 100000 in
theorem mk_X2_pushBehind (l : Launch) (D : va_G) (cI : Nat → ClassId) (aP aLe aSh : Nat) (sz : Nat) (told : Int32) (wl : Int32) (wr : Int32) (le : kF) (x1 : Int32) (x2 : Int32) (o : Int32 × Int32 × kF) (hq : fn_X2_pushBehind wl wr le x1 x2 = some o) : Met l yX2_pushBehind wsX2_pushBehind ({ frames := 1, cells := 0, slots := 0, locals := 23 }) (kPc D cI [(aP, .inr (2, [.ref aLe, .ref aSh, .int told, .int wl, .int wr])), (aLe, .inl (cI 0, 10, .inl le))] sz [.ref aP, .int x1, .int x2]) (kQv D [(aP, .inr (2, [.ref aLe, .ref aSh, .int told, .int wl, .int wr])), (aLe, .inl (cI 0, 10, .inl le))] [(aP, .inr (2, [.ref aLe, .ref aSh, .int told, .int o.1, .int o.2.1])), (aLe, .inl (cI 0, 10, .inl o.2.2))] sz) 0 0 (va_A [(aP, .inr (2, [.ref aLe, .ref aSh, .int told, .int wl, .int wr])), (aLe, .inl (cI 0, 10, .inl le))] sz) := by
  refine kM_v (cc := cX2_pushBehind) (maxL := 3) (by decide +kernel) rfl (Nat.le_of_ble_eq_true rfl) ?_
  intro p e s m args below meth c A Q hF hK hG hD hA hend ls hP hS hl
  obtain ⟨hx, hb, hml, hown, hts⟩ := id hF
  have hl : lv_has ls 3 [(0, .ref aP), (1, .int x1), (2, .int x2)] := hl
  have b_38 : ∀ (H : Heap) (locs : List Loc) (ls : Array Slot) (wl : Int32) (wr : Int32) (le : kF), fn_X2_pushBehind_38 wl wr le = some o → va_P D vwCl [(aP, .inr (2, [.ref aLe, .ref aSh, .int told, .int wl, .int wr])), (aLe, .inl (cI 0, 10, .inl le))] H → va_D A [(aP, .inr (2, [.ref aLe, .ref aSh, .int told, .int wl, .int wr])), (aLe, .inl (cI 0, 10, .inl le))] → va_S A s.heap H locs → lv_has ls 3 [] → W p l e { frames := 1, cells := 0, slots := 0, locals := 23 } s m args below meth c H locs 0 0 Q (F0 m 38 ls []) := by
    intro H locs ls wl wr le
    intro hq hP hD hS hl
    have ho := Option.some.inj hq
    subst ho
    exact hend _ _ _ _ hP hS dX2_pushBehind_38
  have b_18 : ∀ (H : Heap) (locs : List Loc) (ls : Array Slot) (wl : Int32) (wr : Int32) (le : kF) (x1 : Int32) (x2 : Int32), fn_X2_pushBehind_18 wl wr le x1 x2 = some o → va_P D vwCl [(aP, .inr (2, [.ref aLe, .ref aSh, .int told, .int wl, .int wr])), (aLe, .inl (cI 0, 10, .inl le))] H → va_D A [(aP, .inr (2, [.ref aLe, .ref aSh, .int told, .int wl, .int wr])), (aLe, .inl (cI 0, 10, .inl le))] → va_S A s.heap H locs → lv_has ls 3 [(0, .ref aP), (1, .int x1), (2, .int x2)] → W p l e { frames := 1, cells := 0, slots := 0, locals := 23 } s m args below meth c H locs 0 0 Q (F0 m 18 ls []) := by
    intro H locs ls wl wr le x1 x2
    intro hq hP hD hS hl
    refine lv_aload_n hx hb dX2_pushBehind_18 rfl (lv_at hl 0 rfl) ?_
    refine va_get (D := D) (ci := 2) (v := .int wr) (C := RX2) (T := TX2) (N := 5) hx hb hts iw_X2_pushBehind_X2 hown hK.1 hP 0 rfl rfl 4 (by decide) (hts (.fieldLink RX2 39 "PinDeck$Pins" "wentRight" "I") (by decide +kernel)) (fun _ h9 => h9) rfl dX2_pushBehind_19 ?_
    refine lv_iload_n hx hb dX2_pushBehind_22 rfl (lv_at hl 1 rfl) ?_
    refine lv_ishr hx hb dX2_pushBehind_23 ?_
    refine lv_iconst (v := 1) hx hb dX2_pushBehind_24 (by decide) ?_
    refine lv_iand hx hb dX2_pushBehind_25 ?_
    refine lv_if_eq (tgt := 38) hx hb dX2_pushBehind_26 (by decide) (fun c9 => ?_) (fun c9 => ?_)
    · have hq := kite_t c9 hq
      exact b_38  _ _ _ wl wr le hq hP hD hS (lv_sub hl [] rfl)
    · have hq := kite_f c9 hq
      refine lv_aload_n hx hb dX2_pushBehind_29 rfl (lv_at hl 0 rfl) ?_
      refine lv_iload_n hx hb dX2_pushBehind_30 rfl (lv_at hl 2 rfl) ?_
      refine lv_iconst (v := 1) hx hb dX2_pushBehind_31 (by decide) ?_
      refine lv_iadd hx hb dX2_pushBehind_32 ?_
      refine lv_iconst (v := 2) hx hb dX2_pushBehind_33 (by decide) ?_
      refine lv_iconst (v := 1) hx hb dX2_pushBehind_34 (by decide) ?_
      obtain ⟨o35, ho35, hq⟩ := kbind hq
      refine kc_Vv (av := [.int (x2 + (1 : Int32)), .int (2 : Int32), .int (1 : Int32)]) (rest := []) hF hK hG hA (mk_X2_leanMore l D cI aP aLe aSh H.size told wl wr le (x2 + (1 : Int32)) (2 : Int32) (1 : Int32) o35 ho35) (cwV 3 hts gX2_pushBehind_X2_leanMore rfl rfl rfl (by decide +kernel) ⟨Nat.le_of_ble_eq_true rfl, Nat.le_of_ble_eq_true rfl⟩) hP hD hS [0, 1] (by decide) rfl rfl 0 rfl rfl rfl hl.1 rfl (Nat.le_of_ble_eq_true rfl) ⟨Nat.zero_le _, Nat.zero_le _⟩ dX2_pushBehind_35 (fun H locs hP hD hS => ?_)
      have hP : va_P D vwCl [(aP, .inr (2, [.ref aLe, .ref aSh, .int told, .int o35.1, .int o35.2.1])), (aLe, .inl (cI 0, 10, .inl o35.2.2))] H := hP
      have hD : va_D A [(aP, .inr (2, [.ref aLe, .ref aSh, .int told, .int o35.1, .int o35.2.1])), (aLe, .inl (cI 0, 10, .inl o35.2.2))] := hD
      exact b_38  _ _ _ o35.1 o35.2.1 o35.2.2 hq hP hD hS (lv_sub hl [] rfl)
  refine lv_aload_n hx hb dX2_pushBehind_0 rfl (lv_at hl 0 rfl) ?_
  refine va_get (D := D) (ci := 2) (v := .int wl) (C := RX2) (T := TX2) (N := 5) hx hb hts iw_X2_pushBehind_X2 hown hK.1 hP 0 rfl rfl 3 (by decide) (hts (.fieldLink RX2 36 "PinDeck$Pins" "wentLeft" "I") (by decide +kernel)) (fun _ h9 => h9) rfl dX2_pushBehind_1 ?_
  refine lv_iload_n hx hb dX2_pushBehind_4 rfl (lv_at hl 1 rfl) ?_
  refine lv_ishr hx hb dX2_pushBehind_5 ?_
  refine lv_iconst (v := 1) hx hb dX2_pushBehind_6 (by decide) ?_
  refine lv_iand hx hb dX2_pushBehind_7 ?_
  refine lv_if_eq (tgt := 18) hx hb dX2_pushBehind_8 (by decide) (fun c9 => ?_) (fun c9 => ?_)
  · have hq := kite_t c9 hq
    exact b_18  _ _ _ wl wr le x1 x2 hq hP hD hS (lv_sub hl [0, 1, 2] rfl)
  · have hq := kite_f c9 hq
    refine lv_aload_n hx hb dX2_pushBehind_11 rfl (lv_at hl 0 rfl) ?_
    refine lv_iload_n hx hb dX2_pushBehind_12 rfl (lv_at hl 2 rfl) ?_
    refine lv_iconst (v := 2) hx hb dX2_pushBehind_13 (by decide) ?_
    refine lv_iconst (v := (-1)) hx hb dX2_pushBehind_14 (by decide) ?_
    obtain ⟨o15, ho15, hq⟩ := kbind hq
    refine kc_Vv (av := [.int x2, .int (2 : Int32), .int (-1 : Int32)]) (rest := []) hF hK hG hA (mk_X2_leanMore l D cI aP aLe aSh s.heap.size told wl wr le x2 (2 : Int32) (-1 : Int32) o15 ho15) (cwV 3 hts gX2_pushBehind_X2_leanMore rfl rfl rfl (by decide +kernel) ⟨Nat.le_of_ble_eq_true rfl, Nat.le_of_ble_eq_true rfl⟩) hP hD hS [0, 1] (by decide) rfl rfl 0 rfl rfl rfl hl.1 rfl (Nat.le_of_ble_eq_true rfl) ⟨Nat.zero_le _, Nat.zero_le _⟩ dX2_pushBehind_15 (fun H locs hP hD hS => ?_)
    have hP : va_P D vwCl [(aP, .inr (2, [.ref aLe, .ref aSh, .int told, .int o15.1, .int o15.2.1])), (aLe, .inl (cI 0, 10, .inl o15.2.2))] H := hP
    have hD : va_D A [(aP, .inr (2, [.ref aLe, .ref aSh, .int told, .int o15.1, .int o15.2.1])), (aLe, .inl (cI 0, 10, .inl o15.2.2))] := hD
    exact b_18  _ _ _ o15.1 o15.2.1 o15.2.2 x1 x2 hq hP hD hS (lv_sub hl [0, 1, 2] rfl)

theorem iw_X2_meetBall_X2 : ∀ w ∈ wsX20, w ∈ wsX2_meetBall := by decide +kernel
set_option maxHeartbeats 4000000 in
set_option maxRecDepth 100000 in
theorem mk_X2_meetBall (l : Launch) (D : va_G) (cI : Nat → ClassId) (aP aLe aSh : Nat) (sz : Nat) (told : Int32) (wl : Int32) (wr : Int32) (le : kF) (sh : kF) (x1 : Int32) (x2 : Int32) (o : Int32 × Int32 × kF × kF) (hq : fn_X2_meetBall wl wr le sh x1 x2 = some o) : Met l yX2_meetBall wsX2_meetBall ({ frames := 2, cells := 0, slots := 0, locals := 47 }) (kPc D cI [(aP, .inr (2, [.ref aLe, .ref aSh, .int told, .int wl, .int wr])), (aLe, .inl (cI 0, 10, .inl le)), (aSh, .inl (cI 0, 10, .inl sh))] sz [.ref aP, .int x1, .int x2]) (kQv D [(aP, .inr (2, [.ref aLe, .ref aSh, .int told, .int wl, .int wr])), (aLe, .inl (cI 0, 10, .inl le)), (aSh, .inl (cI 0, 10, .inl sh))] [(aP, .inr (2, [.ref aLe, .ref aSh, .int told, .int o.1, .int o.2.1])), (aLe, .inl (cI 0, 10, .inl o.2.2.1)), (aSh, .inl (cI 0, 10, .inl o.2.2.2))] sz) 0 0 (va_A [(aP, .inr (2, [.ref aLe, .ref aSh, .int told, .int wl, .int wr])), (aLe, .inl (cI 0, 10, .inl le)), (aSh, .inl (cI 0, 10, .inl sh))] sz) := by
  refine kM_v (cc := cX2_meetBall) (maxL := 9) (by decide +kernel) rfl (Nat.le_of_ble_eq_true rfl) ?_
  intro p e s m args below meth c A Q hF hK hG hD hA hend ls hP hS hl
  obtain ⟨hx, hb, hml, hown, hts⟩ := id hF
  have hl : lv_has ls 9 [(0, .ref aP), (1, .int x1), (2, .int x2)] := hl
  have b_75 : ∀ (q18 : Int32 → Int32 → kF → kF → Int32 → Int32 → Int32 → Int32 → Int32 → Option (Int32 × Int32 × kF × kF)), (∀ (H : Heap) (locs : List Loc) (ls : Array Slot) (wl : Int32) (wr : Int32) (le : kF) (sh : kF) (x1 : Int32) (x2 : Int32) (x3 : Int32) (x4 : Int32) (x5 : Int32), q18 wl wr le sh x1 x2 x3 x4 x5 = some o → va_P D vwCl [(aP, .inr (2, [.ref aLe, .ref aSh, .int told, .int wl, .int wr])), (aLe, .inl (cI 0, 10, .inl le)), (aSh, .inl (cI 0, 10, .inl sh))] H → va_D A [(aP, .inr (2, [.ref aLe, .ref aSh, .int told, .int wl, .int wr])), (aLe, .inl (cI 0, 10, .inl le)), (aSh, .inl (cI 0, 10, .inl sh))] → va_S A s.heap H locs → lv_has ls 9 [(0, .ref aP), (1, .int x1), (2, .int x2), (3, .int x3), (4, .int x4), (5, .int x5)] → W p l e { frames := 2, cells := 0, slots := 0, locals := 47 } s m args below meth c H locs 0 0 Q (F0 m 18 ls [])) → ∀ (q : Nat), ∀ (H : Heap) (locs : List Loc) (ls : Array Slot) (wl : Int32) (wr : Int32) (le : kF) (sh : kF) (x1 : Int32) (x2 : Int32) (x3 : Int32) (x5 : Int32) (x7 : Int32) (x8 : Int32), fn_X2_meetBall_75 q18 q wl wr le sh x1 x2 x3 x5 x7 x8 = some o → va_P D vwCl [(aP, .inr (2, [.ref aLe, .ref aSh, .int told, .int wl, .int wr])), (aLe, .inl (cI 0, 10, .inl le)), (aSh, .inl (cI 0, 10, .inl sh))] H → va_D A [(aP, .inr (2, [.ref aLe, .ref aSh, .int told, .int wl, .int wr])), (aLe, .inl (cI 0, 10, .inl le)), (aSh, .inl (cI 0, 10, .inl sh))] → va_S A s.heap H locs → lv_has ls 9 [(0, .ref aP), (1, .int x1), (2, .int x2), (3, .int x3), (5, .int x5), (7, .int x7), (8, .int x8)] → W p l e { frames := 2, cells := 0, slots := 0, locals := 47 } s m args below meth c H locs 0 0 Q (F0 m 75 ls []) := by
    intro q18 i18
    intro q
    induction q with
    | zero =>
      intro H locs ls wl wr le sh x1 x2 x3 x5 x7 x8
      intro hq
      cases hq
    | succ q ih =>
      intro H locs ls wl wr le sh x1 x2 x3 x5 x7 x8
      intro hq hP hD hS hl
      refine lv_iload hx hb dX2_meetBall_75 (lv_at hl 6 rfl) ?_
      refine lv_iload hx hb dX2_meetBall_77 (lv_at hl 5 rfl) ?_
      refine lv_icmp_ge (tgt := 101) hx hb dX2_meetBall_79 (by decide) (fun c9 => ?_) (fun c9 => ?_)
      · have hq := kite_t c9 hq
        refine lv_iload hx hb dX2_meetBall_101 (lv_at hl 5 rfl) ?_
        refine lv_istore (lv' := [(4, .int x7), (0, .ref aP), (1, .int x1), (2, .int x2), (3, .int x3), (5, .int x5), (7, .int x7), (8, .int x8)]) hx hb dX2_meetBall_103 hl (by decide) rfl (fun ls hl => ?_)
        refine lv_iinc (v := (x5 + 1)) (lv' := [(5, .int (x5 + 1)), (4, .int x7), (0, .ref aP), (1, .int x1), (2, .int x2), (3, .int x3), (7, .int x7), (8, .int x8)]) hx hb dX2_meetBall_105 hl (k := 5) rfl rfl (by decide) rfl (fun ls hl => ?_)
        refine lv_goto (tgt := 18) hx hb dX2_meetBall_108 (by decide) ?_
        exact i18 _ _ _ wl wr le sh x1 x2 x3 x7 (x5 + 1) hq hP hD hS (lv_sub hl [2, 3, 4, 5, 1, 0] rfl)
      · have hq := kite_f c9 hq
        refine lv_aload_n hx hb dX2_meetBall_82 rfl (lv_at hl 0 rfl) ?_
        refine lv_iload hx hb dX2_meetBall_83 (lv_at hl 6 rfl) ?_
        refine lv_iload hx hb dX2_meetBall_85 (lv_at hl 6 rfl) ?_
        refine lv_iload hx hb dX2_meetBall_87 (lv_at hl 4 rfl) ?_
        refine lv_iadd hx hb dX2_meetBall_89 ?_
        refine lv_iconst (v := 1) hx hb dX2_meetBall_90 (by decide) ?_
        refine lv_iadd hx hb dX2_meetBall_91 ?_
        obtain ⟨o92, ho92, hq⟩ := kbind hq
        refine kc_Vv (av := [.int x8, .int ((x8 + x5) + (1 : Int32))]) (rest := []) hF hK hG hA (mk_X2_pushBehind l D cI aP aLe aSh H.size told wl wr le x8 ((x8 + x5) + (1 : Int32)) o92 ho92) (cwV 2 hts gX2_meetBall_X2_pushBehind rfl rfl rfl (by decide +kernel) ⟨Nat.le_of_ble_eq_true rfl, Nat.le_of_ble_eq_true rfl⟩) hP hD hS [0, 1] (by decide) rfl rfl 0 rfl rfl rfl hl.1 rfl (Nat.le_of_ble_eq_true rfl) ⟨Nat.zero_le _, Nat.zero_le _⟩ dX2_meetBall_92 (fun H locs hP hD hS => ?_)
        have hP : va_P D vwCl [(aP, .inr (2, [.ref aLe, .ref aSh, .int told, .int o92.1, .int o92.2.1])), (aLe, .inl (cI 0, 10, .inl o92.2.2)), (aSh, .inl (cI 0, 10, .inl sh))] H := hP
        have hD : va_D A [(aP, .inr (2, [.ref aLe, .ref aSh, .int told, .int o92.1, .int o92.2.1])), (aLe, .inl (cI 0, 10, .inl o92.2.2)), (aSh, .inl (cI 0, 10, .inl sh))] := hD
        refine lv_iinc (v := (x8 + 1)) (lv' := [(8, .int (x8 + 1)), (0, .ref aP), (1, .int x1), (2, .int x2), (3, .int x3), (5, .int x5), (7, .int x7)]) hx hb dX2_meetBall_95 hl (k := 6) rfl rfl (by decide) rfl (fun ls hl => ?_)
        refine lv_goto (tgt := 75) hx hb dX2_meetBall_98 (by decide) ?_
        exact ih _ _ _ o92.1 o92.2.1 o92.2.2 sh x1 x2 x3 x5 x7 (x8 + 1) hq hP hD hS (lv_sub hl [1, 2, 3, 4, 5, 6, 0] rfl)
  have b_47 : ∀ (q18 : Int32 → Int32 → kF → kF → Int32 → Int32 → Int32 → Int32 → Int32 → Option (Int32 × Int32 × kF × kF)), (∀ (H : Heap) (locs : List Loc) (ls : Array Slot) (wl : Int32) (wr : Int32) (le : kF) (sh : kF) (x1 : Int32) (x2 : Int32) (x3 : Int32) (x4 : Int32) (x5 : Int32), q18 wl wr le sh x1 x2 x3 x4 x5 = some o → va_P D vwCl [(aP, .inr (2, [.ref aLe, .ref aSh, .int told, .int wl, .int wr])), (aLe, .inl (cI 0, 10, .inl le)), (aSh, .inl (cI 0, 10, .inl sh))] H → va_D A [(aP, .inr (2, [.ref aLe, .ref aSh, .int told, .int wl, .int wr])), (aLe, .inl (cI 0, 10, .inl le)), (aSh, .inl (cI 0, 10, .inl sh))] → va_S A s.heap H locs → lv_has ls 9 [(0, .ref aP), (1, .int x1), (2, .int x2), (3, .int x3), (4, .int x4), (5, .int x5)] → W p l e { frames := 2, cells := 0, slots := 0, locals := 47 } s m args below meth c H locs 0 0 Q (F0 m 18 ls [])) → ∀ (q : Nat), ∀ (H : Heap) (locs : List Loc) (ls : Array Slot) (wl : Int32) (wr : Int32) (le : kF) (sh : kF) (x1 : Int32) (x2 : Int32) (x3 : Int32) (x4 : Int32) (x5 : Int32) (x6 : Int32) (x7 : Int32) (x8 : Int32), fn_X2_meetBall_47 q18 q wl wr le sh x1 x2 x3 x4 x5 x6 x7 x8 = some o → va_P D vwCl [(aP, .inr (2, [.ref aLe, .ref aSh, .int told, .int wl, .int wr])), (aLe, .inl (cI 0, 10, .inl le)), (aSh, .inl (cI 0, 10, .inl sh))] H → va_D A [(aP, .inr (2, [.ref aLe, .ref aSh, .int told, .int wl, .int wr])), (aLe, .inl (cI 0, 10, .inl le)), (aSh, .inl (cI 0, 10, .inl sh))] → va_S A s.heap H locs → lv_has ls 9 [(0, .ref aP), (1, .int x1), (2, .int x2), (3, .int x3), (4, .int x4), (5, .int x5), (6, .int x6), (7, .int x7), (8, .int x8)] → W p l e { frames := 2, cells := 0, slots := 0, locals := 47 } s m args below meth c H locs 0 0 Q (F0 m 47 ls []) := by
    intro q18 i18
    intro q
    induction q with
    | zero =>
      intro H locs ls wl wr le sh x1 x2 x3 x4 x5 x6 x7 x8
      intro hq
      cases hq
    | succ q ih =>
      intro H locs ls wl wr le sh x1 x2 x3 x4 x5 x6 x7 x8
      intro hq hP hD hS hl
      refine lv_iload hx hb dX2_meetBall_47 (lv_at hl 8 rfl) ?_
      refine lv_iload hx hb dX2_meetBall_49 (lv_at hl 7 rfl) ?_
      refine lv_icmp_ge (tgt := 71) hx hb dX2_meetBall_51 (by decide) (fun c9 => ?_) (fun c9 => ?_)
      · have hq := kite_t c9 hq
        refine lv_iload hx hb dX2_meetBall_71 (lv_at hl 4 rfl) ?_
        refine lv_istore (lv' := [(8, .int x4), (0, .ref aP), (1, .int x1), (2, .int x2), (3, .int x3), (4, .int x4), (5, .int x5), (6, .int x6), (7, .int x7)]) hx hb dX2_meetBall_73 hl (by decide) rfl (fun ls hl => ?_)
        exact b_75 q18 i18 4096 _ _ _ wl wr le sh x1 x2 x3 x5 x7 x4 hq hP hD hS (lv_sub hl [1, 2, 3, 4, 6, 8, 0] rfl)
      · have hq := kite_f c9 hq
        refine lv_iload_n hx hb dX2_meetBall_54 rfl (lv_at hl 3 rfl) ?_
        refine lv_aload_n hx hb dX2_meetBall_55 rfl (lv_at hl 0 rfl) ?_
        refine lv_iload hx hb dX2_meetBall_56 (lv_at hl 8 rfl) ?_
        refine lv_iload hx hb dX2_meetBall_58 (lv_at hl 6 rfl) ?_
        obtain ⟨o60, ho60, hq⟩ := kbind hq
        refine kc_Vi (av := [.int x8, .int x6]) (rest := [.int x3]) hF hK hG hA (mk_X2_meet l D cI aP aLe aSh H.size told wl wr le sh x8 x6 o60 ho60) (cwV 2 hts gX2_meetBall_X2_meet rfl rfl rfl (by decide +kernel) ⟨Nat.le_of_ble_eq_true rfl, Nat.le_of_ble_eq_true rfl⟩) hP hD hS [0, 1, 2] (by decide) rfl rfl 0 rfl rfl rfl hl.1 rfl (Nat.le_of_ble_eq_true rfl) ⟨Nat.zero_le _, Nat.zero_le _⟩ dX2_meetBall_60 (fun H locs hP hD hS => ?_)
        have hP : va_P D vwCl [(aP, .inr (2, [.ref aLe, .ref aSh, .int told, .int o60.2.1, .int o60.2.2.1])), (aLe, .inl (cI 0, 10, .inl o60.2.2.2.1)), (aSh, .inl (cI 0, 10, .inl o60.2.2.2.2))] H := hP
        have hD : va_D A [(aP, .inr (2, [.ref aLe, .ref aSh, .int told, .int o60.2.1, .int o60.2.2.1])), (aLe, .inl (cI 0, 10, .inl o60.2.2.2.1)), (aSh, .inl (cI 0, 10, .inl o60.2.2.2.2))] := hD
        refine lv_iadd hx hb dX2_meetBall_63 ?_
        refine lv_istore_n (lv' := [(3, .int (x3 + o60.1)), (0, .ref aP), (1, .int x1), (2, .int x2), (4, .int x4), (5, .int x5), (6, .int x6), (7, .int x7), (8, .int x8)]) hx hb dX2_meetBall_64 rfl hl (by decide) rfl (fun ls hl => ?_)
        refine lv_iinc (v := (x8 + 1)) (lv' := [(8, .int (x8 + 1)), (3, .int (x3 + o60.1)), (0, .ref aP), (1, .int x1), (2, .int x2), (4, .int x4), (5, .int x5), (6, .int x6), (7, .int x7)]) hx hb dX2_meetBall_65 hl (k := 8) rfl rfl (by decide) rfl (fun ls hl => ?_)
        refine lv_goto (tgt := 47) hx hb dX2_meetBall_68 (by decide) ?_
        exact ih _ _ _ o60.2.1 o60.2.2.1 o60.2.2.2.1 o60.2.2.2.2 x1 x2 (x3 + o60.1) x4 x5 x6 x7 (x8 + 1) hq hP hD hS (lv_sub hl [2, 3, 4, 1, 5, 6, 7, 8, 0] rfl)
  have b_18 : ∀ (q : Nat), ∀ (H : Heap) (locs : List Loc) (ls : Array Slot) (wl : Int32) (wr : Int32) (le : kF) (sh : kF) (x1 : Int32) (x2 : Int32) (x3 : Int32) (x4 : Int32) (x5 : Int32), fn_X2_meetBall_18 q wl wr le sh x1 x2 x3 x4 x5 = some o → va_P D vwCl [(aP, .inr (2, [.ref aLe, .ref aSh, .int told, .int wl, .int wr])), (aLe, .inl (cI 0, 10, .inl le)), (aSh, .inl (cI 0, 10, .inl sh))] H → va_D A [(aP, .inr (2, [.ref aLe, .ref aSh, .int told, .int wl, .int wr])), (aLe, .inl (cI 0, 10, .inl le)), (aSh, .inl (cI 0, 10, .inl sh))] → va_S A s.heap H locs → lv_has ls 9 [(0, .ref aP), (1, .int x1), (2, .int x2), (3, .int x3), (4, .int x4), (5, .int x5)] → W p l e { frames := 2, cells := 0, slots := 0, locals := 47 } s m args below meth c H locs 0 0 Q (F0 m 18 ls []) := by
    intro q
    induction q with
    | zero =>
      intro H locs ls wl wr le sh x1 x2 x3 x4 x5
      intro hq
      cases hq
    | succ q ih =>
      intro H locs ls wl wr le sh x1 x2 x3 x4 x5
      intro hq hP hD hS hl
      refine lv_iload hx hb dX2_meetBall_18 (lv_at hl 5 rfl) ?_
      refine lv_iconst (v := 4) hx hb dX2_meetBall_20 (by decide) ?_
      refine lv_icmp_ge (tgt := 111) hx hb dX2_meetBall_21 (by decide) (fun c9 => ?_) (fun c9 => ?_)
      · have hq := kite_t c9 hq
        have ho := Option.some.inj hq
        subst ho
        exact hend _ _ _ _ hP hS dX2_meetBall_111
      · have hq := kite_f c9 hq
        refine lv_iload_n hx hb dX2_meetBall_24 rfl (lv_at hl 1 rfl) ?_
        refine lv_iload_n hx hb dX2_meetBall_25 rfl (lv_at hl 2 rfl) ?_
        refine lv_iload hx hb dX2_meetBall_26 (lv_at hl 5 rfl) ?_
        refine lv_imul hx hb dX2_meetBall_28 ?_
        refine lv_iadd hx hb dX2_meetBall_29 ?_
        refine lv_iload_n hx hb dX2_meetBall_30 rfl (lv_at hl 3 rfl) ?_
        refine lv_iadd hx hb dX2_meetBall_31 ?_
        refine lv_istore (lv' := [(6, .int ((x1 + (x2 * x5)) + x3)), (0, .ref aP), (1, .int x1), (2, .int x2), (3, .int x3), (4, .int x4), (5, .int x5)]) hx hb dX2_meetBall_32 hl (by decide) rfl (fun ls hl => ?_)
        refine lv_iload hx hb dX2_meetBall_34 (lv_at hl 5 rfl) ?_
        refine lv_iload hx hb dX2_meetBall_36 (lv_at hl 6 rfl) ?_
        refine lv_iadd hx hb dX2_meetBall_38 ?_
        refine lv_iconst (v := 1) hx hb dX2_meetBall_39 (by decide) ?_
        refine lv_iadd hx hb dX2_meetBall_40 ?_
        refine lv_istore (lv' := [(7, .int ((x4 + x5) + (1 : Int32))), (6, .int ((x1 + (x2 * x5)) + x3)), (0, .ref aP), (1, .int x1), (2, .int x2), (3, .int x3), (4, .int x4), (5, .int x5)]) hx hb dX2_meetBall_41 hl (by decide) rfl (fun ls hl => ?_)
        refine lv_iload hx hb dX2_meetBall_43 (lv_at hl 6 rfl) ?_
        refine lv_istore (lv' := [(8, .int x4), (7, .int ((x4 + x5) + (1 : Int32))), (6, .int ((x1 + (x2 * x5)) + x3)), (0, .ref aP), (1, .int x1), (2, .int x2), (3, .int x3), (4, .int x4), (5, .int x5)]) hx hb dX2_meetBall_45 hl (by decide) rfl (fun ls hl => ?_)
        exact b_47 (fn_X2_meetBall_18 q) ih 4096 _ _ _ wl wr le sh x1 x2 x3 x4 x5 ((x1 + (x2 * x5)) + x3) ((x4 + x5) + (1 : Int32)) x4 hq hP hD hS (lv_sub hl [3, 4, 5, 6, 7, 8, 2, 1, 0] rfl)
  refine lv_aload_n hx hb dX2_meetBall_0 rfl (lv_at hl 0 rfl) ?_
  refine lv_iconst (v := 0) hx hb dX2_meetBall_1 (by decide) ?_
  refine va_put (D := D) (ci := 2) (v := .int (0 : Int32)) (ty := .int) (C := RX2) (T := TX2) (N := 5) hx hb hts iw_X2_meetBall_X2 tyX2 tyX2_ok nmX2 hown hK.1 hP hD hS 0 rfl rfl 3 (by decide) (hts (.fieldLink RX2 36 "PinDeck$Pins" "wentLeft" "I") (by decide +kernel)) (fun _ h9 => h9) rfl (by decide +kernel) rfl rfl (Nat.le_of_ble_eq_true rfl) dX2_meetBall_2 (fun H locs hP hD hS => ?_)
  have hP : va_P D vwCl [(aP, .inr (2, [.ref aLe, .ref aSh, .int told, .int (0 : Int32), .int wr])), (aLe, .inl (cI 0, 10, .inl le)), (aSh, .inl (cI 0, 10, .inl sh))] H := hP
  have hD : va_D A [(aP, .inr (2, [.ref aLe, .ref aSh, .int told, .int (0 : Int32), .int wr])), (aLe, .inl (cI 0, 10, .inl le)), (aSh, .inl (cI 0, 10, .inl sh))] := hD
  refine lv_aload_n hx hb dX2_meetBall_5 rfl (lv_at hl 0 rfl) ?_
  refine lv_iconst (v := 0) hx hb dX2_meetBall_6 (by decide) ?_
  refine va_put (D := D) (ci := 2) (v := .int (0 : Int32)) (ty := .int) (C := RX2) (T := TX2) (N := 5) hx hb hts iw_X2_meetBall_X2 tyX2 tyX2_ok nmX2 hown hK.1 hP hD hS 0 rfl rfl 4 (by decide) (hts (.fieldLink RX2 39 "PinDeck$Pins" "wentRight" "I") (by decide +kernel)) (fun _ h9 => h9) rfl (by decide +kernel) rfl rfl (Nat.le_of_ble_eq_true rfl) dX2_meetBall_7 (fun H locs hP hD hS => ?_)
  have hP : va_P D vwCl [(aP, .inr (2, [.ref aLe, .ref aSh, .int told, .int (0 : Int32), .int (0 : Int32)])), (aLe, .inl (cI 0, 10, .inl le)), (aSh, .inl (cI 0, 10, .inl sh))] H := hP
  have hD : va_D A [(aP, .inr (2, [.ref aLe, .ref aSh, .int told, .int (0 : Int32), .int (0 : Int32)])), (aLe, .inl (cI 0, 10, .inl le)), (aSh, .inl (cI 0, 10, .inl sh))] := hD
  refine lv_iconst (v := 0) hx hb dX2_meetBall_10 (by decide) ?_
  refine lv_istore_n (lv' := [(3, .int (0 : Int32)), (0, .ref aP), (1, .int x1), (2, .int x2)]) hx hb dX2_meetBall_11 rfl hl (by decide) rfl (fun ls hl => ?_)
  refine lv_iconst (v := 0) hx hb dX2_meetBall_12 (by decide) ?_
  refine lv_istore (lv' := [(4, .int (0 : Int32)), (3, .int (0 : Int32)), (0, .ref aP), (1, .int x1), (2, .int x2)]) hx hb dX2_meetBall_13 hl (by decide) rfl (fun ls hl => ?_)
  refine lv_iconst (v := 0) hx hb dX2_meetBall_15 (by decide) ?_
  refine lv_istore (lv' := [(5, .int (0 : Int32)), (4, .int (0 : Int32)), (3, .int (0 : Int32)), (0, .ref aP), (1, .int x1), (2, .int x2)]) hx hb dX2_meetBall_16 hl (by decide) rfl (fun ls hl => ?_)
  exact b_18 4096 _ _ _ (0 : Int32) (0 : Int32) le sh x1 x2 (0 : Int32) (0 : Int32) (0 : Int32) hq hP hD hS (lv_sub hl [3, 4, 5, 2, 1, 0] rfl)

theorem iw_X2_moreThan_X2 : ∀ w ∈ wsX20, w ∈ wsX2_moreThan := by decide +kernel
set_option maxHeartbeats 4000000 in
set_option maxRecDepth 100000 in
theorem mk_X2_moreThan (l : Launch) (D : va_G) (cI : Nat → ClassId) (aP aLe aSh : Nat) (sz : Nat) (told : Int32) (wl : Int32) (wr : Int32) (le : kF) (x1 : Int32) (o : Int32) (hq : fn_X2_moreThan le x1 = some o) : Met l yX2_moreThan wsX2_moreThan ({ frames := 0, cells := 0, slots := 0, locals := 0 }) (kPc D cI [(aP, .inr (2, [.ref aLe, .ref aSh, .int told, .int wl, .int wr])), (aLe, .inl (cI 0, 10, .inl le))] sz [.ref aP, .int x1]) (kQi D [(aP, .inr (2, [.ref aLe, .ref aSh, .int told, .int wl, .int wr])), (aLe, .inl (cI 0, 10, .inl le))] [(aP, .inr (2, [.ref aLe, .ref aSh, .int told, .int wl, .int wr])), (aLe, .inl (cI 0, 10, .inl le))] sz o) 0 0 (va_A [(aP, .inr (2, [.ref aLe, .ref aSh, .int told, .int wl, .int wr])), (aLe, .inl (cI 0, 10, .inl le))] sz) := by
  refine kM_i (cc := cX2_moreThan) (maxL := 4) (by decide +kernel) rfl (Nat.le_of_ble_eq_true rfl) ?_
  intro p e s m args below meth c A Q hF hK hG hD hA hend ls hP hS hl
  obtain ⟨hx, hb, hml, hown, hts⟩ := id hF
  have hl : lv_has ls 4 [(0, .ref aP), (1, .int x1)] := hl
  have b_26 : ∀ (q4 : kF → Int32 → Int32 → Int32 → Option (Int32)), (∀ (H : Heap) (locs : List Loc) (ls : Array Slot) (x1 : Int32) (x2 : Int32) (x3 : Int32), q4 le x1 x2 x3 = some o → va_P D vwCl [(aP, .inr (2, [.ref aLe, .ref aSh, .int told, .int wl, .int wr])), (aLe, .inl (cI 0, 10, .inl le))] H → va_S A s.heap H locs → lv_has ls 4 [(0, .ref aP), (1, .int x1), (2, .int x2), (3, .int x3)] → W p l e { frames := 0, cells := 0, slots := 0, locals := 0 } s m args below meth c H locs 0 0 Q (F0 m 4 ls [])) → ∀ (H : Heap) (locs : List Loc) (ls : Array Slot) (x1 : Int32) (x2 : Int32) (x3 : Int32), fn_X2_moreThan_26 q4 le x1 x2 x3 = some o → va_P D vwCl [(aP, .inr (2, [.ref aLe, .ref aSh, .int told, .int wl, .int wr])), (aLe, .inl (cI 0, 10, .inl le))] H → va_S A s.heap H locs → lv_has ls 4 [(0, .ref aP), (1, .int x1), (2, .int x2), (3, .int x3)] → W p l e { frames := 0, cells := 0, slots := 0, locals := 0 } s m args below meth c H locs 0 0 Q (F0 m 26 ls []) := by
    intro q4 i4
    intro H locs ls x1 x2 x3
    intro hq hP hS hl
    refine lv_iinc (v := (x3 + 1)) (lv' := [(3, .int (x3 + 1)), (0, .ref aP), (1, .int x1), (2, .int x2)]) hx hb dX2_moreThan_26 hl (k := 3) rfl rfl (by decide) rfl (fun ls hl => ?_)
    refine lv_goto (tgt := 4) hx hb dX2_moreThan_29 (by decide) ?_
    exact i4 _ _ _ x1 x2 (x3 + 1) hq hP hS (lv_sub hl [1, 2, 3, 0] rfl)
  have b_4 : ∀ (q : Nat), ∀ (H : Heap) (locs : List Loc) (ls : Array Slot) (x1 : Int32) (x2 : Int32) (x3 : Int32), fn_X2_moreThan_4 q le x1 x2 x3 = some o → va_P D vwCl [(aP, .inr (2, [.ref aLe, .ref aSh, .int told, .int wl, .int wr])), (aLe, .inl (cI 0, 10, .inl le))] H → va_S A s.heap H locs → lv_has ls 4 [(0, .ref aP), (1, .int x1), (2, .int x2), (3, .int x3)] → W p l e { frames := 0, cells := 0, slots := 0, locals := 0 } s m args below meth c H locs 0 0 Q (F0 m 4 ls []) := by
    intro q
    induction q with
    | zero =>
      intro H locs ls x1 x2 x3
      intro hq
      cases hq
    | succ q ih =>
      intro H locs ls x1 x2 x3
      intro hq hP hS hl
      refine lv_iload_n hx hb dX2_moreThan_4 rfl (lv_at hl 3 rfl) ?_
      refine lv_bipush (v := 10) hx hb dX2_moreThan_5 (by decide) ?_
      refine lv_icmp_ge (tgt := 32) hx hb dX2_moreThan_7 (by decide) (fun c9 => ?_) (fun c9 => ?_)
      · have hq := kite_t c9 hq
        refine lv_iload_n hx hb dX2_moreThan_32 rfl (lv_at hl 2 rfl) ?_
        have ho := Option.some.inj hq
        subst ho
        exact hend _ _ _ _ hP hS dX2_moreThan_33
      · have hq := kite_f c9 hq
        refine lv_aload_n hx hb dX2_moreThan_10 rfl (lv_at hl 0 rfl) ?_
        refine va_get (D := D) (ci := 2) (v := .ref aLe) (C := RX2) (T := TX2) (N := 5) hx hb hts iw_X2_moreThan_X2 hown hK.1 hP 0 rfl rfl 0 (by decide) (hts (.fieldLink RX2 9 "PinDeck$Pins" "leaning" "[I") (by decide +kernel)) (fun _ h9 => h9) rfl dX2_moreThan_11 ?_
        refine lv_iload_n hx hb dX2_moreThan_14 rfl (lv_at hl 3 rfl) ?_
        obtain ⟨hz, hq⟩ := kite_n hq
        refine k_iald (j := (x3.toNatClampNeg)) hx hb hK.1 hP 1 0 rfl rfl hz rfl dX2_moreThan_15 ?_
        refine lv_iload_n hx hb dX2_moreThan_16 rfl (lv_at hl 1 rfl) ?_
        refine lv_icmp_le (tgt := 26) hx hb dX2_moreThan_17 (by decide) (fun c9 => ?_) (fun c9 => ?_)
        · have hq := kite_t c9 hq
          exact b_26 (fn_X2_moreThan_4 q) ih _ _ _ x1 x2 x3 hq hP hS (lv_sub hl [0, 1, 2, 3] rfl)
        · have hq := kite_f c9 hq
          refine lv_iload_n hx hb dX2_moreThan_20 rfl (lv_at hl 2 rfl) ?_
          refine lv_iconst (v := 1) hx hb dX2_moreThan_21 (by decide) ?_
          refine lv_iload_n hx hb dX2_moreThan_22 rfl (lv_at hl 3 rfl) ?_
          refine lv_ishl hx hb dX2_moreThan_23 ?_
          refine lv_ior hx hb dX2_moreThan_24 ?_
          refine lv_istore_n (lv' := [(2, .int (x2 ||| ((1 : Int32) <<< (x3 &&& 31)))), (0, .ref aP), (1, .int x1), (3, .int x3)]) hx hb dX2_moreThan_25 rfl hl (by decide) rfl (fun ls hl => ?_)
          exact b_26 (fn_X2_moreThan_4 q) ih _ _ _ x1 (x2 ||| ((1 : Int32) <<< (x3 &&& 31))) x3 hq hP hS (lv_sub hl [1, 2, 0, 3] rfl)
  refine lv_iconst (v := 0) hx hb dX2_moreThan_0 (by decide) ?_
  refine lv_istore_n (lv' := [(2, .int (0 : Int32)), (0, .ref aP), (1, .int x1)]) hx hb dX2_moreThan_1 rfl hl (by decide) rfl (fun ls hl => ?_)
  refine lv_iconst (v := 0) hx hb dX2_moreThan_2 (by decide) ?_
  refine lv_istore_n (lv' := [(3, .int (0 : Int32)), (2, .int (0 : Int32)), (0, .ref aP), (1, .int x1)]) hx hb dX2_moreThan_3 rfl hl (by decide) rfl (fun ls hl => ?_)
  exact b_4 4096 _ _ _ x1 (0 : Int32) (0 : Int32) hq hP hS (lv_sub hl [2, 3, 1, 0] rfl)

theorem iw_X2_tell_X2 : ∀ w ∈ wsX20, w ∈ wsX2_tell := by decide +kernel
set_option maxHeartbeats 4000000 in
set_option maxRecDepth 100000 in
theorem mk_X2_tell (l : Launch) (D : va_G) (cI : Nat → ClassId) (aP aLe aSh : Nat) (sz : Nat) (told : Int32) (wl : Int32) (wr : Int32) (le : kF) (x1 : Int32) (o : Int32 × Int32) (hq : fn_X2_tell told le x1 = some o) : Met l yX2_tell wsX2_tell ({ frames := 1, cells := 0, slots := 0, locals := 23 }) (kPc D cI [(aP, .inr (2, [.ref aLe, .ref aSh, .int told, .int wl, .int wr])), (aLe, .inl (cI 0, 10, .inl le))] sz [.ref aP, .int x1]) (kQi D [(aP, .inr (2, [.ref aLe, .ref aSh, .int told, .int wl, .int wr])), (aLe, .inl (cI 0, 10, .inl le))] [(aP, .inr (2, [.ref aLe, .ref aSh, .int o.2, .int wl, .int wr])), (aLe, .inl (cI 0, 10, .inl le))] sz o.1) 0 0 (va_A [(aP, .inr (2, [.ref aLe, .ref aSh, .int told, .int wl, .int wr])), (aLe, .inl (cI 0, 10, .inl le))] sz) := by
  refine kM_i (cc := cX2_tell) (maxL := 3) (by decide +kernel) rfl (Nat.le_of_ble_eq_true rfl) ?_
  intro p e s m args below meth c A Q hF hK hG hD hA hend ls hP hS hl
  obtain ⟨hx, hb, hml, hown, hts⟩ := id hF
  have hl : lv_has ls 3 [(0, .ref aP), (1, .int x1)] := hl
  refine lv_aload_n hx hb dX2_tell_0 rfl (lv_at hl 0 rfl) ?_
  refine va_get (D := D) (ci := 2) (v := .int told) (C := RX2) (T := TX2) (N := 5) hx hb hts iw_X2_tell_X2 hown hK.1 hP 0 rfl rfl 2 (by decide) (hts (.fieldLink RX2 18 "PinDeck$Pins" "told" "I") (by decide +kernel)) (fun _ h9 => h9) rfl dX2_tell_1 ?_
  refine lv_aload_n hx hb dX2_tell_4 rfl (lv_at hl 0 rfl) ?_
  refine lv_iload_n hx hb dX2_tell_5 rfl (lv_at hl 1 rfl) ?_
  obtain ⟨o6, ho6, hq⟩ := kbind hq
  refine kc_Vi (av := [.int x1]) (rest := [.int told]) hF hK hG hA (mk_X2_moreThan l D cI aP aLe aSh s.heap.size told wl wr le x1 o6 ho6) (cwV 1 hts gX2_tell_X2_moreThan rfl rfl rfl (by decide +kernel) ⟨Nat.le_of_ble_eq_true rfl, Nat.le_of_ble_eq_true rfl⟩) hP hD hS [0, 1] (by decide) rfl rfl 0 rfl rfl rfl hl.1 rfl (Nat.le_of_ble_eq_true rfl) ⟨Nat.zero_le _, Nat.zero_le _⟩ dX2_tell_6 (fun H locs hP hD hS => ?_)
  have hP : va_P D vwCl [(aP, .inr (2, [.ref aLe, .ref aSh, .int told, .int wl, .int wr])), (aLe, .inl (cI 0, 10, .inl le))] H := hP
  have hD : va_D A [(aP, .inr (2, [.ref aLe, .ref aSh, .int told, .int wl, .int wr])), (aLe, .inl (cI 0, 10, .inl le))] := hD
  refine lv_iand hx hb dX2_tell_9 ?_
  refine lv_istore_n (lv' := [(2, .int (told &&& o6)), (0, .ref aP), (1, .int x1)]) hx hb dX2_tell_10 rfl hl (by decide) rfl (fun ls hl => ?_)
  refine lv_aload_n hx hb dX2_tell_11 rfl (lv_at hl 1 rfl) ?_
  refine lv_dup hx hb dX2_tell_12 rfl ?_
  refine va_get (D := D) (ci := 2) (v := .int told) (C := RX2) (T := TX2) (N := 5) hx hb hts iw_X2_tell_X2 hown hK.1 hP 0 rfl rfl 2 (by decide) (hts (.fieldLink RX2 18 "PinDeck$Pins" "told" "I") (by decide +kernel)) (fun _ h9 => h9) rfl dX2_tell_13 ?_
  refine lv_iload_n hx hb dX2_tell_16 rfl (lv_at hl 0 rfl) ?_
  refine lv_iconst (v := (-1)) hx hb dX2_tell_17 (by decide) ?_
  refine lv_ixor hx hb dX2_tell_18 ?_
  refine lv_iand hx hb dX2_tell_19 ?_
  refine va_put (D := D) (ci := 2) (v := .int (told &&& ((told &&& o6) ^^^ (-1 : Int32)))) (ty := .int) (C := RX2) (T := TX2) (N := 5) hx hb hts iw_X2_tell_X2 tyX2 tyX2_ok nmX2 hown hK.1 hP hD hS 0 rfl rfl 2 (by decide) (hts (.fieldLink RX2 18 "PinDeck$Pins" "told" "I") (by decide +kernel)) (fun _ h9 => h9) rfl (by decide +kernel) rfl rfl (Nat.le_of_ble_eq_true rfl) dX2_tell_20 (fun H locs hP hD hS => ?_)
  have hP : va_P D vwCl [(aP, .inr (2, [.ref aLe, .ref aSh, .int (told &&& ((told &&& o6) ^^^ (-1 : Int32))), .int wl, .int wr])), (aLe, .inl (cI 0, 10, .inl le))] H := hP
  have hD : va_D A [(aP, .inr (2, [.ref aLe, .ref aSh, .int (told &&& ((told &&& o6) ^^^ (-1 : Int32))), .int wl, .int wr])), (aLe, .inl (cI 0, 10, .inl le))] := hD
  refine lv_iload_n hx hb dX2_tell_23 rfl (lv_at hl 0 rfl) ?_
  have ho := Option.some.inj hq
  subst ho
  exact hend _ _ _ _ hP hS dX2_tell_24

theorem iw_X2_dropSet_X2 : ∀ w ∈ wsX20, w ∈ wsX2_dropSet := by decide +kernel
set_option maxHeartbeats 4000000 in
set_option maxRecDepth 100000 in
theorem mk_X2_dropSet (l : Launch) (D : va_G) (cI : Nat → ClassId) (aP aLe aSh : Nat) (sz : Nat) (told : Int32) (wl : Int32) (wr : Int32) (le : kF) (x1 : Int32) (o : Int32) (hq : fn_X2_dropSet told le x1 = some o) : Met l yX2_dropSet wsX2_dropSet ({ frames := 1, cells := 0, slots := 0, locals := 23 }) (kPc D cI [(aP, .inr (2, [.ref aLe, .ref aSh, .int told, .int wl, .int wr])), (aLe, .inl (cI 0, 10, .inl le))] sz [.ref aP, .int x1]) (kQi D [(aP, .inr (2, [.ref aLe, .ref aSh, .int told, .int wl, .int wr])), (aLe, .inl (cI 0, 10, .inl le))] [(aP, .inr (2, [.ref aLe, .ref aSh, .int told, .int wl, .int wr])), (aLe, .inl (cI 0, 10, .inl le))] sz o) 0 0 (va_A [(aP, .inr (2, [.ref aLe, .ref aSh, .int told, .int wl, .int wr])), (aLe, .inl (cI 0, 10, .inl le))] sz) := by
  refine kM_i (cc := cX2_dropSet) (maxL := 2) (by decide +kernel) rfl (Nat.le_of_ble_eq_true rfl) ?_
  intro p e s m args below meth c A Q hF hK hG hD hA hend ls hP hS hl
  obtain ⟨hx, hb, hml, hown, hts⟩ := id hF
  have hl : lv_has ls 2 [(0, .ref aP), (1, .int x1)] := hl
  refine lv_aload_n hx hb dX2_dropSet_0 rfl (lv_at hl 0 rfl) ?_
  refine va_get (D := D) (ci := 2) (v := .int told) (C := RX2) (T := TX2) (N := 5) hx hb hts iw_X2_dropSet_X2 hown hK.1 hP 0 rfl rfl 2 (by decide) (hts (.fieldLink RX2 18 "PinDeck$Pins" "told" "I") (by decide +kernel)) (fun _ h9 => h9) rfl dX2_dropSet_1 ?_
  refine lv_aload_n hx hb dX2_dropSet_4 rfl (lv_at hl 0 rfl) ?_
  refine lv_iload_n hx hb dX2_dropSet_5 rfl (lv_at hl 1 rfl) ?_
  obtain ⟨o6, ho6, hq⟩ := kbind hq
  refine kc_Vi (av := [.int x1]) (rest := [.int told]) hF hK hG hA (mk_X2_moreThan l D cI aP aLe aSh s.heap.size told wl wr le x1 o6 ho6) (cwV 1 hts gX2_dropSet_X2_moreThan rfl rfl rfl (by decide +kernel) ⟨Nat.le_of_ble_eq_true rfl, Nat.le_of_ble_eq_true rfl⟩) hP hD hS [0, 1] (by decide) rfl rfl 0 rfl rfl rfl hl.1 rfl (Nat.le_of_ble_eq_true rfl) ⟨Nat.zero_le _, Nat.zero_le _⟩ dX2_dropSet_6 (fun H locs hP hD hS => ?_)
  have hP : va_P D vwCl [(aP, .inr (2, [.ref aLe, .ref aSh, .int told, .int wl, .int wr])), (aLe, .inl (cI 0, 10, .inl le))] H := hP
  have hD : va_D A [(aP, .inr (2, [.ref aLe, .ref aSh, .int told, .int wl, .int wr])), (aLe, .inl (cI 0, 10, .inl le))] := hD
  refine lv_iand hx hb dX2_dropSet_9 ?_
  have ho := Option.some.inj hq
  subst ho
  exact hend _ _ _ _ hP hS dX2_dropSet_10

set_option maxHeartbeats 4000000 in
set_option maxRecDepth 100000 in
theorem mk_J6_bitCount_0f7a4 (l : Launch) (D : va_G) (cI : Nat → ClassId) (sz : Nat) (x0 : Int32) (o : Int32) (hq : fn_J6_bitCount_0f7a4 x0 = some o) : Met l yJ6_bitCount_0f7a4 wsJ6_bitCount_0f7a4 ({ frames := 0, cells := 0, slots := 0, locals := 0 }) (kPc D cI [] sz [.int x0]) (kQi D [] [] sz o) 0 0 (va_A [] sz) := by
  refine kM_i (cc := cJ6_bitCount_0f7a4) (maxL := 1) (by decide +kernel) rfl (Nat.le_of_ble_eq_true rfl) ?_
  intro p e s m args below meth c A Q hF hK hG hD hA hend ls hP hS hl
  obtain ⟨hx, hb, hml, hown, hts⟩ := id hF
  have hl : lv_has ls 1 [(0, .int x0)] := hl
  have b_41 : ∀ (H : Heap) (locs : List Loc) (ls : Array Slot) (x0 : Int32), fn_J6_bitCount_0f7a4_41 x0 = some o → va_P D vwCl [] H → va_S A s.heap H locs → lv_has ls 1 [(0, .int x0)] → W p l e { frames := 0, cells := 0, slots := 0, locals := 0 } s m args below meth c H locs 0 0 Q (F0 m 41 ls []) := by
    intro H locs ls x0
    intro hq hP hS hl
    refine lv_iload_n hx hb dJ6_bitCount_0f7a4_41 rfl (lv_at hl 0 rfl) ?_
    refine lv_iload_n hx hb dJ6_bitCount_0f7a4_42 rfl (lv_at hl 0 rfl) ?_
    refine lv_bipush (v := 16) hx hb dJ6_bitCount_0f7a4_43 (by decide) ?_
    refine lv_iushr (v := ((x0).toUInt32 >>> (((16 : Int32)).toUInt32 &&& Int32.toUInt32 31)).toInt32) hx hb dJ6_bitCount_0f7a4_45 rfl ?_
    refine lv_iadd hx hb dJ6_bitCount_0f7a4_46 ?_
    refine lv_istore_n (lv' := [(0, .int (x0 + (((x0).toUInt32 >>> (((16 : Int32)).toUInt32 &&& Int32.toUInt32 31)).toInt32)))]) hx hb dJ6_bitCount_0f7a4_47 rfl hl (by decide) rfl (fun ls hl => ?_)
    refine lv_iload_n hx hb dJ6_bitCount_0f7a4_48 rfl (lv_at hl 0 rfl) ?_
    refine lv_bipush (v := 63) hx hb dJ6_bitCount_0f7a4_49 (by decide) ?_
    refine lv_iand hx hb dJ6_bitCount_0f7a4_51 ?_
    have ho := Option.some.inj hq
    subst ho
    exact hend _ _ _ _ hP hS dJ6_bitCount_0f7a4_52
  have b_24 : ∀ (H : Heap) (locs : List Loc) (ls : Array Slot) (x0 : Int32), fn_J6_bitCount_0f7a4_24 x0 = some o → va_P D vwCl [] H → va_S A s.heap H locs → lv_has ls 1 [(0, .int x0)] → W p l e { frames := 0, cells := 0, slots := 0, locals := 0 } s m args below meth c H locs 0 0 Q (F0 m 24 ls []) := by
    intro H locs ls x0
    intro hq hP hS hl
    refine lv_iload_n hx hb dJ6_bitCount_0f7a4_24 rfl (lv_at hl 0 rfl) ?_
    refine lv_iload_n hx hb dJ6_bitCount_0f7a4_25 rfl (lv_at hl 0 rfl) ?_
    refine lv_iconst (v := 4) hx hb dJ6_bitCount_0f7a4_26 (by decide) ?_
    refine lv_iushr (v := ((x0).toUInt32 >>> (((4 : Int32)).toUInt32 &&& Int32.toUInt32 31)).toInt32) hx hb dJ6_bitCount_0f7a4_27 rfl ?_
    refine lv_iadd hx hb dJ6_bitCount_0f7a4_28 ?_
    refine lv_ldcw (v := 252645135) hx hb hown (hts (.constant RJ6 267 (252645135 : Int32)) (by decide +kernel)) dJ6_bitCount_0f7a4_29 ?_
    refine lv_iand hx hb dJ6_bitCount_0f7a4_32 ?_
    refine lv_istore_n (lv' := [(0, .int ((x0 + (((x0).toUInt32 >>> (((4 : Int32)).toUInt32 &&& Int32.toUInt32 31)).toInt32)) &&& (252645135 : Int32)))]) hx hb dJ6_bitCount_0f7a4_33 rfl hl (by decide) rfl (fun ls hl => ?_)
    refine lv_iload_n hx hb dJ6_bitCount_0f7a4_34 rfl (lv_at hl 0 rfl) ?_
    refine lv_iload_n hx hb dJ6_bitCount_0f7a4_35 rfl (lv_at hl 0 rfl) ?_
    refine lv_bipush (v := 8) hx hb dJ6_bitCount_0f7a4_36 (by decide) ?_
    refine lv_iushr (v := ((((x0 + (((x0).toUInt32 >>> (((4 : Int32)).toUInt32 &&& Int32.toUInt32 31)).toInt32)) &&& (252645135 : Int32))).toUInt32 >>> (((8 : Int32)).toUInt32 &&& Int32.toUInt32 31)).toInt32) hx hb dJ6_bitCount_0f7a4_38 rfl ?_
    refine lv_iadd hx hb dJ6_bitCount_0f7a4_39 ?_
    refine lv_istore_n (lv' := [(0, .int (((x0 + (((x0).toUInt32 >>> (((4 : Int32)).toUInt32 &&& Int32.toUInt32 31)).toInt32)) &&& (252645135 : Int32)) + (((((x0 + (((x0).toUInt32 >>> (((4 : Int32)).toUInt32 &&& Int32.toUInt32 31)).toInt32)) &&& (252645135 : Int32))).toUInt32 >>> (((8 : Int32)).toUInt32 &&& Int32.toUInt32 31)).toInt32)))]) hx hb dJ6_bitCount_0f7a4_40 rfl hl (by decide) rfl (fun ls hl => ?_)
    exact b_41  _ _ _ (((x0 + (((x0).toUInt32 >>> (((4 : Int32)).toUInt32 &&& Int32.toUInt32 31)).toInt32)) &&& (252645135 : Int32)) + (((((x0 + (((x0).toUInt32 >>> (((4 : Int32)).toUInt32 &&& Int32.toUInt32 31)).toInt32)) &&& (252645135 : Int32))).toUInt32 >>> (((8 : Int32)).toUInt32 &&& Int32.toUInt32 31)).toInt32)) hq hP hS (lv_sub hl [0] rfl)
  refine lv_iload_n hx hb dJ6_bitCount_0f7a4_0 rfl (lv_at hl 0 rfl) ?_
  refine lv_iload_n hx hb dJ6_bitCount_0f7a4_1 rfl (lv_at hl 0 rfl) ?_
  refine lv_iconst (v := 1) hx hb dJ6_bitCount_0f7a4_2 (by decide) ?_
  refine lv_iushr (v := ((x0).toUInt32 >>> (((1 : Int32)).toUInt32 &&& Int32.toUInt32 31)).toInt32) hx hb dJ6_bitCount_0f7a4_3 rfl ?_
  refine lv_ldcw (v := 1431655765) hx hb hown (hts (.constant RJ6 265 (1431655765 : Int32)) (by decide +kernel)) dJ6_bitCount_0f7a4_4 ?_
  refine lv_iand hx hb dJ6_bitCount_0f7a4_7 ?_
  refine lv_isub hx hb dJ6_bitCount_0f7a4_8 ?_
  refine lv_istore_n (lv' := [(0, .int (x0 - ((((x0).toUInt32 >>> (((1 : Int32)).toUInt32 &&& Int32.toUInt32 31)).toInt32) &&& (1431655765 : Int32))))]) hx hb dJ6_bitCount_0f7a4_9 rfl hl (by decide) rfl (fun ls hl => ?_)
  refine lv_iload_n hx hb dJ6_bitCount_0f7a4_10 rfl (lv_at hl 0 rfl) ?_
  refine lv_ldcw (v := 858993459) hx hb hown (hts (.constant RJ6 266 (858993459 : Int32)) (by decide +kernel)) dJ6_bitCount_0f7a4_11 ?_
  refine lv_iand hx hb dJ6_bitCount_0f7a4_14 ?_
  refine lv_iload_n hx hb dJ6_bitCount_0f7a4_15 rfl (lv_at hl 0 rfl) ?_
  refine lv_iconst (v := 2) hx hb dJ6_bitCount_0f7a4_16 (by decide) ?_
  refine lv_iushr (v := (((x0 - ((((x0).toUInt32 >>> (((1 : Int32)).toUInt32 &&& Int32.toUInt32 31)).toInt32) &&& (1431655765 : Int32)))).toUInt32 >>> (((2 : Int32)).toUInt32 &&& Int32.toUInt32 31)).toInt32) hx hb dJ6_bitCount_0f7a4_17 rfl ?_
  refine lv_ldcw (v := 858993459) hx hb hown (hts (.constant RJ6 266 (858993459 : Int32)) (by decide +kernel)) dJ6_bitCount_0f7a4_18 ?_
  refine lv_iand hx hb dJ6_bitCount_0f7a4_21 ?_
  refine lv_iadd hx hb dJ6_bitCount_0f7a4_22 ?_
  refine lv_istore_n (lv' := [(0, .int (((x0 - ((((x0).toUInt32 >>> (((1 : Int32)).toUInt32 &&& Int32.toUInt32 31)).toInt32) &&& (1431655765 : Int32))) &&& (858993459 : Int32)) + (((((x0 - ((((x0).toUInt32 >>> (((1 : Int32)).toUInt32 &&& Int32.toUInt32 31)).toInt32) &&& (1431655765 : Int32)))).toUInt32 >>> (((2 : Int32)).toUInt32 &&& Int32.toUInt32 31)).toInt32) &&& (858993459 : Int32))))]) hx hb dJ6_bitCount_0f7a4_23 rfl hl (by decide) rfl (fun ls hl => ?_)
  exact b_24  _ _ _ (((x0 - ((((x0).toUInt32 >>> (((1 : Int32)).toUInt32 &&& Int32.toUInt32 31)).toInt32) &&& (1431655765 : Int32))) &&& (858993459 : Int32)) + (((((x0 - ((((x0).toUInt32 >>> (((1 : Int32)).toUInt32 &&& Int32.toUInt32 31)).toInt32) &&& (1431655765 : Int32)))).toUInt32 >>> (((2 : Int32)).toUInt32 &&& Int32.toUInt32 31)).toInt32) &&& (858993459 : Int32))) hq hP hS (lv_sub hl [0] rfl)

theorem iw_X2_setAgain_X2 : ∀ w ∈ wsX20, w ∈ wsX2_setAgain := by decide +kernel
set_option maxHeartbeats 4000000 in
set_option maxRecDepth 100000 in
theorem mk_X2_setAgain (l : Launch) (D : va_G) (cI : Nat → ClassId) (aP aLe aSh : Nat) (sz : Nat) (told : Int32) (wl : Int32) (wr : Int32) (le : kF) (x1 : Int32) (o : Int32 × Int32 × kF) (hq : fn_X2_setAgain told le x1 = some o) : Met l yX2_setAgain wsX2_setAgain ({ frames := 2, cells := 0, slots := 0, locals := 44 }) (kPc D cI [(aP, .inr (2, [.ref aLe, .ref aSh, .int told, .int wl, .int wr])), (aLe, .inl (cI 0, 10, .inl le))] sz [.ref aP, .int x1]) (kQi D [(aP, .inr (2, [.ref aLe, .ref aSh, .int told, .int wl, .int wr])), (aLe, .inl (cI 0, 10, .inl le))] [(aP, .inr (2, [.ref aLe, .ref aSh, .int o.2.1, .int wl, .int wr])), (aLe, .inl (cI 0, 10, .inl o.2.2))] sz o.1) 0 0 (va_A [(aP, .inr (2, [.ref aLe, .ref aSh, .int told, .int wl, .int wr])), (aLe, .inl (cI 0, 10, .inl le))] sz) := by
  refine kM_i (cc := cX2_setAgain) (maxL := 4) (by decide +kernel) rfl (Nat.le_of_ble_eq_true rfl) ?_
  intro p e s m args below meth c A Q hF hK hG hD hA hend ls hP hS hl
  obtain ⟨hx, hb, hml, hown, hts⟩ := id hF
  have hl : lv_has ls 4 [(0, .ref aP), (1, .int x1)] := hl
  have b_47 : ∀ (q20 : Int32 → kF → Int32 → Int32 → Option (Int32 × Int32 × kF)), (∀ (H : Heap) (locs : List Loc) (ls : Array Slot) (told : Int32) (le : kF) (x2 : Int32) (x3 : Int32), q20 told le x2 x3 = some o → va_P D vwCl [(aP, .inr (2, [.ref aLe, .ref aSh, .int told, .int wl, .int wr])), (aLe, .inl (cI 0, 10, .inl le))] H → va_D A [(aP, .inr (2, [.ref aLe, .ref aSh, .int told, .int wl, .int wr])), (aLe, .inl (cI 0, 10, .inl le))] → va_S A s.heap H locs → lv_has ls 4 [(0, .ref aP), (2, .int x2), (3, .int x3)] → W p l e { frames := 2, cells := 0, slots := 0, locals := 44 } s m args below meth c H locs 0 0 Q (F0 m 20 ls [])) → ∀ (H : Heap) (locs : List Loc) (ls : Array Slot) (told : Int32) (le : kF) (x2 : Int32) (x3 : Int32) (k1 : Int32) (k2 : Int32), fn_X2_setAgain_47 q20 told le x2 x3 k1 k2 = some o → va_P D vwCl [(aP, .inr (2, [.ref aLe, .ref aSh, .int told, .int wl, .int wr])), (aLe, .inl (cI 0, 10, .inl le))] H → va_D A [(aP, .inr (2, [.ref aLe, .ref aSh, .int told, .int wl, .int wr])), (aLe, .inl (cI 0, 10, .inl le))] → va_S A s.heap H locs → lv_has ls 4 [(0, .ref aP), (2, .int x2), (3, .int x3)] → W p l e { frames := 2, cells := 0, slots := 0, locals := 44 } s m args below meth c H locs 0 0 Q (F0 m 47 ls [.int k2, .int k1, .ref aLe]) := by
    intro q20 i20
    intro H locs ls told le x2 x3 k1 k2
    intro hq hP hD hS hl
    obtain ⟨hz, hq⟩ := kite_n hq
    refine k_iast (j := (k1.toNatClampNeg)) hx hb hK.1 hP hD hS 1 0 rfl rfl hz rfl dX2_setAgain_47 (fun H locs hP hD hS => ?_)
    have hP : va_P D vwCl [(aP, .inr (2, [.ref aLe, .ref aSh, .int told, .int wl, .int wr])), (aLe, .inl (cI 0, 10, .inl (upd le (k1.toNatClampNeg) k2)))] H := hP
    have hD : va_D A [(aP, .inr (2, [.ref aLe, .ref aSh, .int told, .int wl, .int wr])), (aLe, .inl (cI 0, 10, .inl (upd le (k1.toNatClampNeg) k2)))] := hD
    refine lv_iinc (v := (x3 + 1)) (lv' := [(3, .int (x3 + 1)), (0, .ref aP), (2, .int x2)]) hx hb dX2_setAgain_48 hl (k := 2) rfl rfl (by decide) rfl (fun ls hl => ?_)
    refine lv_goto (tgt := 20) hx hb dX2_setAgain_51 (by decide) ?_
    exact i20 _ _ _ told (upd le (k1.toNatClampNeg) k2) x2 (x3 + 1) hq hP hD hS (lv_sub hl [1, 2, 0] rfl)
  have b_20 : ∀ (q : Nat), ∀ (H : Heap) (locs : List Loc) (ls : Array Slot) (told : Int32) (le : kF) (x2 : Int32) (x3 : Int32), fn_X2_setAgain_20 q told le x2 x3 = some o → va_P D vwCl [(aP, .inr (2, [.ref aLe, .ref aSh, .int told, .int wl, .int wr])), (aLe, .inl (cI 0, 10, .inl le))] H → va_D A [(aP, .inr (2, [.ref aLe, .ref aSh, .int told, .int wl, .int wr])), (aLe, .inl (cI 0, 10, .inl le))] → va_S A s.heap H locs → lv_has ls 4 [(0, .ref aP), (2, .int x2), (3, .int x3)] → W p l e { frames := 2, cells := 0, slots := 0, locals := 44 } s m args below meth c H locs 0 0 Q (F0 m 20 ls []) := by
    intro q
    induction q with
    | zero =>
      intro H locs ls told le x2 x3
      intro hq
      cases hq
    | succ q ih =>
      intro H locs ls told le x2 x3
      intro hq hP hD hS hl
      refine lv_iload_n hx hb dX2_setAgain_20 rfl (lv_at hl 2 rfl) ?_
      refine lv_bipush (v := 10) hx hb dX2_setAgain_21 (by decide) ?_
      refine lv_icmp_ge (tgt := 54) hx hb dX2_setAgain_23 (by decide) (fun c9 => ?_) (fun c9 => ?_)
      · have hq := kite_t c9 hq
        refine lv_iload_n hx hb dX2_setAgain_54 rfl (lv_at hl 1 rfl) ?_
        obtain ⟨o55, ho55, hq⟩ := kbind hq
        refine kc_Si (av := [.int x2]) (rest := []) hF hK hG hA (mk_J6_bitCount_0f7a4 l D cI H.size x2 o55 ho55) (va_cwS 1 hts gX2_setAgain_J6_bitCount_0f7a4 rfl rfl rfl (by decide +kernel) ⟨Nat.le_of_ble_eq_true rfl, Nat.le_of_ble_eq_true rfl⟩) hP hD hS [] (by decide) rfl rfl rfl hl.1 rfl (Nat.le_of_ble_eq_true rfl) ⟨Nat.zero_le _, Nat.zero_le _⟩ dX2_setAgain_55 (fun H locs hP hD hS => ?_)
        have hP : va_P D vwCl [(aP, .inr (2, [.ref aLe, .ref aSh, .int told, .int wl, .int wr])), (aLe, .inl (cI 0, 10, .inl le))] H := hP
        have hD : va_D A [(aP, .inr (2, [.ref aLe, .ref aSh, .int told, .int wl, .int wr])), (aLe, .inl (cI 0, 10, .inl le))] := hD
        have ho := Option.some.inj hq
        subst ho
        exact hend _ _ _ _ hP hS dX2_setAgain_58
      · have hq := kite_f c9 hq
        refine lv_aload_n hx hb dX2_setAgain_26 rfl (lv_at hl 0 rfl) ?_
        refine va_get (D := D) (ci := 2) (v := .ref aLe) (C := RX2) (T := TX2) (N := 5) hx hb hts iw_X2_setAgain_X2 hown hK.1 hP 0 rfl rfl 0 (by decide) (hts (.fieldLink RX2 9 "PinDeck$Pins" "leaning" "[I") (by decide +kernel)) (fun _ h9 => h9) rfl dX2_setAgain_27 ?_
        refine lv_iload_n hx hb dX2_setAgain_30 rfl (lv_at hl 2 rfl) ?_
        refine lv_aload_n hx hb dX2_setAgain_31 rfl (lv_at hl 0 rfl) ?_
        refine va_get (D := D) (ci := 2) (v := .int told) (C := RX2) (T := TX2) (N := 5) hx hb hts iw_X2_setAgain_X2 hown hK.1 hP 0 rfl rfl 2 (by decide) (hts (.fieldLink RX2 18 "PinDeck$Pins" "told" "I") (by decide +kernel)) (fun _ h9 => h9) rfl dX2_setAgain_32 ?_
        refine lv_iload_n hx hb dX2_setAgain_35 rfl (lv_at hl 2 rfl) ?_
        refine lv_ishr hx hb dX2_setAgain_36 ?_
        refine lv_iconst (v := 1) hx hb dX2_setAgain_37 (by decide) ?_
        refine lv_iand hx hb dX2_setAgain_38 ?_
        refine lv_if_eq (tgt := 46) hx hb dX2_setAgain_39 (by decide) (fun c9 => ?_) (fun c9 => ?_)
        · have hq := kite_t c9 hq
          refine lv_iconst (v := 4) hx hb dX2_setAgain_46 (by decide) ?_
          exact b_47 (fn_X2_setAgain_20 q) ih _ _ _ told le x2 x3 x3 (4 : Int32) hq hP hD hS (lv_sub hl [0, 1, 2] rfl)
        · have hq := kite_f c9 hq
          refine lv_iconst (v := 0) hx hb dX2_setAgain_42 (by decide) ?_
          refine lv_goto (tgt := 47) hx hb dX2_setAgain_43 (by decide) ?_
          exact b_47 (fn_X2_setAgain_20 q) ih _ _ _ told le x2 x3 x3 (0 : Int32) hq hP hD hS (lv_sub hl [0, 1, 2] rfl)
  refine lv_aload_n hx hb dX2_setAgain_0 rfl (lv_at hl 0 rfl) ?_
  refine lv_iload_n hx hb dX2_setAgain_1 rfl (lv_at hl 1 rfl) ?_
  obtain ⟨o2, ho2, hq⟩ := kbind hq
  refine kc_Vi (av := [.int x1]) (rest := []) hF hK hG hA (mk_X2_dropSet l D cI aP aLe aSh s.heap.size told wl wr le x1 o2 ho2) (cwV 1 hts gX2_setAgain_X2_dropSet rfl rfl rfl (by decide +kernel) ⟨Nat.le_of_ble_eq_true rfl, Nat.le_of_ble_eq_true rfl⟩) hP hD hS [0, 1] (by decide) rfl rfl 0 rfl rfl rfl hl.1 rfl (Nat.le_of_ble_eq_true rfl) ⟨Nat.zero_le _, Nat.zero_le _⟩ dX2_setAgain_2 (fun H locs hP hD hS => ?_)
  have hP : va_P D vwCl [(aP, .inr (2, [.ref aLe, .ref aSh, .int told, .int wl, .int wr])), (aLe, .inl (cI 0, 10, .inl le))] H := hP
  have hD : va_D A [(aP, .inr (2, [.ref aLe, .ref aSh, .int told, .int wl, .int wr])), (aLe, .inl (cI 0, 10, .inl le))] := hD
  refine lv_istore_n (lv' := [(2, .int o2), (0, .ref aP), (1, .int x1)]) hx hb dX2_setAgain_5 rfl hl (by decide) rfl (fun ls hl => ?_)
  refine lv_aload_n hx hb dX2_setAgain_6 rfl (lv_at hl 1 rfl) ?_
  refine lv_dup hx hb dX2_setAgain_7 rfl ?_
  refine va_get (D := D) (ci := 2) (v := .int told) (C := RX2) (T := TX2) (N := 5) hx hb hts iw_X2_setAgain_X2 hown hK.1 hP 0 rfl rfl 2 (by decide) (hts (.fieldLink RX2 18 "PinDeck$Pins" "told" "I") (by decide +kernel)) (fun _ h9 => h9) rfl dX2_setAgain_8 ?_
  refine lv_iload_n hx hb dX2_setAgain_11 rfl (lv_at hl 0 rfl) ?_
  refine lv_iconst (v := (-1)) hx hb dX2_setAgain_12 (by decide) ?_
  refine lv_ixor hx hb dX2_setAgain_13 ?_
  refine lv_iand hx hb dX2_setAgain_14 ?_
  refine va_put (D := D) (ci := 2) (v := .int (told &&& (o2 ^^^ (-1 : Int32)))) (ty := .int) (C := RX2) (T := TX2) (N := 5) hx hb hts iw_X2_setAgain_X2 tyX2 tyX2_ok nmX2 hown hK.1 hP hD hS 0 rfl rfl 2 (by decide) (hts (.fieldLink RX2 18 "PinDeck$Pins" "told" "I") (by decide +kernel)) (fun _ h9 => h9) rfl (by decide +kernel) rfl rfl (Nat.le_of_ble_eq_true rfl) dX2_setAgain_15 (fun H locs hP hD hS => ?_)
  have hP : va_P D vwCl [(aP, .inr (2, [.ref aLe, .ref aSh, .int (told &&& (o2 ^^^ (-1 : Int32))), .int wl, .int wr])), (aLe, .inl (cI 0, 10, .inl le))] H := hP
  have hD : va_D A [(aP, .inr (2, [.ref aLe, .ref aSh, .int (told &&& (o2 ^^^ (-1 : Int32))), .int wl, .int wr])), (aLe, .inl (cI 0, 10, .inl le))] := hD
  refine lv_iconst (v := 0) hx hb dX2_setAgain_18 (by decide) ?_
  refine lv_istore_n (lv' := [(3, .int (0 : Int32)), (2, .int o2), (0, .ref aP), (1, .int x1)]) hx hb dX2_setAgain_19 rfl hl (by decide) rfl (fun ls hl => ?_)
  exact b_20 4096 _ _ _ (told &&& (o2 ^^^ (-1 : Int32))) le o2 (0 : Int32) hq hP hD hS (lv_sub hl [2, 1, 0] rfl)

theorem iw_X2_toldSet_X2 : ∀ w ∈ wsX20, w ∈ wsX2_toldSet := by decide +kernel
set_option maxHeartbeats 4000000 in
set_option maxRecDepth 100000 in
theorem mk_X2_toldSet (l : Launch) (D : va_G) (cI : Nat → ClassId) (aP aLe aSh : Nat) (sz : Nat) (told : Int32) (wl : Int32) (wr : Int32) (o : Int32) (hq : fn_X2_toldSet told = some o) : Met l yX2_toldSet wsX2_toldSet ({ frames := 0, cells := 0, slots := 0, locals := 0 }) (kPc D cI [(aP, .inr (2, [.ref aLe, .ref aSh, .int told, .int wl, .int wr]))] sz [.ref aP]) (kQi D [(aP, .inr (2, [.ref aLe, .ref aSh, .int told, .int wl, .int wr]))] [(aP, .inr (2, [.ref aLe, .ref aSh, .int told, .int wl, .int wr]))] sz o) 0 0 (va_A [(aP, .inr (2, [.ref aLe, .ref aSh, .int told, .int wl, .int wr]))] sz) := by
  refine kM_i (cc := cX2_toldSet) (maxL := 1) (by decide +kernel) rfl (Nat.le_of_ble_eq_true rfl) ?_
  intro p e s m args below meth c A Q hF hK hG hD hA hend ls hP hS hl
  obtain ⟨hx, hb, hml, hown, hts⟩ := id hF
  have hl : lv_has ls 1 [(0, .ref aP)] := hl
  refine lv_aload_n hx hb dX2_toldSet_0 rfl (lv_at hl 0 rfl) ?_
  refine va_get (D := D) (ci := 2) (v := .int told) (C := RX2) (T := TX2) (N := 5) hx hb hts iw_X2_toldSet_X2 hown hK.1 hP 0 rfl rfl 2 (by decide) (hts (.fieldLink RX2 18 "PinDeck$Pins" "told" "I") (by decide +kernel)) (fun _ h9 => h9) rfl dX2_toldSet_1 ?_
  have ho := Option.some.inj hq
  subst ho
  exact hend _ _ _ _ hP hS dX2_toldSet_4

theorem iw_X2_fellSet_X2 : ∀ w ∈ wsX20, w ∈ wsX2_fellSet := by decide +kernel
set_option maxHeartbeats 4000000 in
set_option maxRecDepth 100000 in
theorem mk_X2_fellSet (l : Launch) (D : va_G) (cI : Nat → ClassId) (aP aLe aSh : Nat) (sz : Nat) (told : Int32) (wl : Int32) (wr : Int32) (o : Int32) (hq : fn_X2_fellSet wl wr = some o) : Met l yX2_fellSet wsX2_fellSet ({ frames := 0, cells := 0, slots := 0, locals := 0 }) (kPc D cI [(aP, .inr (2, [.ref aLe, .ref aSh, .int told, .int wl, .int wr]))] sz [.ref aP]) (kQi D [(aP, .inr (2, [.ref aLe, .ref aSh, .int told, .int wl, .int wr]))] [(aP, .inr (2, [.ref aLe, .ref aSh, .int told, .int wl, .int wr]))] sz o) 0 0 (va_A [(aP, .inr (2, [.ref aLe, .ref aSh, .int told, .int wl, .int wr]))] sz) := by
  refine kM_i (cc := cX2_fellSet) (maxL := 1) (by decide +kernel) rfl (Nat.le_of_ble_eq_true rfl) ?_
  intro p e s m args below meth c A Q hF hK hG hD hA hend ls hP hS hl
  obtain ⟨hx, hb, hml, hown, hts⟩ := id hF
  have hl : lv_has ls 1 [(0, .ref aP)] := hl
  refine lv_aload_n hx hb dX2_fellSet_0 rfl (lv_at hl 0 rfl) ?_
  refine va_get (D := D) (ci := 2) (v := .int wl) (C := RX2) (T := TX2) (N := 5) hx hb hts iw_X2_fellSet_X2 hown hK.1 hP 0 rfl rfl 3 (by decide) (hts (.fieldLink RX2 36 "PinDeck$Pins" "wentLeft" "I") (by decide +kernel)) (fun _ h9 => h9) rfl dX2_fellSet_1 ?_
  refine lv_aload_n hx hb dX2_fellSet_4 rfl (lv_at hl 0 rfl) ?_
  refine va_get (D := D) (ci := 2) (v := .int wr) (C := RX2) (T := TX2) (N := 5) hx hb hts iw_X2_fellSet_X2 hown hK.1 hP 0 rfl rfl 4 (by decide) (hts (.fieldLink RX2 39 "PinDeck$Pins" "wentRight" "I") (by decide +kernel)) (fun _ h9 => h9) rfl dX2_fellSet_5 ?_
  refine lv_ior hx hb dX2_fellSet_8 ?_
  have ho := Option.some.inj hq
  subst ho
  exact hend _ _ _ _ hP hS dX2_fellSet_9

set_option maxHeartbeats 4000000 in
set_option maxRecDepth 100000 in
theorem mk_X2_upSet (l : Launch) (D : va_G) (cI : Nat → ClassId) (aP aLe aSh : Nat) (sz : Nat) (told : Int32) (wl : Int32) (wr : Int32) (le : kF) (o : Int32) (hq : fn_X2_upSet le = some o) : Met l yX2_upSet wsX2_upSet ({ frames := 1, cells := 0, slots := 0, locals := 23 }) (kPc D cI [(aP, .inr (2, [.ref aLe, .ref aSh, .int told, .int wl, .int wr])), (aLe, .inl (cI 0, 10, .inl le))] sz [.ref aP]) (kQi D [(aP, .inr (2, [.ref aLe, .ref aSh, .int told, .int wl, .int wr])), (aLe, .inl (cI 0, 10, .inl le))] [(aP, .inr (2, [.ref aLe, .ref aSh, .int told, .int wl, .int wr])), (aLe, .inl (cI 0, 10, .inl le))] sz o) 0 0 (va_A [(aP, .inr (2, [.ref aLe, .ref aSh, .int told, .int wl, .int wr])), (aLe, .inl (cI 0, 10, .inl le))] sz) := by
  refine kM_i (cc := cX2_upSet) (maxL := 1) (by decide +kernel) rfl (Nat.le_of_ble_eq_true rfl) ?_
  intro p e s m args below meth c A Q hF hK hG hD hA hend ls hP hS hl
  obtain ⟨hx, hb, hml, hown, hts⟩ := id hF
  have hl : lv_has ls 1 [(0, .ref aP)] := hl
  refine lv_sipush (v := 1023) hx hb dX2_upSet_0 (by decide) ?_
  refine lv_aload_n hx hb dX2_upSet_3 rfl (lv_at hl 0 rfl) ?_
  refine lv_iconst (v := 3) hx hb dX2_upSet_4 (by decide) ?_
  obtain ⟨o5, ho5, hq⟩ := kbind hq
  refine kc_Vi (av := [.int (3 : Int32)]) (rest := [.int (1023 : Int32)]) hF hK hG hA (mk_X2_moreThan l D cI aP aLe aSh s.heap.size told wl wr le (3 : Int32) o5 ho5) (cwV 1 hts gX2_upSet_X2_moreThan rfl rfl rfl (by decide +kernel) ⟨Nat.le_of_ble_eq_true rfl, Nat.le_of_ble_eq_true rfl⟩) hP hD hS [0, 1] (by decide) rfl rfl 0 rfl rfl rfl hl.1 rfl (Nat.le_of_ble_eq_true rfl) ⟨Nat.zero_le _, Nat.zero_le _⟩ dX2_upSet_5 (fun H locs hP hD hS => ?_)
  have hP : va_P D vwCl [(aP, .inr (2, [.ref aLe, .ref aSh, .int told, .int wl, .int wr])), (aLe, .inl (cI 0, 10, .inl le))] H := hP
  have hD : va_D A [(aP, .inr (2, [.ref aLe, .ref aSh, .int told, .int wl, .int wr])), (aLe, .inl (cI 0, 10, .inl le))] := hD
  refine lv_iconst (v := (-1)) hx hb dX2_upSet_8 (by decide) ?_
  refine lv_ixor hx hb dX2_upSet_9 ?_
  refine lv_iand hx hb dX2_upSet_10 ?_
  have ho := Option.some.inj hq
  subst ho
  exact hend _ _ _ _ hP hS dX2_upSet_11

set_option maxHeartbeats 4000000 in
set_option maxRecDepth 100000 in
theorem mk_X2_leaningSet (l : Launch) (D : va_G) (cI : Nat → ClassId) (aP aLe aSh : Nat) (sz : Nat) (told : Int32) (wl : Int32) (wr : Int32) (le : kF) (o : Int32) (hq : fn_X2_leaningSet le = some o) : Met l yX2_leaningSet wsX2_leaningSet ({ frames := 2, cells := 0, slots := 0, locals := 43 }) (kPc D cI [(aP, .inr (2, [.ref aLe, .ref aSh, .int told, .int wl, .int wr])), (aLe, .inl (cI 0, 10, .inl le))] sz [.ref aP]) (kQi D [(aP, .inr (2, [.ref aLe, .ref aSh, .int told, .int wl, .int wr])), (aLe, .inl (cI 0, 10, .inl le))] [(aP, .inr (2, [.ref aLe, .ref aSh, .int told, .int wl, .int wr])), (aLe, .inl (cI 0, 10, .inl le))] sz o) 0 0 (va_A [(aP, .inr (2, [.ref aLe, .ref aSh, .int told, .int wl, .int wr])), (aLe, .inl (cI 0, 10, .inl le))] sz) := by
  refine kM_i (cc := cX2_leaningSet) (maxL := 1) (by decide +kernel) rfl (Nat.le_of_ble_eq_true rfl) ?_
  intro p e s m args below meth c A Q hF hK hG hD hA hend ls hP hS hl
  obtain ⟨hx, hb, hml, hown, hts⟩ := id hF
  have hl : lv_has ls 1 [(0, .ref aP)] := hl
  refine lv_aload_n hx hb dX2_leaningSet_0 rfl (lv_at hl 0 rfl) ?_
  obtain ⟨o1, ho1, hq⟩ := kbind hq
  refine kc_Vi (av := []) (rest := []) hF hK hG hA (mk_X2_upSet l D cI aP aLe aSh s.heap.size told wl wr le o1 ho1) (cwV 0 hts gX2_leaningSet_X2_upSet rfl rfl rfl (by decide +kernel) ⟨Nat.le_of_ble_eq_true rfl, Nat.le_of_ble_eq_true rfl⟩) hP hD hS [0, 1] (by decide) rfl rfl 0 rfl rfl rfl hl.1 rfl (Nat.le_of_ble_eq_true rfl) ⟨Nat.zero_le _, Nat.zero_le _⟩ dX2_leaningSet_1 (fun H locs hP hD hS => ?_)
  have hP : va_P D vwCl [(aP, .inr (2, [.ref aLe, .ref aSh, .int told, .int wl, .int wr])), (aLe, .inl (cI 0, 10, .inl le))] H := hP
  have hD : va_D A [(aP, .inr (2, [.ref aLe, .ref aSh, .int told, .int wl, .int wr])), (aLe, .inl (cI 0, 10, .inl le))] := hD
  refine lv_aload_n hx hb dX2_leaningSet_4 rfl (lv_at hl 0 rfl) ?_
  refine lv_iconst (v := 0) hx hb dX2_leaningSet_5 (by decide) ?_
  obtain ⟨o6, ho6, hq⟩ := kbind hq
  refine kc_Vi (av := [.int (0 : Int32)]) (rest := [.int o1]) hF hK hG hA (mk_X2_moreThan l D cI aP aLe aSh H.size told wl wr le (0 : Int32) o6 ho6) (cwV 1 hts gX2_leaningSet_X2_moreThan rfl rfl rfl (by decide +kernel) ⟨Nat.le_of_ble_eq_true rfl, Nat.le_of_ble_eq_true rfl⟩) hP hD hS [0, 1] (by decide) rfl rfl 0 rfl rfl rfl hl.1 rfl (Nat.le_of_ble_eq_true rfl) ⟨Nat.zero_le _, Nat.zero_le _⟩ dX2_leaningSet_6 (fun H locs hP hD hS => ?_)
  have hP : va_P D vwCl [(aP, .inr (2, [.ref aLe, .ref aSh, .int told, .int wl, .int wr])), (aLe, .inl (cI 0, 10, .inl le))] H := hP
  have hD : va_D A [(aP, .inr (2, [.ref aLe, .ref aSh, .int told, .int wl, .int wr])), (aLe, .inl (cI 0, 10, .inl le))] := hD
  refine lv_iand hx hb dX2_leaningSet_9 ?_
  have ho := Option.some.inj hq
  subst ho
  exact hend _ _ _ _ hP hS dX2_leaningSet_10
