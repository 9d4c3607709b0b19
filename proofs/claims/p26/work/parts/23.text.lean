/-! GameText -/
theorem iw_X0_isFull_X0 : ∀ w ∈ wsX00, w ∈ wsX0_isFull := by decide +kernel
set_option maxHeartbeats 4000000 in
set_option maxRecDepth 100000 in
theorem mk_X0_isFull (l : Launch) (D : va_G) (cI : Nat → ClassId) (aG aSg : Nat) (sz : Nat) (len : Int32) (o : Int32) (hq : fn_X0_isFull len = some o) : Met l yX0_isFull wsX0_isFull ({ frames := 0, cells := 0, slots := 0, locals := 0 }) (kPc D cI [(aG, .inr (0, [.ref aSg, .int len]))] sz [.ref aG]) (kQi D [(aG, .inr (0, [.ref aSg, .int len]))] [(aG, .inr (0, [.ref aSg, .int len]))] sz o) 0 0 (va_A [(aG, .inr (0, [.ref aSg, .int len]))] sz) := by
  refine kM_z (cc := cX0_isFull) (maxL := 1) (by decide +kernel) rfl (Nat.le_of_ble_eq_true rfl) ?_
  intro p e s m args below meth c A Q hF hK hG hD hA hend ls hP hS hl
  obtain ⟨hx, hb, hml, hown, hts⟩ := id hF
  have hl : lv_has ls 1 [(0, .ref aG)] := hl
  have b_14 : ∀ (H : Heap) (locs : List Loc) (ls : Array Slot) (k0 : Int32), fn_X0_isFull_14 len k0 = some o → va_P D vwCl [(aG, .inr (0, [.ref aSg, .int len]))] H → va_S A s.heap H locs → lv_has ls 1 [] → W p l e { frames := 0, cells := 0, slots := 0, locals := 0 } s m args below meth c H locs 0 0 Q (F0 m 14 ls [.int k0]) := by
    intro H locs ls k0
    intro hq hP hS hl
    obtain ⟨hz, hq⟩ := kite_b hq
    have ho := Option.some.inj hq
    subst ho
    exact hend _ _ _ _ hz hP hS dX0_isFull_14
  refine lv_aload_n hx hb dX0_isFull_0 rfl (lv_at hl 0 rfl) ?_
  refine va_get (D := D) (ci := 0) (v := .int len) (C := RX0) (T := TX0) (N := 2) hx hb hts iw_X0_isFull_X0 hown hK.1 hP 0 rfl rfl 1 (by decide) (hts (.fieldLink RX0 15 "PinDeck$GameText" "length" "I") (by decide +kernel)) (fun _ h9 => h9) rfl dX0_isFull_1 ?_
  refine lv_bipush (v := 120) hx hb dX0_isFull_4 (by decide) ?_
  refine lv_icmp_lt (tgt := 13) hx hb dX0_isFull_6 (by decide) (fun c9 => ?_) (fun c9 => ?_)
  · have hq := kite_t c9 hq
    refine lv_iconst (v := 0) hx hb dX0_isFull_13 (by decide) ?_
    exact b_14  _ _ _ (0 : Int32) hq hP hS (lv_sub hl [] rfl)
  · have hq := kite_f c9 hq
    refine lv_iconst (v := 1) hx hb dX0_isFull_9 (by decide) ?_
    refine lv_goto (tgt := 14) hx hb dX0_isFull_10 (by decide) ?_
    exact b_14  _ _ _ (1 : Int32) hq hP hS (lv_sub hl [] rfl)

theorem iw_X0_add_X0 : ∀ w ∈ wsX00, w ∈ wsX0_add := by decide +kernel
set_option maxHeartbeats 4000000 in
set_option maxRecDepth 100000 in
theorem mk_X0_add (l : Launch) (D : va_G) (cI : Nat → ClassId) (aG aSg : Nat) (sz : Nat) (len : Int32) (sg : kF) (x1 : Int32) (o : Int32 × Int32 × kF) (hq : fn_X0_add len sg x1 = some o) : Met l yX0_add wsX0_add ({ frames := 0, cells := 0, slots := 0, locals := 0 }) (kPc D cI [(aG, .inr (0, [.ref aSg, .int len])), (aSg, .inl (cI 0, 120, .inl sg))] sz [.ref aG, .int x1]) (kQi D [(aG, .inr (0, [.ref aSg, .int len])), (aSg, .inl (cI 0, 120, .inl sg))] [(aG, .inr (0, [.ref aSg, .int o.2.1])), (aSg, .inl (cI 0, 120, .inl o.2.2))] sz o.1) 0 0 (va_A [(aG, .inr (0, [.ref aSg, .int len])), (aSg, .inl (cI 0, 120, .inl sg))] sz) := by
  refine kM_i (cc := cX0_add) (maxL := 2) (by decide +kernel) rfl (Nat.le_of_ble_eq_true rfl) ?_
  intro p e s m args below meth c A Q hF hK hG hD hA hend ls hP hS hl
  obtain ⟨hx, hb, hml, hown, hts⟩ := id hF
  have hl : lv_has ls 2 [(0, .ref aG), (1, .int x1)] := hl
  have b_36 : ∀ (H : Heap) (locs : List Loc) (ls : Array Slot) (len : Int32) (sg : kF), fn_X0_add_36 len sg = some o → va_P D vwCl [(aG, .inr (0, [.ref aSg, .int len])), (aSg, .inl (cI 0, 120, .inl sg))] H → va_D A [(aG, .inr (0, [.ref aSg, .int len])), (aSg, .inl (cI 0, 120, .inl sg))] → va_S A s.heap H locs → lv_has ls 2 [(0, .ref aG)] → W p l e { frames := 0, cells := 0, slots := 0, locals := 0 } s m args below meth c H locs 0 0 Q (F0 m 36 ls []) := by
    intro H locs ls len sg
    intro hq hP hD hS hl
    refine lv_aload_n hx hb dX0_add_36 rfl (lv_at hl 0 rfl) ?_
    refine va_get (D := D) (ci := 0) (v := .int len) (C := RX0) (T := TX0) (N := 2) hx hb hts iw_X0_add_X0 hown hK.1 hP 0 rfl rfl 1 (by decide) (hts (.fieldLink RX0 15 "PinDeck$GameText" "length" "I") (by decide +kernel)) (fun _ h9 => h9) rfl dX0_add_37 ?_
    have ho := Option.some.inj hq
    subst ho
    exact hend _ _ _ _ hP hS dX0_add_40
  refine lv_aload_n hx hb dX0_add_0 rfl (lv_at hl 0 rfl) ?_
  refine va_get (D := D) (ci := 0) (v := .int len) (C := RX0) (T := TX0) (N := 2) hx hb hts iw_X0_add_X0 hown hK.1 hP 0 rfl rfl 1 (by decide) (hts (.fieldLink RX0 15 "PinDeck$GameText" "length" "I") (by decide +kernel)) (fun _ h9 => h9) rfl dX0_add_1 ?_
  refine lv_if_lt (tgt := 36) hx hb dX0_add_4 (by decide) (fun c9 => ?_) (fun c9 => ?_)
  · have hq := kite_t c9 hq
    exact b_36  _ _ _ len sg hq hP hD hS (lv_sub hl [0] rfl)
  · have hq := kite_f c9 hq
    refine lv_aload_n hx hb dX0_add_7 rfl (lv_at hl 0 rfl) ?_
    refine va_get (D := D) (ci := 0) (v := .int len) (C := RX0) (T := TX0) (N := 2) hx hb hts iw_X0_add_X0 hown hK.1 hP 0 rfl rfl 1 (by decide) (hts (.fieldLink RX0 15 "PinDeck$GameText" "length" "I") (by decide +kernel)) (fun _ h9 => h9) rfl dX0_add_8 ?_
    refine lv_bipush (v := 120) hx hb dX0_add_11 (by decide) ?_
    refine lv_icmp_ge (tgt := 36) hx hb dX0_add_13 (by decide) (fun c9 => ?_) (fun c9 => ?_)
    · have hq := kite_t c9 hq
      exact b_36  _ _ _ len sg hq hP hD hS (lv_sub hl [0] rfl)
    · have hq := kite_f c9 hq
      refine lv_aload_n hx hb dX0_add_16 rfl (lv_at hl 0 rfl) ?_
      refine va_get (D := D) (ci := 0) (v := .ref aSg) (C := RX0) (T := TX0) (N := 2) hx hb hts iw_X0_add_X0 hown hK.1 hP 0 rfl rfl 0 (by decide) (hts (.fieldLink RX0 9 "PinDeck$GameText" "signs" "[I") (by decide +kernel)) (fun _ h9 => h9) rfl dX0_add_17 ?_
      refine lv_aload_n hx hb dX0_add_20 rfl (lv_at hl 0 rfl) ?_
      refine va_get (D := D) (ci := 0) (v := .int len) (C := RX0) (T := TX0) (N := 2) hx hb hts iw_X0_add_X0 hown hK.1 hP 0 rfl rfl 1 (by decide) (hts (.fieldLink RX0 15 "PinDeck$GameText" "length" "I") (by decide +kernel)) (fun _ h9 => h9) rfl dX0_add_21 ?_
      refine lv_iload_n hx hb dX0_add_24 rfl (lv_at hl 1 rfl) ?_
      obtain ⟨hz, hq⟩ := kite_n hq
      refine k_iast (j := (len.toNatClampNeg)) hx hb hK.1 hP hD hS 1 0 rfl rfl hz rfl dX0_add_25 (fun H locs hP hD hS => ?_)
      have hP : va_P D vwCl [(aG, .inr (0, [.ref aSg, .int len])), (aSg, .inl (cI 0, 120, .inl (upd sg (len.toNatClampNeg) x1)))] H := hP
      have hD : va_D A [(aG, .inr (0, [.ref aSg, .int len])), (aSg, .inl (cI 0, 120, .inl (upd sg (len.toNatClampNeg) x1)))] := hD
      refine lv_aload_n hx hb dX0_add_26 rfl (lv_at hl 0 rfl) ?_
      refine lv_dup hx hb dX0_add_27 rfl ?_
      refine va_get (D := D) (ci := 0) (v := .int len) (C := RX0) (T := TX0) (N := 2) hx hb hts iw_X0_add_X0 hown hK.1 hP 0 rfl rfl 1 (by decide) (hts (.fieldLink RX0 15 "PinDeck$GameText" "length" "I") (by decide +kernel)) (fun _ h9 => h9) rfl dX0_add_28 ?_
      refine lv_iconst (v := 1) hx hb dX0_add_31 (by decide) ?_
      refine lv_iadd hx hb dX0_add_32 ?_
      refine va_put (D := D) (ci := 0) (v := .int (len + (1 : Int32))) (ty := .int) (C := RX0) (T := TX0) (N := 2) hx hb hts iw_X0_add_X0 tyX0 tyX0_ok nmX0 hown hK.1 hP hD hS 0 rfl rfl 1 (by decide) (hts (.fieldLink RX0 15 "PinDeck$GameText" "length" "I") (by decide +kernel)) (fun _ h9 => h9) rfl (by decide +kernel) rfl rfl (Nat.le_of_ble_eq_true rfl) dX0_add_33 (fun H locs hP hD hS => ?_)
      have hP : va_P D vwCl [(aG, .inr (0, [.ref aSg, .int (len + (1 : Int32))])), (aSg, .inl (cI 0, 120, .inl (upd sg (len.toNatClampNeg) x1)))] H := hP
      have hD : va_D A [(aG, .inr (0, [.ref aSg, .int (len + (1 : Int32))])), (aSg, .inl (cI 0, 120, .inl (upd sg (len.toNatClampNeg) x1)))] := hD
      exact b_36  _ _ _ (len + (1 : Int32)) (upd sg (len.toNatClampNeg) x1) hq hP hD hS (lv_sub hl [0] rfl)

theorem iw_X0_signAt_X0 : ∀ w ∈ wsX00, w ∈ wsX0_signAt := by decide +kernel
set_option maxHeartbeats 4000000 in
set_option maxRecDepth 100000 in
theorem mk_X0_signAt (l : Launch) (D : va_G) (cI : Nat → ClassId) (aG aSg : Nat) (sz : Nat) (len : Int32) (sg : kF) (x1 : Int32) (o : Int32) (hq : fn_X0_signAt len sg x1 = some o) : Met l yX0_signAt wsX0_signAt ({ frames := 0, cells := 0, slots := 0, locals := 0 }) (kPc D cI [(aG, .inr (0, [.ref aSg, .int len])), (aSg, .inl (cI 0, 120, .inl sg))] sz [.ref aG, .int x1]) (kQi D [(aG, .inr (0, [.ref aSg, .int len])), (aSg, .inl (cI 0, 120, .inl sg))] [(aG, .inr (0, [.ref aSg, .int len])), (aSg, .inl (cI 0, 120, .inl sg))] sz o) 0 0 (va_A [(aG, .inr (0, [.ref aSg, .int len])), (aSg, .inl (cI 0, 120, .inl sg))] sz) := by
  refine kM_i (cc := cX0_signAt) (maxL := 2) (by decide +kernel) rfl (Nat.le_of_ble_eq_true rfl) ?_
  intro p e s m args below meth c A Q hF hK hG hD hA hend ls hP hS hl
  obtain ⟨hx, hb, hml, hown, hts⟩ := id hF
  have hl : lv_has ls 2 [(0, .ref aG), (1, .int x1)] := hl
  have b_28 : ∀ (H : Heap) (locs : List Loc) (ls : Array Slot) (k0 : Int32), fn_X0_signAt_28 len sg k0 = some o → va_P D vwCl [(aG, .inr (0, [.ref aSg, .int len])), (aSg, .inl (cI 0, 120, .inl sg))] H → va_S A s.heap H locs → lv_has ls 2 [] → W p l e { frames := 0, cells := 0, slots := 0, locals := 0 } s m args below meth c H locs 0 0 Q (F0 m 28 ls [.int k0]) := by
    intro H locs ls k0
    intro hq hP hS hl
    have ho := Option.some.inj hq
    subst ho
    exact hend _ _ _ _ hP hS dX0_signAt_28
  have b_27 : ∀ (H : Heap) (locs : List Loc) (ls : Array Slot), fn_X0_signAt_27 len sg = some o → va_P D vwCl [(aG, .inr (0, [.ref aSg, .int len])), (aSg, .inl (cI 0, 120, .inl sg))] H → va_S A s.heap H locs → lv_has ls 2 [] → W p l e { frames := 0, cells := 0, slots := 0, locals := 0 } s m args below meth c H locs 0 0 Q (F0 m 27 ls []) := by
    intro H locs ls 
    intro hq hP hS hl
    refine lv_iconst (v := (-1)) hx hb dX0_signAt_27 (by decide) ?_
    exact b_28  _ _ _ (-1 : Int32) hq hP hS (lv_sub hl [] rfl)
  refine lv_iload_n hx hb dX0_signAt_0 rfl (lv_at hl 1 rfl) ?_
  refine lv_if_lt (tgt := 27) hx hb dX0_signAt_1 (by decide) (fun c9 => ?_) (fun c9 => ?_)
  · have hq := kite_t c9 hq
    exact b_27  _ _ _  hq hP hS (lv_sub hl [] rfl)
  · have hq := kite_f c9 hq
    refine lv_iload_n hx hb dX0_signAt_4 rfl (lv_at hl 1 rfl) ?_
    refine lv_aload_n hx hb dX0_signAt_5 rfl (lv_at hl 0 rfl) ?_
    refine va_get (D := D) (ci := 0) (v := .int len) (C := RX0) (T := TX0) (N := 2) hx hb hts iw_X0_signAt_X0 hown hK.1 hP 0 rfl rfl 1 (by decide) (hts (.fieldLink RX0 15 "PinDeck$GameText" "length" "I") (by decide +kernel)) (fun _ h9 => h9) rfl dX0_signAt_6 ?_
    refine lv_icmp_ge (tgt := 27) hx hb dX0_signAt_9 (by decide) (fun c9 => ?_) (fun c9 => ?_)
    · have hq := kite_t c9 hq
      exact b_27  _ _ _  hq hP hS (lv_sub hl [] rfl)
    · have hq := kite_f c9 hq
      refine lv_iload_n hx hb dX0_signAt_12 rfl (lv_at hl 1 rfl) ?_
      refine lv_bipush (v := 120) hx hb dX0_signAt_13 (by decide) ?_
      refine lv_icmp_ge (tgt := 27) hx hb dX0_signAt_15 (by decide) (fun c9 => ?_) (fun c9 => ?_)
      · have hq := kite_t c9 hq
        exact b_27  _ _ _  hq hP hS (lv_sub hl [] rfl)
      · have hq := kite_f c9 hq
        refine lv_aload_n hx hb dX0_signAt_18 rfl (lv_at hl 0 rfl) ?_
        refine va_get (D := D) (ci := 0) (v := .ref aSg) (C := RX0) (T := TX0) (N := 2) hx hb hts iw_X0_signAt_X0 hown hK.1 hP 0 rfl rfl 0 (by decide) (hts (.fieldLink RX0 9 "PinDeck$GameText" "signs" "[I") (by decide +kernel)) (fun _ h9 => h9) rfl dX0_signAt_19 ?_
        refine lv_iload_n hx hb dX0_signAt_22 rfl (lv_at hl 1 rfl) ?_
        obtain ⟨hz, hq⟩ := kite_n hq
        refine k_iald (j := (x1.toNatClampNeg)) hx hb hK.1 hP 1 0 rfl rfl hz rfl dX0_signAt_23 ?_
        refine lv_goto (tgt := 28) hx hb dX0_signAt_24 (by decide) ?_
        exact b_28  _ _ _ (sg (x1.toNatClampNeg)) hq hP hS (lv_sub hl [] rfl)

set_option maxHeartbeats 4000000 in
set_option maxRecDepth 100000 in
theorem mk_X0_isBetween (l : Launch) (D : va_G) (cI : Nat → ClassId) (sz : Nat) (x0 : Int32) (x1 : Int32) (x2 : Int32) (o : Int32) (hq : fn_X0_isBetween x0 x1 x2 = some o) : Met l yX0_isBetween wsX0_isBetween ({ frames := 0, cells := 0, slots := 0, locals := 0 }) (kPc D cI [] sz [.int x0, .int x1, .int x2]) (kQi D [] [] sz o) 0 0 (va_A [] sz) := by
  refine kM_z (cc := cX0_isBetween) (maxL := 3) (by decide +kernel) rfl (Nat.le_of_ble_eq_true rfl) ?_
  intro p e s m args below meth c A Q hF hK hG hD hA hend ls hP hS hl
  obtain ⟨hx, hb, hml, hown, hts⟩ := id hF
  have hl : lv_has ls 3 [(0, .int x0), (1, .int x1), (2, .int x2)] := hl
  have b_15 : ∀ (H : Heap) (locs : List Loc) (ls : Array Slot) (k0 : Int32), fn_X0_isBetween_15 k0 = some o → va_P D vwCl [] H → va_S A s.heap H locs → lv_has ls 3 [] → W p l e { frames := 0, cells := 0, slots := 0, locals := 0 } s m args below meth c H locs 0 0 Q (F0 m 15 ls [.int k0]) := by
    intro H locs ls k0
    intro hq hP hS hl
    obtain ⟨hz, hq⟩ := kite_b hq
    have ho := Option.some.inj hq
    subst ho
    exact hend _ _ _ _ hz hP hS dX0_isBetween_15
  have b_14 : ∀ (H : Heap) (locs : List Loc) (ls : Array Slot), fn_X0_isBetween_14  = some o → va_P D vwCl [] H → va_S A s.heap H locs → lv_has ls 3 [] → W p l e { frames := 0, cells := 0, slots := 0, locals := 0 } s m args below meth c H locs 0 0 Q (F0 m 14 ls []) := by
    intro H locs ls 
    intro hq hP hS hl
    refine lv_iconst (v := 0) hx hb dX0_isBetween_14 (by decide) ?_
    exact b_15  _ _ _ (0 : Int32) hq hP hS (lv_sub hl [] rfl)
  refine lv_iload_n hx hb dX0_isBetween_0 rfl (lv_at hl 0 rfl) ?_
  refine lv_iload_n hx hb dX0_isBetween_1 rfl (lv_at hl 1 rfl) ?_
  refine lv_icmp_lt (tgt := 14) hx hb dX0_isBetween_2 (by decide) (fun c9 => ?_) (fun c9 => ?_)
  · have hq := kite_t c9 hq
    exact b_14  _ _ _  hq hP hS (lv_sub hl [] rfl)
  · have hq := kite_f c9 hq
    refine lv_iload_n hx hb dX0_isBetween_5 rfl (lv_at hl 0 rfl) ?_
    refine lv_iload_n hx hb dX0_isBetween_6 rfl (lv_at hl 2 rfl) ?_
    refine lv_icmp_gt (tgt := 14) hx hb dX0_isBetween_7 (by decide) (fun c9 => ?_) (fun c9 => ?_)
    · have hq := kite_t c9 hq
      exact b_14  _ _ _  hq hP hS (lv_sub hl [] rfl)
    · have hq := kite_f c9 hq
      refine lv_iconst (v := 1) hx hb dX0_isBetween_10 (by decide) ?_
      refine lv_goto (tgt := 15) hx hb dX0_isBetween_11 (by decide) ?_
      exact b_15  _ _ _ (1 : Int32) hq hP hS (lv_sub hl [] rfl)

set_option maxHeartbeats 4000000 in
set_option maxRecDepth 100000 in
theorem mk_X0_isFoulAt (l : Launch) (D : va_G) (cI : Nat → ClassId) (aG aSg : Nat) (sz : Nat) (len : Int32) (sg : kF) (x1 : Int32) (o : Int32) (hq : fn_X0_isFoulAt len sg x1 = some o) : Met l yX0_isFoulAt wsX0_isFoulAt ({ frames := 1, cells := 0, slots := 0, locals := 22 }) (kPc D cI [(aG, .inr (0, [.ref aSg, .int len])), (aSg, .inl (cI 0, 120, .inl sg))] sz [.ref aG, .int x1]) (kQi D [(aG, .inr (0, [.ref aSg, .int len])), (aSg, .inl (cI 0, 120, .inl sg))] [(aG, .inr (0, [.ref aSg, .int len])), (aSg, .inl (cI 0, 120, .inl sg))] sz o) 0 0 (va_A [(aG, .inr (0, [.ref aSg, .int len])), (aSg, .inl (cI 0, 120, .inl sg))] sz) := by
  refine kM_z (cc := cX0_isFoulAt) (maxL := 2) (by decide +kernel) rfl (Nat.le_of_ble_eq_true rfl) ?_
  intro p e s m args below meth c A Q hF hK hG hD hA hend ls hP hS hl
  obtain ⟨hx, hb, hml, hown, hts⟩ := id hF
  have hl : lv_has ls 2 [(0, .ref aG), (1, .int x1)] := hl
  have b_32 : ∀ (H : Heap) (locs : List Loc) (ls : Array Slot) (k0 : Int32), fn_X0_isFoulAt_32 len sg k0 = some o → va_P D vwCl [(aG, .inr (0, [.ref aSg, .int len])), (aSg, .inl (cI 0, 120, .inl sg))] H → va_S A s.heap H locs → lv_has ls 2 [] → W p l e { frames := 1, cells := 0, slots := 0, locals := 22 } s m args below meth c H locs 0 0 Q (F0 m 32 ls [.int k0]) := by
    intro H locs ls k0
    intro hq hP hS hl
    obtain ⟨hz, hq⟩ := kite_b hq
    have ho := Option.some.inj hq
    subst ho
    exact hend _ _ _ _ hz hP hS dX0_isFoulAt_32
  have b_31 : ∀ (H : Heap) (locs : List Loc) (ls : Array Slot), fn_X0_isFoulAt_31 len sg = some o → va_P D vwCl [(aG, .inr (0, [.ref aSg, .int len])), (aSg, .inl (cI 0, 120, .inl sg))] H → va_S A s.heap H locs → lv_has ls 2 [] → W p l e { frames := 1, cells := 0, slots := 0, locals := 22 } s m args below meth c H locs 0 0 Q (F0 m 31 ls []) := by
    intro H locs ls 
    intro hq hP hS hl
    refine lv_iconst (v := 0) hx hb dX0_isFoulAt_31 (by decide) ?_
    exact b_32  _ _ _ (0 : Int32) hq hP hS (lv_sub hl [] rfl)
  refine lv_aload_n hx hb dX0_isFoulAt_0 rfl (lv_at hl 0 rfl) ?_
  refine lv_iload_n hx hb dX0_isFoulAt_1 rfl (lv_at hl 1 rfl) ?_
  obtain ⟨o2, ho2, hq⟩ := kbind hq
  refine kc_Vi (av := [.int x1]) (rest := []) hF hK hG hA (mk_X0_signAt l D cI aG aSg s.heap.size len sg x1 o2 ho2) (cwV 1 hts gX0_isFoulAt_X0_signAt rfl rfl rfl (by decide +kernel) ⟨Nat.le_of_ble_eq_true rfl, Nat.le_of_ble_eq_true rfl⟩) hP hD hS [0, 1] (by decide) rfl rfl 0 rfl rfl rfl hl.1 rfl (Nat.le_of_ble_eq_true rfl) ⟨Nat.zero_le _, Nat.zero_le _⟩ dX0_isFoulAt_2 (fun H locs hP hD hS => ?_)
  have hP : va_P D vwCl [(aG, .inr (0, [.ref aSg, .int len])), (aSg, .inl (cI 0, 120, .inl sg))] H := hP
  have hD : va_D A [(aG, .inr (0, [.ref aSg, .int len])), (aSg, .inl (cI 0, 120, .inl sg))] := hD
  refine lv_bipush (v := 102) hx hb dX0_isFoulAt_5 (by decide) ?_
  refine lv_icmp_ne (tgt := 31) hx hb dX0_isFoulAt_7 (by decide) (fun c9 => ?_) (fun c9 => ?_)
  · have hq := kite_f c9 hq
    exact b_31  _ _ _  hq hP hS (lv_sub hl [] rfl)
  · have hq := kite_t c9 hq
    refine lv_aload_n hx hb dX0_isFoulAt_10 rfl (lv_at hl 0 rfl) ?_
    refine lv_iload_n hx hb dX0_isFoulAt_11 rfl (lv_at hl 1 rfl) ?_
    refine lv_iconst (v := 1) hx hb dX0_isFoulAt_12 (by decide) ?_
    refine lv_isub hx hb dX0_isFoulAt_13 ?_
    obtain ⟨o14, ho14, hq⟩ := kbind hq
    refine kc_Vi (av := [.int (x1 - (1 : Int32))]) (rest := []) hF hK hG hA (mk_X0_signAt l D cI aG aSg H.size len sg (x1 - (1 : Int32)) o14 ho14) (cwV 1 hts gX0_isFoulAt_X0_signAt rfl rfl rfl (by decide +kernel) ⟨Nat.le_of_ble_eq_true rfl, Nat.le_of_ble_eq_true rfl⟩) hP hD hS [0, 1] (by decide) rfl rfl 0 rfl rfl rfl hl.1 rfl (Nat.le_of_ble_eq_true rfl) ⟨Nat.zero_le _, Nat.zero_le _⟩ dX0_isFoulAt_14 (fun H locs hP hD hS => ?_)
    have hP : va_P D vwCl [(aG, .inr (0, [.ref aSg, .int len])), (aSg, .inl (cI 0, 120, .inl sg))] H := hP
    have hD : va_D A [(aG, .inr (0, [.ref aSg, .int len])), (aSg, .inl (cI 0, 120, .inl sg))] := hD
    refine lv_bipush (v := 48) hx hb dX0_isFoulAt_17 (by decide) ?_
    refine lv_bipush (v := 57) hx hb dX0_isFoulAt_19 (by decide) ?_
    obtain ⟨o21, ho21, hq⟩ := kbind hq
    refine kc_Si (av := [.int o14, .int (48 : Int32), .int (57 : Int32)]) (rest := []) hF hK hG hA (mk_X0_isBetween l D cI H.size o14 (48 : Int32) (57 : Int32) o21 ho21) (va_cwS 3 hts gX0_isFoulAt_X0_isBetween rfl rfl rfl (by decide +kernel) ⟨Nat.le_of_ble_eq_true rfl, Nat.le_of_ble_eq_true rfl⟩) hP hD hS [] (by decide) rfl rfl rfl hl.1 rfl (Nat.le_of_ble_eq_true rfl) ⟨Nat.zero_le _, Nat.zero_le _⟩ dX0_isFoulAt_21 (fun H locs hP hD hS => ?_)
    have hP : va_P D vwCl [(aG, .inr (0, [.ref aSg, .int len])), (aSg, .inl (cI 0, 120, .inl sg))] H := hP
    have hD : va_D A [(aG, .inr (0, [.ref aSg, .int len])), (aSg, .inl (cI 0, 120, .inl sg))] := hD
    refine lv_if_eq (tgt := 31) hx hb dX0_isFoulAt_24 (by decide) (fun c9 => ?_) (fun c9 => ?_)
    · have hq := kite_t c9 hq
      exact b_31  _ _ _  hq hP hS (lv_sub hl [] rfl)
    · have hq := kite_f c9 hq
      refine lv_iconst (v := 1) hx hb dX0_isFoulAt_27 (by decide) ?_
      refine lv_goto (tgt := 32) hx hb dX0_isFoulAt_28 (by decide) ?_
      exact b_32  _ _ _ (1 : Int32) hq hP hS (lv_sub hl [] rfl)

set_option maxHeartbeats 4000000 in
set_option maxRecDepth 100000 in
theorem mk_X0_driftOf (l : Launch) (D : va_G) (cI : Nat → ClassId) (sz : Nat) (x0 : Int32) (o : Int32) (hq : fn_X0_driftOf x0 = some o) : Met l yX0_driftOf wsX0_driftOf ({ frames := 0, cells := 0, slots := 0, locals := 0 }) (kPc D cI [] sz [.int x0]) (kQi D [] [] sz o) 0 0 (va_A [] sz) := by
  refine kM_i (cc := cX0_driftOf) (maxL := 1) (by decide +kernel) rfl (Nat.le_of_ble_eq_true rfl) ?_
  intro p e s m args below meth c A Q hF hK hG hD hA hend ls hP hS hl
  obtain ⟨hx, hb, hml, hown, hts⟩ := id hF
  have hl : lv_has ls 1 [(0, .int x0)] := hl
  refine lv_iload_n hx hb dX0_driftOf_0 rfl (lv_at hl 0 rfl) ?_
  by_cases c0 : x0 = 107
  · have hq := kite_t c0 hq
    refine lv_tableIn (off := 54) (tgt := 55) hx hb dX0_driftOf_1 (by rw [c0]; decide) (by rw [c0]; decide) (by rw [c0]; decide +kernel) (by decide) ?_
    refine lv_iconst (v := (-1)) hx hb dX0_driftOf_55 (by decide) ?_
    have ho := Option.some.inj hq
    subst ho
    exact hend _ _ _ _ hP hS dX0_driftOf_56
  have hq := kite_f c0 hq
  by_cases c1 : x0 = 108
  · have hq := kite_t c1 hq
    refine lv_tableIn (off := 51) (tgt := 52) hx hb dX0_driftOf_1 (by rw [c1]; decide) (by rw [c1]; decide) (by rw [c1]; decide +kernel) (by decide) ?_
    refine lv_bipush (v := (-2)) hx hb dX0_driftOf_52 (by decide) ?_
    have ho := Option.some.inj hq
    subst ho
    exact hend _ _ _ _ hP hS dX0_driftOf_54
  have hq := kite_f c1 hq
  by_cases c2 : x0 = 109
  · have hq := kite_t c2 hq
    refine lv_tableIn (off := 56) (tgt := 57) hx hb dX0_driftOf_1 (by rw [c2]; decide) (by rw [c2]; decide) (by rw [c2]; decide +kernel) (by decide) ?_
    refine lv_iconst (v := 0) hx hb dX0_driftOf_57 (by decide) ?_
    have ho := Option.some.inj hq
    subst ho
    exact hend _ _ _ _ hP hS dX0_driftOf_58
  have hq := kite_f c2 hq
  by_cases c3 : x0 = 110
  · have hq := kite_t c3 hq
    refine lv_tableIn (off := 62) (tgt := 63) hx hb dX0_driftOf_1 (by rw [c3]; decide) (by rw [c3]; decide) (by rw [c3]; decide +kernel) (by decide) ?_
    refine lv_iconst (v := 3) hx hb dX0_driftOf_63 (by decide) ?_
    have ho := Option.some.inj hq
    subst ho
    exact hend _ _ _ _ hP hS dX0_driftOf_64
  have hq := kite_f c3 hq
  by_cases c4 : x0 = 111
  · have hq := kite_t c4 hq
    refine lv_tableIn (off := 62) (tgt := 63) hx hb dX0_driftOf_1 (by rw [c4]; decide) (by rw [c4]; decide) (by rw [c4]; decide +kernel) (by decide) ?_
    refine lv_iconst (v := 3) hx hb dX0_driftOf_63 (by decide) ?_
    have ho := Option.some.inj hq
    subst ho
    exact hend _ _ _ _ hP hS dX0_driftOf_64
  have hq := kite_f c4 hq
  by_cases c5 : x0 = 112
  · have hq := kite_t c5 hq
    refine lv_tableIn (off := 62) (tgt := 63) hx hb dX0_driftOf_1 (by rw [c5]; decide) (by rw [c5]; decide) (by rw [c5]; decide +kernel) (by decide) ?_
    refine lv_iconst (v := 3) hx hb dX0_driftOf_63 (by decide) ?_
    have ho := Option.some.inj hq
    subst ho
    exact hend _ _ _ _ hP hS dX0_driftOf_64
  have hq := kite_f c5 hq
  by_cases c6 : x0 = 113
  · have hq := kite_t c6 hq
    refine lv_tableIn (off := 62) (tgt := 63) hx hb dX0_driftOf_1 (by rw [c6]; decide) (by rw [c6]; decide) (by rw [c6]; decide +kernel) (by decide) ?_
    refine lv_iconst (v := 3) hx hb dX0_driftOf_63 (by decide) ?_
    have ho := Option.some.inj hq
    subst ho
    exact hend _ _ _ _ hP hS dX0_driftOf_64
  have hq := kite_f c6 hq
  by_cases c7 : x0 = 114
  · have hq := kite_t c7 hq
    refine lv_tableIn (off := 58) (tgt := 59) hx hb dX0_driftOf_1 (by rw [c7]; decide) (by rw [c7]; decide) (by rw [c7]; decide +kernel) (by decide) ?_
    refine lv_iconst (v := 1) hx hb dX0_driftOf_59 (by decide) ?_
    have ho := Option.some.inj hq
    subst ho
    exact hend _ _ _ _ hP hS dX0_driftOf_60
  have hq := kite_f c7 hq
  by_cases c8 : x0 = 115
  · have hq := kite_t c8 hq
    refine lv_tableIn (off := 60) (tgt := 61) hx hb dX0_driftOf_1 (by rw [c8]; decide) (by rw [c8]; decide) (by rw [c8]; decide +kernel) (by decide) ?_
    refine lv_iconst (v := 2) hx hb dX0_driftOf_61 (by decide) ?_
    have ho := Option.some.inj hq
    subst ho
    exact hend _ _ _ _ hP hS dX0_driftOf_62
  have hq := kite_f c8 hq
  have hsw : (x0).toInt < 107 ∨ 115 < (x0).toInt := by
    refine Decidable.byContradiction fun hn => ?_
    have h9 : (x0).toInt = 107 ∨ (x0).toInt = 108 ∨ (x0).toInt = 109 ∨ (x0).toInt = 110 ∨ (x0).toInt = 111 ∨ (x0).toInt = 112 ∨ (x0).toInt = 113 ∨ (x0).toInt = 114 ∨ (x0).toInt = 115 := by omega
    rcases h9 with h9 | h9 | h9 | h9 | h9 | h9 | h9 | h9 | h9
    · exact c0 (Int32.toInt_inj.mp (h9.trans (by decide)))
    · exact c1 (Int32.toInt_inj.mp (h9.trans (by decide)))
    · exact c2 (Int32.toInt_inj.mp (h9.trans (by decide)))
    · exact c3 (Int32.toInt_inj.mp (h9.trans (by decide)))
    · exact c4 (Int32.toInt_inj.mp (h9.trans (by decide)))
    · exact c5 (Int32.toInt_inj.mp (h9.trans (by decide)))
    · exact c6 (Int32.toInt_inj.mp (h9.trans (by decide)))
    · exact c7 (Int32.toInt_inj.mp (h9.trans (by decide)))
    · exact c8 (Int32.toInt_inj.mp (h9.trans (by decide)))
  refine lv_tableOut (tgt := 63) hx hb dX0_driftOf_1 hsw (by decide) ?_
  refine lv_iconst (v := 3) hx hb dX0_driftOf_63 (by decide) ?_
  have ho := Option.some.inj hq
  subst ho
  exact hend _ _ _ _ hP hS dX0_driftOf_64

set_option maxHeartbeats 4000000 in
set_option maxRecDepth 100000 in
theorem mk_X0_isAllowed (l : Launch) (D : va_G) (cI : Nat → ClassId) (sz : Nat) (x0 : Int32) (x1 : Int32) (x2 : Int32) (o : Int32) (hq : fn_X0_isAllowed x0 x1 x2 = some o) : Met l yX0_isAllowed wsX0_isAllowed ({ frames := 1, cells := 0, slots := 0, locals := 22 }) (kPc D cI [] sz [.int x0, .int x1, .int x2]) (kQi D [] [] sz o) 0 0 (va_A [] sz) := by
  refine kM_z (cc := cX0_isAllowed) (maxL := 3) (by decide +kernel) rfl (Nat.le_of_ble_eq_true rfl) ?_
  intro p e s m args below meth c A Q hF hK hG hD hA hend ls hP hS hl
  obtain ⟨hx, hb, hml, hown, hts⟩ := id hF
  have hl : lv_has ls 3 [(0, .int x0), (1, .int x1), (2, .int x2)] := hl
  have b_57 : ∀ (H : Heap) (locs : List Loc) (ls : Array Slot) (k0 : Int32) (k1 : Int32) (k2 : Int32), fn_X0_isAllowed_57 k0 k1 k2 = some o → va_P D vwCl [] H → va_S A s.heap H locs → lv_has ls 3 [] → W p l e { frames := 1, cells := 0, slots := 0, locals := 22 } s m args below meth c H locs 0 0 Q (F0 m 57 ls [.int k2, .int k1, .int k0]) := by
    intro H locs ls k0 k1 k2
    intro hq hP hS hl
    obtain ⟨o57, ho57, hq⟩ := kbind hq
    refine kc_Si (av := [.int k0, .int k1, .int k2]) (rest := []) hF hK hG hA (mk_X0_isBetween l D cI H.size k0 k1 k2 o57 ho57) (va_cwS 3 hts gX0_isAllowed_X0_isBetween rfl rfl rfl (by decide +kernel) ⟨Nat.le_of_ble_eq_true rfl, Nat.le_of_ble_eq_true rfl⟩) hP hD hS [] (by decide) rfl rfl rfl hl.1 rfl (Nat.le_of_ble_eq_true rfl) ⟨Nat.zero_le _, Nat.zero_le _⟩ dX0_isAllowed_57 (fun H locs hP hD hS => ?_)
    have hP : va_P D vwCl [] H := hP
    have hD : va_D A [] := hD
    obtain ⟨hz, hq⟩ := kite_b hq
    have ho := Option.some.inj hq
    subst ho
    exact hend _ _ _ _ hz hP hS dX0_isAllowed_60
  have b_74 : ∀ (H : Heap) (locs : List Loc) (ls : Array Slot) (k0 : Int32), fn_X0_isAllowed_74 k0 = some o → va_P D vwCl [] H → va_S A s.heap H locs → lv_has ls 3 [] → W p l e { frames := 1, cells := 0, slots := 0, locals := 22 } s m args below meth c H locs 0 0 Q (F0 m 74 ls [.int k0]) := by
    intro H locs ls k0
    intro hq hP hS hl
    obtain ⟨hz, hq⟩ := kite_b hq
    have ho := Option.some.inj hq
    subst ho
    exact hend _ _ _ _ hz hP hS dX0_isAllowed_74
  have b_111 : ∀ (H : Heap) (locs : List Loc) (ls : Array Slot) (k0 : Int32) (k1 : Int32) (k2 : Int32), fn_X0_isAllowed_111 k0 k1 k2 = some o → va_P D vwCl [] H → va_S A s.heap H locs → lv_has ls 3 [] → W p l e { frames := 1, cells := 0, slots := 0, locals := 22 } s m args below meth c H locs 0 0 Q (F0 m 111 ls [.int k2, .int k1, .int k0]) := by
    intro H locs ls k0 k1 k2
    intro hq hP hS hl
    obtain ⟨o111, ho111, hq⟩ := kbind hq
    refine kc_Si (av := [.int k0, .int k1, .int k2]) (rest := []) hF hK hG hA (mk_X0_isBetween l D cI H.size k0 k1 k2 o111 ho111) (va_cwS 3 hts gX0_isAllowed_X0_isBetween rfl rfl rfl (by decide +kernel) ⟨Nat.le_of_ble_eq_true rfl, Nat.le_of_ble_eq_true rfl⟩) hP hD hS [] (by decide) rfl rfl rfl hl.1 rfl (Nat.le_of_ble_eq_true rfl) ⟨Nat.zero_le _, Nat.zero_le _⟩ dX0_isAllowed_111 (fun H locs hP hD hS => ?_)
    have hP : va_P D vwCl [] H := hP
    have hD : va_D A [] := hD
    obtain ⟨hz, hq⟩ := kite_b hq
    have ho := Option.some.inj hq
    subst ho
    exact hend _ _ _ _ hz hP hS dX0_isAllowed_114
  have b_98 : ∀ (H : Heap) (locs : List Loc) (ls : Array Slot) (x2 : Int32) (k0 : Int32) (k1 : Int32), fn_X0_isAllowed_98 x2 k0 k1 = some o → va_P D vwCl [] H → va_S A s.heap H locs → lv_has ls 3 [(2, .int x2)] → W p l e { frames := 1, cells := 0, slots := 0, locals := 22 } s m args below meth c H locs 0 0 Q (F0 m 98 ls [.int k1, .int k0]) := by
    intro H locs ls x2 k0 k1
    intro hq hP hS hl
    refine lv_iload_n hx hb dX0_isAllowed_98 rfl (lv_at hl 0 rfl) ?_
    refine lv_bipush (v := 51) hx hb dX0_isAllowed_99 (by decide) ?_
    refine lv_icmp_ne (tgt := 109) hx hb dX0_isAllowed_101 (by decide) (fun c9 => ?_) (fun c9 => ?_)
    · have hq := kite_f c9 hq
      refine lv_bipush (v := 57) hx hb dX0_isAllowed_109 (by decide) ?_
      exact b_111  _ _ _ k0 k1 (57 : Int32) hq hP hS (lv_sub hl [] rfl)
    · have hq := kite_t c9 hq
      refine lv_bipush (v := 48) hx hb dX0_isAllowed_104 (by decide) ?_
      refine lv_goto (tgt := 111) hx hb dX0_isAllowed_106 (by decide) ?_
      exact b_111  _ _ _ k0 k1 (48 : Int32) hq hP hS (lv_sub hl [] rfl)
  refine lv_iload_n hx hb dX0_isAllowed_0 rfl (lv_at hl 0 rfl) ?_
  by_cases c0 : x0 = 0
  · have hq := kite_t c0 hq
    refine lv_tableIn (off := 31) (tgt := 32) hx hb dX0_isAllowed_1 (by rw [c0]; decide) (by rw [c0]; decide) (by rw [c0]; decide +kernel) (by decide) ?_
    refine lv_iload_n hx hb dX0_isAllowed_32 rfl (lv_at hl 1 rfl) ?_
    refine lv_bipush (v := 48) hx hb dX0_isAllowed_33 (by decide) ?_
    refine lv_bipush (v := 52) hx hb dX0_isAllowed_35 (by decide) ?_
    obtain ⟨o37, ho37, hq⟩ := kbind hq
    refine kc_Si (av := [.int x1, .int (48 : Int32), .int (52 : Int32)]) (rest := []) hF hK hG hA (mk_X0_isBetween l D cI s.heap.size x1 (48 : Int32) (52 : Int32) o37 ho37) (va_cwS 3 hts gX0_isAllowed_X0_isBetween rfl rfl rfl (by decide +kernel) ⟨Nat.le_of_ble_eq_true rfl, Nat.le_of_ble_eq_true rfl⟩) hP hD hS [] (by decide) rfl rfl rfl hl.1 rfl (Nat.le_of_ble_eq_true rfl) ⟨Nat.zero_le _, Nat.zero_le _⟩ dX0_isAllowed_37 (fun H locs hP hD hS => ?_)
    have hP : va_P D vwCl [] H := hP
    have hD : va_D A [] := hD
    obtain ⟨hz, hq⟩ := kite_b hq
    have ho := Option.some.inj hq
    subst ho
    exact hend _ _ _ _ hz hP hS dX0_isAllowed_40
  have hq := kite_f c0 hq
  by_cases c1 : x0 = 1
  · have hq := kite_t c1 hq
    refine lv_tableIn (off := 40) (tgt := 41) hx hb dX0_isAllowed_1 (by rw [c1]; decide) (by rw [c1]; decide) (by rw [c1]; decide +kernel) (by decide) ?_
    refine lv_iload_n hx hb dX0_isAllowed_41 rfl (lv_at hl 1 rfl) ?_
    refine lv_bipush (v := 48) hx hb dX0_isAllowed_42 (by decide) ?_
    refine lv_iload_n hx hb dX0_isAllowed_44 rfl (lv_at hl 2 rfl) ?_
    refine lv_bipush (v := 52) hx hb dX0_isAllowed_45 (by decide) ?_
    refine lv_icmp_ne (tgt := 55) hx hb dX0_isAllowed_47 (by decide) (fun c9 => ?_) (fun c9 => ?_)
    · have hq := kite_f c9 hq
      refine lv_bipush (v := 57) hx hb dX0_isAllowed_55 (by decide) ?_
      exact b_57  _ _ _ x1 (48 : Int32) (57 : Int32) hq hP hS (lv_sub hl [] rfl)
    · have hq := kite_t c9 hq
      refine lv_bipush (v := 48) hx hb dX0_isAllowed_50 (by decide) ?_
      refine lv_goto (tgt := 57) hx hb dX0_isAllowed_52 (by decide) ?_
      exact b_57  _ _ _ x1 (48 : Int32) (48 : Int32) hq hP hS (lv_sub hl [] rfl)
  have hq := kite_f c1 hq
  by_cases c2 : x0 = 2
  · have hq := kite_t c2 hq
    refine lv_tableIn (off := 60) (tgt := 61) hx hb dX0_isAllowed_1 (by rw [c2]; decide) (by rw [c2]; decide) (by rw [c2]; decide +kernel) (by decide) ?_
    refine lv_iload_n hx hb dX0_isAllowed_61 rfl (lv_at hl 1 rfl) ?_
    obtain ⟨o62, ho62, hq⟩ := kbind hq
    refine kc_Si (av := [.int x1]) (rest := []) hF hK hG hA (mk_X0_driftOf l D cI s.heap.size x1 o62 ho62) (va_cwS 1 hts gX0_isAllowed_X0_driftOf rfl rfl rfl (by decide +kernel) ⟨Nat.le_of_ble_eq_true rfl, Nat.le_of_ble_eq_true rfl⟩) hP hD hS [] (by decide) rfl rfl rfl hl.1 rfl (Nat.le_of_ble_eq_true rfl) ⟨Nat.zero_le _, Nat.zero_le _⟩ dX0_isAllowed_62 (fun H locs hP hD hS => ?_)
    have hP : va_P D vwCl [] H := hP
    have hD : va_D A [] := hD
    refine lv_iconst (v := 3) hx hb dX0_isAllowed_65 (by decide) ?_
    refine lv_icmp_eq (tgt := 73) hx hb dX0_isAllowed_66 (by decide) (fun c9 => ?_) (fun c9 => ?_)
    · have hq := kite_t c9 hq
      refine lv_iconst (v := 0) hx hb dX0_isAllowed_73 (by decide) ?_
      exact b_74  _ _ _ (0 : Int32) hq hP hS (lv_sub hl [] rfl)
    · have hq := kite_f c9 hq
      refine lv_iconst (v := 1) hx hb dX0_isAllowed_69 (by decide) ?_
      refine lv_goto (tgt := 74) hx hb dX0_isAllowed_70 (by decide) ?_
      exact b_74  _ _ _ (1 : Int32) hq hP hS (lv_sub hl [] rfl)
  have hq := kite_f c2 hq
  by_cases c3 : x0 = 3
  · have hq := kite_t c3 hq
    refine lv_tableIn (off := 74) (tgt := 75) hx hb dX0_isAllowed_1 (by rw [c3]; decide) (by rw [c3]; decide) (by rw [c3]; decide +kernel) (by decide) ?_
    refine lv_iload_n hx hb dX0_isAllowed_75 rfl (lv_at hl 1 rfl) ?_
    refine lv_bipush (v := 48) hx hb dX0_isAllowed_76 (by decide) ?_
    refine lv_bipush (v := 51) hx hb dX0_isAllowed_78 (by decide) ?_
    obtain ⟨o80, ho80, hq⟩ := kbind hq
    refine kc_Si (av := [.int x1, .int (48 : Int32), .int (51 : Int32)]) (rest := []) hF hK hG hA (mk_X0_isBetween l D cI s.heap.size x1 (48 : Int32) (51 : Int32) o80 ho80) (va_cwS 3 hts gX0_isAllowed_X0_isBetween rfl rfl rfl (by decide +kernel) ⟨Nat.le_of_ble_eq_true rfl, Nat.le_of_ble_eq_true rfl⟩) hP hD hS [] (by decide) rfl rfl rfl hl.1 rfl (Nat.le_of_ble_eq_true rfl) ⟨Nat.zero_le _, Nat.zero_le _⟩ dX0_isAllowed_80 (fun H locs hP hD hS => ?_)
    have hP : va_P D vwCl [] H := hP
    have hD : va_D A [] := hD
    obtain ⟨hz, hq⟩ := kite_b hq
    have ho := Option.some.inj hq
    subst ho
    exact hend _ _ _ _ hz hP hS dX0_isAllowed_83
  have hq := kite_f c3 hq
  have hsw : (x0).toInt < 0 ∨ 3 < (x0).toInt := by
    refine Decidable.byContradiction fun hn => ?_
    have h9 : (x0).toInt = 0 ∨ (x0).toInt = 1 ∨ (x0).toInt = 2 ∨ (x0).toInt = 3 := by omega
    rcases h9 with h9 | h9 | h9 | h9
    · exact c0 (Int32.toInt_inj.mp (h9.trans (by decide)))
    · exact c1 (Int32.toInt_inj.mp (h9.trans (by decide)))
    · exact c2 (Int32.toInt_inj.mp (h9.trans (by decide)))
    · exact c3 (Int32.toInt_inj.mp (h9.trans (by decide)))
  refine lv_tableOut (tgt := 84) hx hb dX0_isAllowed_1 hsw (by decide) ?_
  refine lv_iload_n hx hb dX0_isAllowed_84 rfl (lv_at hl 1 rfl) ?_
  refine lv_iload_n hx hb dX0_isAllowed_85 rfl (lv_at hl 2 rfl) ?_
  refine lv_bipush (v := 48) hx hb dX0_isAllowed_86 (by decide) ?_
  refine lv_icmp_ne (tgt := 96) hx hb dX0_isAllowed_88 (by decide) (fun c9 => ?_) (fun c9 => ?_)
  · have hq := kite_f c9 hq
    refine lv_bipush (v := 48) hx hb dX0_isAllowed_96 (by decide) ?_
    exact b_98  _ _ _ x2 x1 (48 : Int32) hq hP hS (lv_sub hl [2] rfl)
  · have hq := kite_t c9 hq
    refine lv_bipush (v := 49) hx hb dX0_isAllowed_91 (by decide) ?_
    refine lv_goto (tgt := 98) hx hb dX0_isAllowed_93 (by decide) ?_
    exact b_98  _ _ _ x2 x1 (49 : Int32) hq hP hS (lv_sub hl [2] rfl)

theorem iw_X0_firstError_X0 : ∀ w ∈ wsX00, w ∈ wsX0_firstError := by decide +kernel
set_option maxHeartbeats 4000000 in
set_option maxRecDepth 100000 in
theorem mk_X0_firstError (l : Launch) (D : va_G) (cI : Nat → ClassId) (aG aSg : Nat) (sz : Nat) (len : Int32) (sg : kF) (o : Int32) (hq : fn_X0_firstError len sg = some o) : Met l yX0_firstError wsX0_firstError ({ frames := 2, cells := 0, slots := 0, locals := 44 }) (kPc D cI [(aG, .inr (0, [.ref aSg, .int len])), (aSg, .inl (cI 0, 120, .inl sg))] sz [.ref aG]) (kQi D [(aG, .inr (0, [.ref aSg, .int len])), (aSg, .inl (cI 0, 120, .inl sg))] [(aG, .inr (0, [.ref aSg, .int len])), (aSg, .inl (cI 0, 120, .inl sg))] sz o) 0 0 (va_A [(aG, .inr (0, [.ref aSg, .int len])), (aSg, .inl (cI 0, 120, .inl sg))] sz) := by
  refine kM_i (cc := cX0_firstError) (maxL := 3) (by decide +kernel) rfl (Nat.le_of_ble_eq_true rfl) ?_
  intro p e s m args below meth c A Q hF hK hG hD hA hend ls hP hS hl
  obtain ⟨hx, hb, hml, hown, hts⟩ := id hF
  have hl : lv_has ls 3 [(0, .ref aG)] := hl
  have b_91 : ∀ (H : Heap) (locs : List Loc) (ls : Array Slot) (k0 : Int32), fn_X0_firstError_91 len sg k0 = some o → va_P D vwCl [(aG, .inr (0, [.ref aSg, .int len])), (aSg, .inl (cI 0, 120, .inl sg))] H → va_S A s.heap H locs → lv_has ls 3 [] → W p l e { frames := 2, cells := 0, slots := 0, locals := 44 } s m args below meth c H locs 0 0 Q (F0 m 91 ls [.int k0]) := by
    intro H locs ls k0
    intro hq hP hS hl
    have ho := Option.some.inj hq
    subst ho
    exact hend _ _ _ _ hP hS dX0_firstError_91
  have b_73 : ∀ (q16 : Int32 → kF → Int32 → Int32 → Option (Int32)), (∀ (H : Heap) (locs : List Loc) (ls : Array Slot) (x1 : Int32) (x2 : Int32), q16 len sg x1 x2 = some o → va_P D vwCl [(aG, .inr (0, [.ref aSg, .int len])), (aSg, .inl (cI 0, 120, .inl sg))] H → va_S A s.heap H locs → lv_has ls 3 [(0, .ref aG), (1, .int x1), (2, .int x2)] → W p l e { frames := 2, cells := 0, slots := 0, locals := 44 } s m args below meth c H locs 0 0 Q (F0 m 16 ls [])) → ∀ (H : Heap) (locs : List Loc) (ls : Array Slot) (x1 : Int32) (x2 : Int32), fn_X0_firstError_73 q16 len sg x1 x2 = some o → va_P D vwCl [(aG, .inr (0, [.ref aSg, .int len])), (aSg, .inl (cI 0, 120, .inl sg))] H → va_S A s.heap H locs → lv_has ls 3 [(0, .ref aG), (1, .int x1), (2, .int x2)] → W p l e { frames := 2, cells := 0, slots := 0, locals := 44 } s m args below meth c H locs 0 0 Q (F0 m 73 ls []) := by
    intro q16 i16
    intro H locs ls x1 x2
    intro hq hP hS hl
    refine lv_iinc (v := (x2 + 1)) (lv' := [(2, .int (x2 + 1)), (0, .ref aG), (1, .int x1)]) hx hb dX0_firstError_73 hl (k := 2) rfl rfl (by decide) rfl (fun ls hl => ?_)
    refine lv_goto (tgt := 16) hx hb dX0_firstError_76 (by decide) ?_
    exact i16 _ _ _ x1 (x2 + 1) hq hP hS (lv_sub hl [1, 2, 0] rfl)
  have b_72 : ∀ (q16 : Int32 → kF → Int32 → Int32 → Option (Int32)), (∀ (H : Heap) (locs : List Loc) (ls : Array Slot) (x1 : Int32) (x2 : Int32), q16 len sg x1 x2 = some o → va_P D vwCl [(aG, .inr (0, [.ref aSg, .int len])), (aSg, .inl (cI 0, 120, .inl sg))] H → va_S A s.heap H locs → lv_has ls 3 [(0, .ref aG), (1, .int x1), (2, .int x2)] → W p l e { frames := 2, cells := 0, slots := 0, locals := 44 } s m args below meth c H locs 0 0 Q (F0 m 16 ls [])) → ∀ (H : Heap) (locs : List Loc) (ls : Array Slot) (x2 : Int32) (k0 : Int32), fn_X0_firstError_72 q16 len sg x2 k0 = some o → va_P D vwCl [(aG, .inr (0, [.ref aSg, .int len])), (aSg, .inl (cI 0, 120, .inl sg))] H → va_S A s.heap H locs → lv_has ls 3 [(0, .ref aG), (2, .int x2)] → W p l e { frames := 2, cells := 0, slots := 0, locals := 44 } s m args below meth c H locs 0 0 Q (F0 m 72 ls [.int k0]) := by
    intro q16 i16
    intro H locs ls x2 k0
    intro hq hP hS hl
    refine lv_istore_n (lv' := [(1, .int k0), (0, .ref aG), (2, .int x2)]) hx hb dX0_firstError_72 rfl hl (by decide) rfl (fun ls hl => ?_)
    exact b_73 q16 i16 _ _ _ k0 x2 hq hP hS (lv_sub hl [1, 0, 2] rfl)
  have b_39 : ∀ (q16 : Int32 → kF → Int32 → Int32 → Option (Int32)), (∀ (H : Heap) (locs : List Loc) (ls : Array Slot) (x1 : Int32) (x2 : Int32), q16 len sg x1 x2 = some o → va_P D vwCl [(aG, .inr (0, [.ref aSg, .int len])), (aSg, .inl (cI 0, 120, .inl sg))] H → va_S A s.heap H locs → lv_has ls 3 [(0, .ref aG), (1, .int x1), (2, .int x2)] → W p l e { frames := 2, cells := 0, slots := 0, locals := 44 } s m args below meth c H locs 0 0 Q (F0 m 16 ls [])) → ∀ (H : Heap) (locs : List Loc) (ls : Array Slot) (x1 : Int32) (x2 : Int32), fn_X0_firstError_39 q16 len sg x1 x2 = some o → va_P D vwCl [(aG, .inr (0, [.ref aSg, .int len])), (aSg, .inl (cI 0, 120, .inl sg))] H → va_S A s.heap H locs → lv_has ls 3 [(0, .ref aG), (1, .int x1), (2, .int x2)] → W p l e { frames := 2, cells := 0, slots := 0, locals := 44 } s m args below meth c H locs 0 0 Q (F0 m 39 ls []) := by
    intro q16 i16
    intro H locs ls x1 x2
    intro hq hP hS hl
    refine lv_iload_n hx hb dX0_firstError_39 rfl (lv_at hl 1 rfl) ?_
    refine lv_aload_n hx hb dX0_firstError_40 rfl (lv_at hl 0 rfl) ?_
    refine lv_iload_n hx hb dX0_firstError_41 rfl (lv_at hl 2 rfl) ?_
    obtain ⟨o42, ho42, hq⟩ := kbind hq
    refine kc_Vi (av := [.int x2]) (rest := [.int x1]) hF hK hG hA (mk_X0_signAt l D cI aG aSg H.size len sg x2 o42 ho42) (cwV 1 hts gX0_firstError_X0_signAt rfl rfl rfl (by decide +kernel) ⟨Nat.le_of_ble_eq_true rfl, Nat.le_of_ble_eq_true rfl⟩) hP hD hS [0, 1] (by decide) rfl rfl 0 rfl rfl rfl hl.1 rfl (Nat.le_of_ble_eq_true rfl) ⟨Nat.zero_le _, Nat.zero_le _⟩ dX0_firstError_42 (fun H locs hP hD hS => ?_)
    have hP : va_P D vwCl [(aG, .inr (0, [.ref aSg, .int len])), (aSg, .inl (cI 0, 120, .inl sg))] H := hP
    have hD : va_D A [(aG, .inr (0, [.ref aSg, .int len])), (aSg, .inl (cI 0, 120, .inl sg))] := hD
    refine lv_aload_n hx hb dX0_firstError_45 rfl (lv_at hl 0 rfl) ?_
    refine lv_iload_n hx hb dX0_firstError_46 rfl (lv_at hl 2 rfl) ?_
    refine lv_iconst (v := 1) hx hb dX0_firstError_47 (by decide) ?_
    refine lv_isub hx hb dX0_firstError_48 ?_
    obtain ⟨o49, ho49, hq⟩ := kbind hq
    refine kc_Vi (av := [.int (x2 - (1 : Int32))]) (rest := [.int o42, .int x1]) hF hK hG hA (mk_X0_signAt l D cI aG aSg H.size len sg (x2 - (1 : Int32)) o49 ho49) (cwV 1 hts gX0_firstError_X0_signAt rfl rfl rfl (by decide +kernel) ⟨Nat.le_of_ble_eq_true rfl, Nat.le_of_ble_eq_true rfl⟩) hP hD hS [0, 1] (by decide) rfl rfl 0 rfl rfl rfl hl.1 rfl (Nat.le_of_ble_eq_true rfl) ⟨Nat.zero_le _, Nat.zero_le _⟩ dX0_firstError_49 (fun H locs hP hD hS => ?_)
    have hP : va_P D vwCl [(aG, .inr (0, [.ref aSg, .int len])), (aSg, .inl (cI 0, 120, .inl sg))] H := hP
    have hD : va_D A [(aG, .inr (0, [.ref aSg, .int len])), (aSg, .inl (cI 0, 120, .inl sg))] := hD
    obtain ⟨o52, ho52, hq⟩ := kbind hq
    refine kc_Si (av := [.int x1, .int o42, .int o49]) (rest := []) hF hK hG hA (mk_X0_isAllowed l D cI H.size x1 o42 o49 o52 ho52) (va_cwS 3 hts gX0_firstError_X0_isAllowed rfl rfl rfl (by decide +kernel) ⟨Nat.le_of_ble_eq_true rfl, Nat.le_of_ble_eq_true rfl⟩) hP hD hS [] (by decide) rfl rfl rfl hl.1 rfl (Nat.le_of_ble_eq_true rfl) ⟨Nat.zero_le _, Nat.zero_le _⟩ dX0_firstError_52 (fun H locs hP hD hS => ?_)
    have hP : va_P D vwCl [(aG, .inr (0, [.ref aSg, .int len])), (aSg, .inl (cI 0, 120, .inl sg))] H := hP
    have hD : va_D A [(aG, .inr (0, [.ref aSg, .int len])), (aSg, .inl (cI 0, 120, .inl sg))] := hD
    refine lv_if_ne (tgt := 60) hx hb dX0_firstError_55 (by decide) (fun c9 => ?_) (fun c9 => ?_)
    · have hq := kite_f c9 hq
      refine lv_iload_n hx hb dX0_firstError_60 rfl (lv_at hl 1 rfl) ?_
      refine lv_iconst (v := 4) hx hb dX0_firstError_61 (by decide) ?_
      refine lv_icmp_ne (tgt := 69) hx hb dX0_firstError_62 (by decide) (fun c9 => ?_) (fun c9 => ?_)
      · have hq := kite_f c9 hq
        refine lv_iload_n hx hb dX0_firstError_69 rfl (lv_at hl 1 rfl) ?_
        refine lv_iconst (v := 1) hx hb dX0_firstError_70 (by decide) ?_
        refine lv_iadd hx hb dX0_firstError_71 ?_
        exact b_72 q16 i16 _ _ _ x2 (x1 + (1 : Int32)) hq hP hS (lv_sub hl [0, 2] rfl)
      · have hq := kite_t c9 hq
        refine lv_iconst (v := 0) hx hb dX0_firstError_65 (by decide) ?_
        refine lv_goto (tgt := 72) hx hb dX0_firstError_66 (by decide) ?_
        exact b_72 q16 i16 _ _ _ x2 (0 : Int32) hq hP hS (lv_sub hl [0, 2] rfl)
    · have hq := kite_t c9 hq
      refine lv_iload_n hx hb dX0_firstError_58 rfl (lv_at hl 2 rfl) ?_
      have ho := Option.some.inj hq
      subst ho
      exact hend _ _ _ _ hP hS dX0_firstError_59
  have b_16 : ∀ (q : Nat), ∀ (H : Heap) (locs : List Loc) (ls : Array Slot) (x1 : Int32) (x2 : Int32), fn_X0_firstError_16 q len sg x1 x2 = some o → va_P D vwCl [(aG, .inr (0, [.ref aSg, .int len])), (aSg, .inl (cI 0, 120, .inl sg))] H → va_S A s.heap H locs → lv_has ls 3 [(0, .ref aG), (1, .int x1), (2, .int x2)] → W p l e { frames := 2, cells := 0, slots := 0, locals := 44 } s m args below meth c H locs 0 0 Q (F0 m 16 ls []) := by
    intro q
    induction q with
    | zero =>
      intro H locs ls x1 x2
      intro hq
      cases hq
    | succ q ih =>
      intro H locs ls x1 x2
      intro hq hP hS hl
      refine lv_iload_n hx hb dX0_firstError_16 rfl (lv_at hl 2 rfl) ?_
      refine lv_aload_n hx hb dX0_firstError_17 rfl (lv_at hl 0 rfl) ?_
      refine va_get (D := D) (ci := 0) (v := .int len) (C := RX0) (T := TX0) (N := 2) hx hb hts iw_X0_firstError_X0 hown hK.1 hP 0 rfl rfl 1 (by decide) (hts (.fieldLink RX0 15 "PinDeck$GameText" "length" "I") (by decide +kernel)) (fun _ h9 => h9) rfl dX0_firstError_18 ?_
      refine lv_icmp_ge (tgt := 79) hx hb dX0_firstError_21 (by decide) (fun c9 => ?_) (fun c9 => ?_)
      · have hq := kite_t c9 hq
        refine lv_iload_n hx hb dX0_firstError_79 rfl (lv_at hl 1 rfl) ?_
        refine lv_if_ne (tgt := 87) hx hb dX0_firstError_80 (by decide) (fun c9 => ?_) (fun c9 => ?_)
        · have hq := kite_f c9 hq
          refine lv_aload_n hx hb dX0_firstError_87 rfl (lv_at hl 0 rfl) ?_
          refine va_get (D := D) (ci := 0) (v := .int len) (C := RX0) (T := TX0) (N := 2) hx hb hts iw_X0_firstError_X0 hown hK.1 hP 0 rfl rfl 1 (by decide) (hts (.fieldLink RX0 15 "PinDeck$GameText" "length" "I") (by decide +kernel)) (fun _ h9 => h9) rfl dX0_firstError_88 ?_
          exact b_91  _ _ _ len hq hP hS (lv_sub hl [] rfl)
        · have hq := kite_t c9 hq
          refine lv_iconst (v := (-1)) hx hb dX0_firstError_83 (by decide) ?_
          refine lv_goto (tgt := 91) hx hb dX0_firstError_84 (by decide) ?_
          exact b_91  _ _ _ (-1 : Int32) hq hP hS (lv_sub hl [] rfl)
      · have hq := kite_f c9 hq
        refine lv_aload_n hx hb dX0_firstError_24 rfl (lv_at hl 0 rfl) ?_
        refine lv_iload_n hx hb dX0_firstError_25 rfl (lv_at hl 2 rfl) ?_
        obtain ⟨o26, ho26, hq⟩ := kbind hq
        refine kc_Vi (av := [.int x2]) (rest := []) hF hK hG hA (mk_X0_isFoulAt l D cI aG aSg H.size len sg x2 o26 ho26) (cwV 1 hts gX0_firstError_X0_isFoulAt rfl rfl rfl (by decide +kernel) ⟨Nat.le_of_ble_eq_true rfl, Nat.le_of_ble_eq_true rfl⟩) hP hD hS [0, 1] (by decide) rfl rfl 0 rfl rfl rfl hl.1 rfl (Nat.le_of_ble_eq_true rfl) ⟨Nat.zero_le _, Nat.zero_le _⟩ dX0_firstError_26 (fun H locs hP hD hS => ?_)
        have hP : va_P D vwCl [(aG, .inr (0, [.ref aSg, .int len])), (aSg, .inl (cI 0, 120, .inl sg))] H := hP
        have hD : va_D A [(aG, .inr (0, [.ref aSg, .int len])), (aSg, .inl (cI 0, 120, .inl sg))] := hD
        refine lv_if_eq (tgt := 39) hx hb dX0_firstError_29 (by decide) (fun c9 => ?_) (fun c9 => ?_)
        · have hq := kite_t c9 hq
          exact b_39 (fn_X0_firstError_16 q) ih _ _ _ x1 x2 hq hP hS (lv_sub hl [0, 1, 2] rfl)
        · have hq := kite_f c9 hq
          refine lv_iload_n hx hb dX0_firstError_32 rfl (lv_at hl 1 rfl) ?_
          refine lv_if_ne (tgt := 39) hx hb dX0_firstError_33 (by decide) (fun c9 => ?_) (fun c9 => ?_)
          · have hq := kite_f c9 hq
            exact b_39 (fn_X0_firstError_16 q) ih _ _ _ x1 x2 hq hP hS (lv_sub hl [0, 1, 2] rfl)
          · have hq := kite_t c9 hq
            refine lv_goto (tgt := 73) hx hb dX0_firstError_36 (by decide) ?_
            exact b_73 (fn_X0_firstError_16 q) ih _ _ _ x1 x2 hq hP hS (lv_sub hl [0, 1, 2] rfl)
  refine lv_aload_n hx hb dX0_firstError_0 rfl (lv_at hl 0 rfl) ?_
  refine lv_iconst (v := 0) hx hb dX0_firstError_1 (by decide) ?_
  obtain ⟨o2, ho2, hq⟩ := kbind hq
  refine kc_Vi (av := [.int (0 : Int32)]) (rest := []) hF hK hG hA (mk_X0_signAt l D cI aG aSg s.heap.size len sg (0 : Int32) o2 ho2) (cwV 1 hts gX0_firstError_X0_signAt rfl rfl rfl (by decide +kernel) ⟨Nat.le_of_ble_eq_true rfl, Nat.le_of_ble_eq_true rfl⟩) hP hD hS [0, 1] (by decide) rfl rfl 0 rfl rfl rfl hl.1 rfl (Nat.le_of_ble_eq_true rfl) ⟨Nat.zero_le _, Nat.zero_le _⟩ dX0_firstError_2 (fun H locs hP hD hS => ?_)
  have hP : va_P D vwCl [(aG, .inr (0, [.ref aSg, .int len])), (aSg, .inl (cI 0, 120, .inl sg))] H := hP
  have hD : va_D A [(aG, .inr (0, [.ref aSg, .int len])), (aSg, .inl (cI 0, 120, .inl sg))] := hD
  refine lv_bipush (v := 80) hx hb dX0_firstError_5 (by decide) ?_
  refine lv_icmp_eq (tgt := 12) hx hb dX0_firstError_7 (by decide) (fun c9 => ?_) (fun c9 => ?_)
  · have hq := kite_t c9 hq
    refine lv_iconst (v := 0) hx hb dX0_firstError_12 (by decide) ?_
    refine lv_istore_n (lv' := [(1, .int (0 : Int32)), (0, .ref aG)]) hx hb dX0_firstError_13 rfl hl (by decide) rfl (fun ls hl => ?_)
    refine lv_iconst (v := 1) hx hb dX0_firstError_14 (by decide) ?_
    refine lv_istore_n (lv' := [(2, .int (1 : Int32)), (1, .int (0 : Int32)), (0, .ref aG)]) hx hb dX0_firstError_15 rfl hl (by decide) rfl (fun ls hl => ?_)
    exact b_16 4096 _ _ _ (0 : Int32) (1 : Int32) hq hP hS (lv_sub hl [2, 1, 0] rfl)
  · have hq := kite_f c9 hq
    refine lv_iconst (v := 0) hx hb dX0_firstError_10 (by decide) ?_
    have ho := Option.some.inj hq
    subst ho
    exact hend _ _ _ _ hP hS dX0_firstError_11

set_option maxHeartbeats 4000000 in
set_option maxRecDepth 100000 in
theorem mk_X0_numberAt (l : Launch) (D : va_G) (cI : Nat → ClassId) (aG aSg : Nat) (sz : Nat) (len : Int32) (sg : kF) (x1 : Int32) (o : Int32) (hq : fn_X0_numberAt len sg x1 = some o) : Met l yX0_numberAt wsX0_numberAt ({ frames := 1, cells := 0, slots := 0, locals := 21 }) (kPc D cI [(aG, .inr (0, [.ref aSg, .int len])), (aSg, .inl (cI 0, 120, .inl sg))] sz [.ref aG, .int x1]) (kQi D [(aG, .inr (0, [.ref aSg, .int len])), (aSg, .inl (cI 0, 120, .inl sg))] [(aG, .inr (0, [.ref aSg, .int len])), (aSg, .inl (cI 0, 120, .inl sg))] sz o) 0 0 (va_A [(aG, .inr (0, [.ref aSg, .int len])), (aSg, .inl (cI 0, 120, .inl sg))] sz) := by
  refine kM_i (cc := cX0_numberAt) (maxL := 2) (by decide +kernel) rfl (Nat.le_of_ble_eq_true rfl) ?_
  intro p e s m args below meth c A Q hF hK hG hD hA hend ls hP hS hl
  obtain ⟨hx, hb, hml, hown, hts⟩ := id hF
  have hl : lv_has ls 2 [(0, .ref aG), (1, .int x1)] := hl
  refine lv_bipush (v := 10) hx hb dX0_numberAt_0 (by decide) ?_
  refine lv_aload_n hx hb dX0_numberAt_2 rfl (lv_at hl 0 rfl) ?_
  refine lv_iload_n hx hb dX0_numberAt_3 rfl (lv_at hl 1 rfl) ?_
  obtain ⟨o4, ho4, hq⟩ := kbind hq
  refine kc_Vi (av := [.int x1]) (rest := [.int (10 : Int32)]) hF hK hG hA (mk_X0_signAt l D cI aG aSg s.heap.size len sg x1 o4 ho4) (cwV 1 hts gX0_numberAt_X0_signAt rfl rfl rfl (by decide +kernel) ⟨Nat.le_of_ble_eq_true rfl, Nat.le_of_ble_eq_true rfl⟩) hP hD hS [0, 1] (by decide) rfl rfl 0 rfl rfl rfl hl.1 rfl (Nat.le_of_ble_eq_true rfl) ⟨Nat.zero_le _, Nat.zero_le _⟩ dX0_numberAt_4 (fun H locs hP hD hS => ?_)
  have hP : va_P D vwCl [(aG, .inr (0, [.ref aSg, .int len])), (aSg, .inl (cI 0, 120, .inl sg))] H := hP
  have hD : va_D A [(aG, .inr (0, [.ref aSg, .int len])), (aSg, .inl (cI 0, 120, .inl sg))] := hD
  refine lv_bipush (v := 48) hx hb dX0_numberAt_7 (by decide) ?_
  refine lv_isub hx hb dX0_numberAt_9 ?_
  refine lv_imul hx hb dX0_numberAt_10 ?_
  refine lv_aload_n hx hb dX0_numberAt_11 rfl (lv_at hl 0 rfl) ?_
  refine lv_iload_n hx hb dX0_numberAt_12 rfl (lv_at hl 1 rfl) ?_
  refine lv_iconst (v := 1) hx hb dX0_numberAt_13 (by decide) ?_
  refine lv_iadd hx hb dX0_numberAt_14 ?_
  obtain ⟨o15, ho15, hq⟩ := kbind hq
  refine kc_Vi (av := [.int (x1 + (1 : Int32))]) (rest := [.int ((10 : Int32) * (o4 - (48 : Int32)))]) hF hK hG hA (mk_X0_signAt l D cI aG aSg H.size len sg (x1 + (1 : Int32)) o15 ho15) (cwV 1 hts gX0_numberAt_X0_signAt rfl rfl rfl (by decide +kernel) ⟨Nat.le_of_ble_eq_true rfl, Nat.le_of_ble_eq_true rfl⟩) hP hD hS [0, 1] (by decide) rfl rfl 0 rfl rfl rfl hl.1 rfl (Nat.le_of_ble_eq_true rfl) ⟨Nat.zero_le _, Nat.zero_le _⟩ dX0_numberAt_15 (fun H locs hP hD hS => ?_)
  have hP : va_P D vwCl [(aG, .inr (0, [.ref aSg, .int len])), (aSg, .inl (cI 0, 120, .inl sg))] H := hP
  have hD : va_D A [(aG, .inr (0, [.ref aSg, .int len])), (aSg, .inl (cI 0, 120, .inl sg))] := hD
  refine lv_iadd hx hb dX0_numberAt_18 ?_
  refine lv_bipush (v := 48) hx hb dX0_numberAt_19 (by decide) ?_
  refine lv_isub hx hb dX0_numberAt_21 ?_
  have ho := Option.some.inj hq
  subst ho
  exact hend _ _ _ _ hP hS dX0_numberAt_22

theorem iw_X0_playOn_X0 : ∀ w ∈ wsX00, w ∈ wsX0_playOn := by decide +kernel
set_option maxHeartbeats 4000000 in
set_option maxRecDepth 100000 in
theorem mk_X0_playOn (l : Launch) (D : va_G) (cI : Nat → ClassId) (aG aSg azT azP azS azSe azLe azSh azTk azSr : Nat) (sz : Nat) (len : Int32) (sg : kF) (zsto : Int32) (zdro : Int32) (zfou : Int32) (ztold : Int32) (zwl : Int32) (zwr : Int32) (zle : kF) (zsh : kF) (zrolls : Int32) (zfrm : Int32) (ztk : kF) (zsr : kF) (zse : kF) (o : Int32 × Int32 × Int32 × Int32 × Int32 × Int32 × Int32 × kF × kF × Int32 × Int32 × kF × kF) (hq : fn_X0_playOn len sg zsto zdro zfou ztold zwl zwr zle zsh zrolls zfrm ztk zsr zse = some o) : Met l yX0_playOn wsX0_playOn ({ frames := 5, cells := 0, slots := 0, locals := 125 }) (kPc D cI [(aG, .inr (0, [.ref aSg, .int len])), (aSg, .inl (cI 0, 120, .inl sg)), (azT, .inr (5, [.ref azP, .ref azS, .ref azSe, .int zsto, .int zdro, .int zfou])), (azP, .inr (2, [.ref azLe, .ref azSh, .int ztold, .int zwl, .int zwr])), (azLe, .inl (cI 0, 10, .inl zle)), (azSh, .inl (cI 0, 10, .inl zsh)), (azS, .inr (3, [.ref azTk, .ref azSr, .int zrolls, .int zfrm])), (azTk, .inl (cI 0, 21, .inl ztk)), (azSr, .inl (cI 0, 11, .inl zsr)), (azSe, .inl (cI 0, 3, .inl zse))] sz [.ref aG, .ref azT]) (kQi D [(aG, .inr (0, [.ref aSg, .int len])), (aSg, .inl (cI 0, 120, .inl sg)), (azT, .inr (5, [.ref azP, .ref azS, .ref azSe, .int zsto, .int zdro, .int zfou])), (azP, .inr (2, [.ref azLe, .ref azSh, .int ztold, .int zwl, .int zwr])), (azLe, .inl (cI 0, 10, .inl zle)), (azSh, .inl (cI 0, 10, .inl zsh)), (azS, .inr (3, [.ref azTk, .ref azSr, .int zrolls, .int zfrm])), (azTk, .inl (cI 0, 21, .inl ztk)), (azSr, .inl (cI 0, 11, .inl zsr)), (azSe, .inl (cI 0, 3, .inl zse))] [(aG, .inr (0, [.ref aSg, .int len])), (aSg, .inl (cI 0, 120, .inl sg)), (azT, .inr (5, [.ref azP, .ref azS, .ref azSe, .int o.2.1, .int o.2.2.1, .int o.2.2.2.1])), (azP, .inr (2, [.ref azLe, .ref azSh, .int o.2.2.2.2.1, .int o.2.2.2.2.2.1, .int o.2.2.2.2.2.2.1])), (azLe, .inl (cI 0, 10, .inl o.2.2.2.2.2.2.2.1)), (azSh, .inl (cI 0, 10, .inl o.2.2.2.2.2.2.2.2.1)), (azS, .inr (3, [.ref azTk, .ref azSr, .int o.2.2.2.2.2.2.2.2.2.1, .int o.2.2.2.2.2.2.2.2.2.2.1])), (azTk, .inl (cI 0, 21, .inl o.2.2.2.2.2.2.2.2.2.2.2.1)), (azSr, .inl (cI 0, 11, .inl o.2.2.2.2.2.2.2.2.2.2.2.2)), (azSe, .inl (cI 0, 3, .inl zse))] sz o.1) 0 0 (va_A [(aG, .inr (0, [.ref aSg, .int len])), (aSg, .inl (cI 0, 120, .inl sg)), (azT, .inr (5, [.ref azP, .ref azS, .ref azSe, .int zsto, .int zdro, .int zfou])), (azP, .inr (2, [.ref azLe, .ref azSh, .int ztold, .int zwl, .int zwr])), (azLe, .inl (cI 0, 10, .inl zle)), (azSh, .inl (cI 0, 10, .inl zsh)), (azS, .inr (3, [.ref azTk, .ref azSr, .int zrolls, .int zfrm])), (azTk, .inl (cI 0, 21, .inl ztk)), (azSr, .inl (cI 0, 11, .inl zsr)), (azSe, .inl (cI 0, 3, .inl zse))] sz) := by
  refine kM_i (cc := cX0_playOn) (maxL := 8) (by decide +kernel) rfl (Nat.le_of_ble_eq_true rfl) ?_
  intro p e s m args below meth c A Q hF hK hG hD hA hend ls hP hS hl
  obtain ⟨hx, hb, hml, hown, hts⟩ := id hF
  have hl : lv_has ls 8 [(0, .ref aG), (1, .ref azT)] := hl
  have b_76 : ∀ (q4 : Int32 → kF → Int32 → Int32 → Int32 → Int32 → Int32 → Int32 → kF → kF → Int32 → Int32 → kF → kF → kF → Int32 → Int32 → Option (Int32 × Int32 × Int32 × Int32 × Int32 × Int32 × Int32 × kF × kF × Int32 × Int32 × kF × kF)), (∀ (H : Heap) (locs : List Loc) (ls : Array Slot) (zsto : Int32) (zdro : Int32) (zfou : Int32) (ztold : Int32) (zwl : Int32) (zwr : Int32) (zle : kF) (zsh : kF) (zrolls : Int32) (zfrm : Int32) (ztk : kF) (zsr : kF) (x2 : Int32) (x3 : Int32), q4 len sg zsto zdro zfou ztold zwl zwr zle zsh zrolls zfrm ztk zsr zse x2 x3 = some o → va_P D vwCl [(aG, .inr (0, [.ref aSg, .int len])), (aSg, .inl (cI 0, 120, .inl sg)), (azT, .inr (5, [.ref azP, .ref azS, .ref azSe, .int zsto, .int zdro, .int zfou])), (azP, .inr (2, [.ref azLe, .ref azSh, .int ztold, .int zwl, .int zwr])), (azLe, .inl (cI 0, 10, .inl zle)), (azSh, .inl (cI 0, 10, .inl zsh)), (azS, .inr (3, [.ref azTk, .ref azSr, .int zrolls, .int zfrm])), (azTk, .inl (cI 0, 21, .inl ztk)), (azSr, .inl (cI 0, 11, .inl zsr)), (azSe, .inl (cI 0, 3, .inl zse))] H → va_D A [(aG, .inr (0, [.ref aSg, .int len])), (aSg, .inl (cI 0, 120, .inl sg)), (azT, .inr (5, [.ref azP, .ref azS, .ref azSe, .int zsto, .int zdro, .int zfou])), (azP, .inr (2, [.ref azLe, .ref azSh, .int ztold, .int zwl, .int zwr])), (azLe, .inl (cI 0, 10, .inl zle)), (azSh, .inl (cI 0, 10, .inl zsh)), (azS, .inr (3, [.ref azTk, .ref azSr, .int zrolls, .int zfrm])), (azTk, .inl (cI 0, 21, .inl ztk)), (azSr, .inl (cI 0, 11, .inl zsr)), (azSe, .inl (cI 0, 3, .inl zse))] → va_S A s.heap H locs → lv_has ls 8 [(0, .ref aG), (1, .ref azT), (2, .int x2), (3, .int x3)] → W p l e { frames := 5, cells := 0, slots := 0, locals := 125 } s m args below meth c H locs 0 0 Q (F0 m 4 ls [])) → ∀ (H : Heap) (locs : List Loc) (ls : Array Slot) (zsto : Int32) (zdro : Int32) (zfou : Int32) (ztold : Int32) (zwl : Int32) (zwr : Int32) (zle : kF) (zsh : kF) (zrolls : Int32) (zfrm : Int32) (ztk : kF) (zsr : kF) (x2 : Int32) (x3 : Int32), fn_X0_playOn_76 q4 len sg zsto zdro zfou ztold zwl zwr zle zsh zrolls zfrm ztk zsr zse x2 x3 = some o → va_P D vwCl [(aG, .inr (0, [.ref aSg, .int len])), (aSg, .inl (cI 0, 120, .inl sg)), (azT, .inr (5, [.ref azP, .ref azS, .ref azSe, .int zsto, .int zdro, .int zfou])), (azP, .inr (2, [.ref azLe, .ref azSh, .int ztold, .int zwl, .int zwr])), (azLe, .inl (cI 0, 10, .inl zle)), (azSh, .inl (cI 0, 10, .inl zsh)), (azS, .inr (3, [.ref azTk, .ref azSr, .int zrolls, .int zfrm])), (azTk, .inl (cI 0, 21, .inl ztk)), (azSr, .inl (cI 0, 11, .inl zsr)), (azSe, .inl (cI 0, 3, .inl zse))] H → va_D A [(aG, .inr (0, [.ref aSg, .int len])), (aSg, .inl (cI 0, 120, .inl sg)), (azT, .inr (5, [.ref azP, .ref azS, .ref azSe, .int zsto, .int zdro, .int zfou])), (azP, .inr (2, [.ref azLe, .ref azSh, .int ztold, .int zwl, .int zwr])), (azLe, .inl (cI 0, 10, .inl zle)), (azSh, .inl (cI 0, 10, .inl zsh)), (azS, .inr (3, [.ref azTk, .ref azSr, .int zrolls, .int zfrm])), (azTk, .inl (cI 0, 21, .inl ztk)), (azSr, .inl (cI 0, 11, .inl zsr)), (azSe, .inl (cI 0, 3, .inl zse))] → va_S A s.heap H locs → lv_has ls 8 [(0, .ref aG), (1, .ref azT), (2, .int x2), (3, .int x3)] → W p l e { frames := 5, cells := 0, slots := 0, locals := 125 } s m args below meth c H locs 0 0 Q (F0 m 76 ls []) := by
    intro q4 i4
    intro H locs ls zsto zdro zfou ztold zwl zwr zle zsh zrolls zfrm ztk zsr x2 x3
    intro hq hP hD hS hl
    refine lv_goto (tgt := 4) hx hb dX0_playOn_76 (by decide) ?_
    exact i4 _ _ _ zsto zdro zfou ztold zwl zwr zle zsh zrolls zfrm ztk zsr x2 x3 hq hP hD hS (lv_sub hl [0, 1, 2, 3] rfl)
  have b_58 : ∀ (q4 : Int32 → kF → Int32 → Int32 → Int32 → Int32 → Int32 → Int32 → kF → kF → Int32 → Int32 → kF → kF → kF → Int32 → Int32 → Option (Int32 × Int32 × Int32 × Int32 × Int32 × Int32 × Int32 × kF × kF × Int32 × Int32 × kF × kF)), (∀ (H : Heap) (locs : List Loc) (ls : Array Slot) (zsto : Int32) (zdro : Int32) (zfou : Int32) (ztold : Int32) (zwl : Int32) (zwr : Int32) (zle : kF) (zsh : kF) (zrolls : Int32) (zfrm : Int32) (ztk : kF) (zsr : kF) (x2 : Int32) (x3 : Int32), q4 len sg zsto zdro zfou ztold zwl zwr zle zsh zrolls zfrm ztk zsr zse x2 x3 = some o → va_P D vwCl [(aG, .inr (0, [.ref aSg, .int len])), (aSg, .inl (cI 0, 120, .inl sg)), (azT, .inr (5, [.ref azP, .ref azS, .ref azSe, .int zsto, .int zdro, .int zfou])), (azP, .inr (2, [.ref azLe, .ref azSh, .int ztold, .int zwl, .int zwr])), (azLe, .inl (cI 0, 10, .inl zle)), (azSh, .inl (cI 0, 10, .inl zsh)), (azS, .inr (3, [.ref azTk, .ref azSr, .int zrolls, .int zfrm])), (azTk, .inl (cI 0, 21, .inl ztk)), (azSr, .inl (cI 0, 11, .inl zsr)), (azSe, .inl (cI 0, 3, .inl zse))] H → va_D A [(aG, .inr (0, [.ref aSg, .int len])), (aSg, .inl (cI 0, 120, .inl sg)), (azT, .inr (5, [.ref azP, .ref azS, .ref azSe, .int zsto, .int zdro, .int zfou])), (azP, .inr (2, [.ref azLe, .ref azSh, .int ztold, .int zwl, .int zwr])), (azLe, .inl (cI 0, 10, .inl zle)), (azSh, .inl (cI 0, 10, .inl zsh)), (azS, .inr (3, [.ref azTk, .ref azSr, .int zrolls, .int zfrm])), (azTk, .inl (cI 0, 21, .inl ztk)), (azSr, .inl (cI 0, 11, .inl zsr)), (azSe, .inl (cI 0, 3, .inl zse))] → va_S A s.heap H locs → lv_has ls 8 [(0, .ref aG), (1, .ref azT), (2, .int x2), (3, .int x3)] → W p l e { frames := 5, cells := 0, slots := 0, locals := 125 } s m args below meth c H locs 0 0 Q (F0 m 4 ls [])) → ∀ (H : Heap) (locs : List Loc) (ls : Array Slot) (zsto : Int32) (zdro : Int32) (zfou : Int32) (ztold : Int32) (zwl : Int32) (zwr : Int32) (zle : kF) (zsh : kF) (zrolls : Int32) (zfrm : Int32) (ztk : kF) (zsr : kF) (x2 : Int32) (x3 : Int32) (x4 : Int32) (x5 : Int32) (x6 : Int32) (x7 : Int32), fn_X0_playOn_58 q4 len sg zsto zdro zfou ztold zwl zwr zle zsh zrolls zfrm ztk zsr zse x2 x3 x4 x5 x6 x7 = some o → va_P D vwCl [(aG, .inr (0, [.ref aSg, .int len])), (aSg, .inl (cI 0, 120, .inl sg)), (azT, .inr (5, [.ref azP, .ref azS, .ref azSe, .int zsto, .int zdro, .int zfou])), (azP, .inr (2, [.ref azLe, .ref azSh, .int ztold, .int zwl, .int zwr])), (azLe, .inl (cI 0, 10, .inl zle)), (azSh, .inl (cI 0, 10, .inl zsh)), (azS, .inr (3, [.ref azTk, .ref azSr, .int zrolls, .int zfrm])), (azTk, .inl (cI 0, 21, .inl ztk)), (azSr, .inl (cI 0, 11, .inl zsr)), (azSe, .inl (cI 0, 3, .inl zse))] H → va_D A [(aG, .inr (0, [.ref aSg, .int len])), (aSg, .inl (cI 0, 120, .inl sg)), (azT, .inr (5, [.ref azP, .ref azS, .ref azSe, .int zsto, .int zdro, .int zfou])), (azP, .inr (2, [.ref azLe, .ref azSh, .int ztold, .int zwl, .int zwr])), (azLe, .inl (cI 0, 10, .inl zle)), (azSh, .inl (cI 0, 10, .inl zsh)), (azS, .inr (3, [.ref azTk, .ref azSr, .int zrolls, .int zfrm])), (azTk, .inl (cI 0, 21, .inl ztk)), (azSr, .inl (cI 0, 11, .inl zsr)), (azSe, .inl (cI 0, 3, .inl zse))] → va_S A s.heap H locs → lv_has ls 8 [(0, .ref aG), (1, .ref azT), (2, .int x2), (3, .int x3), (4, .int x4), (5, .int x5), (6, .int x6), (7, .int x7)] → W p l e { frames := 5, cells := 0, slots := 0, locals := 125 } s m args below meth c H locs 0 0 Q (F0 m 58 ls []) := by
    intro q4 i4
    intro H locs ls zsto zdro zfou ztold zwl zwr zle zsh zrolls zfrm ztk zsr x2 x3 x4 x5 x6 x7
    intro hq hP hD hS hl
    refine lv_aload_n hx hb dX0_playOn_58 rfl (lv_at hl 1 rfl) ?_
    refine lv_iload hx hb dX0_playOn_59 (lv_at hl 4 rfl) ?_
    refine lv_iload hx hb dX0_playOn_61 (lv_at hl 5 rfl) ?_
    refine lv_iload hx hb dX0_playOn_63 (lv_at hl 6 rfl) ?_
    refine lv_iload hx hb dX0_playOn_65 (lv_at hl 7 rfl) ?_
    obtain ⟨o67, ho67, hq⟩ := kbind hq
    refine kc_Vi (av := [.int x4, .int x5, .int x6, .int x7]) (rest := []) hF hK hG hA (mk_X6_tryRoll l D cI azT azP azS azSe azLe azSh azTk azSr H.size zsto zdro zfou ztold zwl zwr zle zsh zrolls zfrm ztk zsr zse x4 x5 x6 x7 o67 ho67) (cwV 4 hts gX0_playOn_X6_tryRoll rfl rfl rfl (by decide +kernel) ⟨Nat.le_of_ble_eq_true rfl, Nat.le_of_ble_eq_true rfl⟩) hP hD hS [2, 3, 4, 5, 6, 7, 8, 9] (by decide) rfl rfl 0 rfl rfl rfl hl.1 rfl (Nat.le_of_ble_eq_true rfl) ⟨Nat.zero_le _, Nat.zero_le _⟩ dX0_playOn_67 (fun H locs hP hD hS => ?_)
    have hP : va_P D vwCl [(aG, .inr (0, [.ref aSg, .int len])), (aSg, .inl (cI 0, 120, .inl sg)), (azT, .inr (5, [.ref azP, .ref azS, .ref azSe, .int o67.2.1, .int o67.2.2.1, .int o67.2.2.2.1])), (azP, .inr (2, [.ref azLe, .ref azSh, .int o67.2.2.2.2.1, .int o67.2.2.2.2.2.1, .int o67.2.2.2.2.2.2.1])), (azLe, .inl (cI 0, 10, .inl o67.2.2.2.2.2.2.2.1)), (azSh, .inl (cI 0, 10, .inl o67.2.2.2.2.2.2.2.2.1)), (azS, .inr (3, [.ref azTk, .ref azSr, .int o67.2.2.2.2.2.2.2.2.2.1, .int o67.2.2.2.2.2.2.2.2.2.2.1])), (azTk, .inl (cI 0, 21, .inl o67.2.2.2.2.2.2.2.2.2.2.2.1)), (azSr, .inl (cI 0, 11, .inl o67.2.2.2.2.2.2.2.2.2.2.2.2)), (azSe, .inl (cI 0, 3, .inl zse))] H := hP
    have hD : va_D A [(aG, .inr (0, [.ref aSg, .int len])), (aSg, .inl (cI 0, 120, .inl sg)), (azT, .inr (5, [.ref azP, .ref azS, .ref azSe, .int o67.2.1, .int o67.2.2.1, .int o67.2.2.2.1])), (azP, .inr (2, [.ref azLe, .ref azSh, .int o67.2.2.2.2.1, .int o67.2.2.2.2.2.1, .int o67.2.2.2.2.2.2.1])), (azLe, .inl (cI 0, 10, .inl o67.2.2.2.2.2.2.2.1)), (azSh, .inl (cI 0, 10, .inl o67.2.2.2.2.2.2.2.2.1)), (azS, .inr (3, [.ref azTk, .ref azSr, .int o67.2.2.2.2.2.2.2.2.2.1, .int o67.2.2.2.2.2.2.2.2.2.2.1])), (azTk, .inl (cI 0, 21, .inl o67.2.2.2.2.2.2.2.2.2.2.2.1)), (azSr, .inl (cI 0, 11, .inl o67.2.2.2.2.2.2.2.2.2.2.2.2)), (azSe, .inl (cI 0, 3, .inl zse))] := hD
    refine lv_if_ne (tgt := 76) hx hb dX0_playOn_70 (by decide) (fun c9 => ?_) (fun c9 => ?_)
    · have hq := kite_f c9 hq
      exact b_76 q4 i4 _ _ _ o67.2.1 o67.2.2.1 o67.2.2.2.1 o67.2.2.2.2.1 o67.2.2.2.2.2.1 o67.2.2.2.2.2.2.1 o67.2.2.2.2.2.2.2.1 o67.2.2.2.2.2.2.2.2.1 o67.2.2.2.2.2.2.2.2.2.1 o67.2.2.2.2.2.2.2.2.2.2.1 o67.2.2.2.2.2.2.2.2.2.2.2.1 o67.2.2.2.2.2.2.2.2.2.2.2.2 x2 x3 hq hP hD hS (lv_sub hl [0, 1, 2, 3] rfl)
    · have hq := kite_t c9 hq
      refine lv_iinc (v := (x2 + 1)) (lv' := [(2, .int (x2 + 1)), (0, .ref aG), (1, .ref azT), (3, .int x3), (4, .int x4), (5, .int x5), (6, .int x6), (7, .int x7)]) hx hb dX0_playOn_73 hl (k := 2) rfl rfl (by decide) rfl (fun ls hl => ?_)
      exact b_76 q4 i4 _ _ _ o67.2.1 o67.2.2.1 o67.2.2.2.1 o67.2.2.2.2.1 o67.2.2.2.2.2.1 o67.2.2.2.2.2.2.1 o67.2.2.2.2.2.2.2.1 o67.2.2.2.2.2.2.2.2.1 o67.2.2.2.2.2.2.2.2.2.1 o67.2.2.2.2.2.2.2.2.2.2.1 o67.2.2.2.2.2.2.2.2.2.2.2.1 o67.2.2.2.2.2.2.2.2.2.2.2.2 (x2 + 1) x3 hq hP hD hS (lv_sub hl [1, 2, 0, 3] rfl)
  have b_4 : ∀ (q : Nat), ∀ (H : Heap) (locs : List Loc) (ls : Array Slot) (zsto : Int32) (zdro : Int32) (zfou : Int32) (ztold : Int32) (zwl : Int32) (zwr : Int32) (zle : kF) (zsh : kF) (zrolls : Int32) (zfrm : Int32) (ztk : kF) (zsr : kF) (x2 : Int32) (x3 : Int32), fn_X0_playOn_4 q len sg zsto zdro zfou ztold zwl zwr zle zsh zrolls zfrm ztk zsr zse x2 x3 = some o → va_P D vwCl [(aG, .inr (0, [.ref aSg, .int len])), (aSg, .inl (cI 0, 120, .inl sg)), (azT, .inr (5, [.ref azP, .ref azS, .ref azSe, .int zsto, .int zdro, .int zfou])), (azP, .inr (2, [.ref azLe, .ref azSh, .int ztold, .int zwl, .int zwr])), (azLe, .inl (cI 0, 10, .inl zle)), (azSh, .inl (cI 0, 10, .inl zsh)), (azS, .inr (3, [.ref azTk, .ref azSr, .int zrolls, .int zfrm])), (azTk, .inl (cI 0, 21, .inl ztk)), (azSr, .inl (cI 0, 11, .inl zsr)), (azSe, .inl (cI 0, 3, .inl zse))] H → va_D A [(aG, .inr (0, [.ref aSg, .int len])), (aSg, .inl (cI 0, 120, .inl sg)), (azT, .inr (5, [.ref azP, .ref azS, .ref azSe, .int zsto, .int zdro, .int zfou])), (azP, .inr (2, [.ref azLe, .ref azSh, .int ztold, .int zwl, .int zwr])), (azLe, .inl (cI 0, 10, .inl zle)), (azSh, .inl (cI 0, 10, .inl zsh)), (azS, .inr (3, [.ref azTk, .ref azSr, .int zrolls, .int zfrm])), (azTk, .inl (cI 0, 21, .inl ztk)), (azSr, .inl (cI 0, 11, .inl zsr)), (azSe, .inl (cI 0, 3, .inl zse))] → va_S A s.heap H locs → lv_has ls 8 [(0, .ref aG), (1, .ref azT), (2, .int x2), (3, .int x3)] → W p l e { frames := 5, cells := 0, slots := 0, locals := 125 } s m args below meth c H locs 0 0 Q (F0 m 4 ls []) := by
    intro q
    induction q with
    | zero =>
      intro H locs ls zsto zdro zfou ztold zwl zwr zle zsh zrolls zfrm ztk zsr x2 x3
      intro hq
      cases hq
    | succ q ih =>
      intro H locs ls zsto zdro zfou ztold zwl zwr zle zsh zrolls zfrm ztk zsr x2 x3
      intro hq hP hD hS hl
      refine lv_iload_n hx hb dX0_playOn_4 rfl (lv_at hl 3 rfl) ?_
      refine lv_aload_n hx hb dX0_playOn_5 rfl (lv_at hl 0 rfl) ?_
      refine va_get (D := D) (ci := 0) (v := .int len) (C := RX0) (T := TX0) (N := 2) hx hb hts iw_X0_playOn_X0 hown hK.1 hP 0 rfl rfl 1 (by decide) (hts (.fieldLink RX0 15 "PinDeck$GameText" "length" "I") (by decide +kernel)) (fun _ h9 => h9) rfl dX0_playOn_6 ?_
      refine lv_icmp_ge (tgt := 79) hx hb dX0_playOn_9 (by decide) (fun c9 => ?_) (fun c9 => ?_)
      · have hq := kite_t c9 hq
        refine lv_iload_n hx hb dX0_playOn_79 rfl (lv_at hl 2 rfl) ?_
        have ho := Option.some.inj hq
        subst ho
        exact hend _ _ _ _ hP hS dX0_playOn_80
      · have hq := kite_f c9 hq
        refine lv_aload_n hx hb dX0_playOn_12 rfl (lv_at hl 0 rfl) ?_
        refine lv_iload_n hx hb dX0_playOn_13 rfl (lv_at hl 3 rfl) ?_
        obtain ⟨o14, ho14, hq⟩ := kbind hq
        refine kc_Vi (av := [.int x3]) (rest := []) hF hK hG hA (mk_X0_numberAt l D cI aG aSg H.size len sg x3 o14 ho14) (cwV 1 hts gX0_playOn_X0_numberAt rfl rfl rfl (by decide +kernel) ⟨Nat.le_of_ble_eq_true rfl, Nat.le_of_ble_eq_true rfl⟩) hP hD hS [0, 1] (by decide) rfl rfl 0 rfl rfl rfl hl.1 rfl (Nat.le_of_ble_eq_true rfl) ⟨Nat.zero_le _, Nat.zero_le _⟩ dX0_playOn_14 (fun H locs hP hD hS => ?_)
        have hP : va_P D vwCl [(aG, .inr (0, [.ref aSg, .int len])), (aSg, .inl (cI 0, 120, .inl sg)), (azT, .inr (5, [.ref azP, .ref azS, .ref azSe, .int zsto, .int zdro, .int zfou])), (azP, .inr (2, [.ref azLe, .ref azSh, .int ztold, .int zwl, .int zwr])), (azLe, .inl (cI 0, 10, .inl zle)), (azSh, .inl (cI 0, 10, .inl zsh)), (azS, .inr (3, [.ref azTk, .ref azSr, .int zrolls, .int zfrm])), (azTk, .inl (cI 0, 21, .inl ztk)), (azSr, .inl (cI 0, 11, .inl zsr)), (azSe, .inl (cI 0, 3, .inl zse))] H := hP
        have hD : va_D A [(aG, .inr (0, [.ref aSg, .int len])), (aSg, .inl (cI 0, 120, .inl sg)), (azT, .inr (5, [.ref azP, .ref azS, .ref azSe, .int zsto, .int zdro, .int zfou])), (azP, .inr (2, [.ref azLe, .ref azSh, .int ztold, .int zwl, .int zwr])), (azLe, .inl (cI 0, 10, .inl zle)), (azSh, .inl (cI 0, 10, .inl zsh)), (azS, .inr (3, [.ref azTk, .ref azSr, .int zrolls, .int zfrm])), (azTk, .inl (cI 0, 21, .inl ztk)), (azSr, .inl (cI 0, 11, .inl zsr)), (azSe, .inl (cI 0, 3, .inl zse))] := hD
        refine lv_istore (lv' := [(4, .int o14), (0, .ref aG), (1, .ref azT), (2, .int x2), (3, .int x3)]) hx hb dX0_playOn_17 hl (by decide) rfl (fun ls hl => ?_)
        refine lv_aload_n hx hb dX0_playOn_19 rfl (lv_at hl 1 rfl) ?_
        refine lv_iload_n hx hb dX0_playOn_20 rfl (lv_at hl 4 rfl) ?_
        refine lv_iconst (v := 2) hx hb dX0_playOn_21 (by decide) ?_
        refine lv_iadd hx hb dX0_playOn_22 ?_
        obtain ⟨o23, ho23, hq⟩ := kbind hq
        refine kc_Vi (av := [.int (x3 + (2 : Int32))]) (rest := []) hF hK hG hA (mk_X0_signAt l D cI aG aSg H.size len sg (x3 + (2 : Int32)) o23 ho23) (cwV 1 hts gX0_playOn_X0_signAt rfl rfl rfl (by decide +kernel) ⟨Nat.le_of_ble_eq_true rfl, Nat.le_of_ble_eq_true rfl⟩) hP hD hS [0, 1] (by decide) rfl rfl 0 rfl rfl rfl hl.1 rfl (Nat.le_of_ble_eq_true rfl) ⟨Nat.zero_le _, Nat.zero_le _⟩ dX0_playOn_23 (fun H locs hP hD hS => ?_)
        have hP : va_P D vwCl [(aG, .inr (0, [.ref aSg, .int len])), (aSg, .inl (cI 0, 120, .inl sg)), (azT, .inr (5, [.ref azP, .ref azS, .ref azSe, .int zsto, .int zdro, .int zfou])), (azP, .inr (2, [.ref azLe, .ref azSh, .int ztold, .int zwl, .int zwr])), (azLe, .inl (cI 0, 10, .inl zle)), (azSh, .inl (cI 0, 10, .inl zsh)), (azS, .inr (3, [.ref azTk, .ref azSr, .int zrolls, .int zfrm])), (azTk, .inl (cI 0, 21, .inl ztk)), (azSr, .inl (cI 0, 11, .inl zsr)), (azSe, .inl (cI 0, 3, .inl zse))] H := hP
        have hD : va_D A [(aG, .inr (0, [.ref aSg, .int len])), (aSg, .inl (cI 0, 120, .inl sg)), (azT, .inr (5, [.ref azP, .ref azS, .ref azSe, .int zsto, .int zdro, .int zfou])), (azP, .inr (2, [.ref azLe, .ref azSh, .int ztold, .int zwl, .int zwr])), (azLe, .inl (cI 0, 10, .inl zle)), (azSh, .inl (cI 0, 10, .inl zsh)), (azS, .inr (3, [.ref azTk, .ref azSr, .int zrolls, .int zfrm])), (azTk, .inl (cI 0, 21, .inl ztk)), (azSr, .inl (cI 0, 11, .inl zsr)), (azSe, .inl (cI 0, 3, .inl zse))] := hD
        obtain ⟨o26, ho26, hq⟩ := kbind hq
        refine kc_Si (av := [.int o23]) (rest := []) hF hK hG hA (mk_X0_driftOf l D cI H.size o23 o26 ho26) (va_cwS 1 hts gX0_playOn_X0_driftOf rfl rfl rfl (by decide +kernel) ⟨Nat.le_of_ble_eq_true rfl, Nat.le_of_ble_eq_true rfl⟩) hP hD hS [] (by decide) rfl rfl rfl hl.1 rfl (Nat.le_of_ble_eq_true rfl) ⟨Nat.zero_le _, Nat.zero_le _⟩ dX0_playOn_26 (fun H locs hP hD hS => ?_)
        have hP : va_P D vwCl [(aG, .inr (0, [.ref aSg, .int len])), (aSg, .inl (cI 0, 120, .inl sg)), (azT, .inr (5, [.ref azP, .ref azS, .ref azSe, .int zsto, .int zdro, .int zfou])), (azP, .inr (2, [.ref azLe, .ref azSh, .int ztold, .int zwl, .int zwr])), (azLe, .inl (cI 0, 10, .inl zle)), (azSh, .inl (cI 0, 10, .inl zsh)), (azS, .inr (3, [.ref azTk, .ref azSr, .int zrolls, .int zfrm])), (azTk, .inl (cI 0, 21, .inl ztk)), (azSr, .inl (cI 0, 11, .inl zsr)), (azSe, .inl (cI 0, 3, .inl zse))] H := hP
        have hD : va_D A [(aG, .inr (0, [.ref aSg, .int len])), (aSg, .inl (cI 0, 120, .inl sg)), (azT, .inr (5, [.ref azP, .ref azS, .ref azSe, .int zsto, .int zdro, .int zfou])), (azP, .inr (2, [.ref azLe, .ref azSh, .int ztold, .int zwl, .int zwr])), (azLe, .inl (cI 0, 10, .inl zle)), (azSh, .inl (cI 0, 10, .inl zsh)), (azS, .inr (3, [.ref azTk, .ref azSr, .int zrolls, .int zfrm])), (azTk, .inl (cI 0, 21, .inl ztk)), (azSr, .inl (cI 0, 11, .inl zsr)), (azSe, .inl (cI 0, 3, .inl zse))] := hD
        refine lv_istore (lv' := [(5, .int o26), (4, .int o14), (0, .ref aG), (1, .ref azT), (2, .int x2), (3, .int x3)]) hx hb dX0_playOn_29 hl (by decide) rfl (fun ls hl => ?_)
        refine lv_aload_n hx hb dX0_playOn_31 rfl (lv_at hl 2 rfl) ?_
        refine lv_iload_n hx hb dX0_playOn_32 rfl (lv_at hl 5 rfl) ?_
        refine lv_iconst (v := 3) hx hb dX0_playOn_33 (by decide) ?_
        refine lv_iadd hx hb dX0_playOn_34 ?_
        obtain ⟨o35, ho35, hq⟩ := kbind hq
        refine kc_Vi (av := [.int (x3 + (3 : Int32))]) (rest := []) hF hK hG hA (mk_X0_numberAt l D cI aG aSg H.size len sg (x3 + (3 : Int32)) o35 ho35) (cwV 1 hts gX0_playOn_X0_numberAt rfl rfl rfl (by decide +kernel) ⟨Nat.le_of_ble_eq_true rfl, Nat.le_of_ble_eq_true rfl⟩) hP hD hS [0, 1] (by decide) rfl rfl 0 rfl rfl rfl hl.1 rfl (Nat.le_of_ble_eq_true rfl) ⟨Nat.zero_le _, Nat.zero_le _⟩ dX0_playOn_35 (fun H locs hP hD hS => ?_)
        have hP : va_P D vwCl [(aG, .inr (0, [.ref aSg, .int len])), (aSg, .inl (cI 0, 120, .inl sg)), (azT, .inr (5, [.ref azP, .ref azS, .ref azSe, .int zsto, .int zdro, .int zfou])), (azP, .inr (2, [.ref azLe, .ref azSh, .int ztold, .int zwl, .int zwr])), (azLe, .inl (cI 0, 10, .inl zle)), (azSh, .inl (cI 0, 10, .inl zsh)), (azS, .inr (3, [.ref azTk, .ref azSr, .int zrolls, .int zfrm])), (azTk, .inl (cI 0, 21, .inl ztk)), (azSr, .inl (cI 0, 11, .inl zsr)), (azSe, .inl (cI 0, 3, .inl zse))] H := hP
        have hD : va_D A [(aG, .inr (0, [.ref aSg, .int len])), (aSg, .inl (cI 0, 120, .inl sg)), (azT, .inr (5, [.ref azP, .ref azS, .ref azSe, .int zsto, .int zdro, .int zfou])), (azP, .inr (2, [.ref azLe, .ref azSh, .int ztold, .int zwl, .int zwr])), (azLe, .inl (cI 0, 10, .inl zle)), (azSh, .inl (cI 0, 10, .inl zsh)), (azS, .inr (3, [.ref azTk, .ref azSr, .int zrolls, .int zfrm])), (azTk, .inl (cI 0, 21, .inl ztk)), (azSr, .inl (cI 0, 11, .inl zsr)), (azSe, .inl (cI 0, 3, .inl zse))] := hD
        refine lv_istore (lv' := [(6, .int o35), (5, .int o26), (4, .int o14), (0, .ref aG), (1, .ref azT), (2, .int x2), (3, .int x3)]) hx hb dX0_playOn_38 hl (by decide) rfl (fun ls hl => ?_)
        refine lv_iinc (v := (x3 + 5)) (lv' := [(3, .int (x3 + 5)), (6, .int o35), (5, .int o26), (4, .int o14), (0, .ref aG), (1, .ref azT), (2, .int x2)]) hx hb dX0_playOn_40 hl (k := 6) rfl rfl (by decide) rfl (fun ls hl => ?_)
        refine lv_aload_n hx hb dX0_playOn_43 rfl (lv_at hl 4 rfl) ?_
        refine lv_iload_n hx hb dX0_playOn_44 rfl (lv_at hl 0 rfl) ?_
        obtain ⟨o45, ho45, hq⟩ := kbind hq
        refine kc_Vi (av := [.int (x3 + 5)]) (rest := []) hF hK hG hA (mk_X0_isFoulAt l D cI aG aSg H.size len sg (x3 + 5) o45 ho45) (cwV 1 hts gX0_playOn_X0_isFoulAt rfl rfl rfl (by decide +kernel) ⟨Nat.le_of_ble_eq_true rfl, Nat.le_of_ble_eq_true rfl⟩) hP hD hS [0, 1] (by decide) rfl rfl 0 rfl rfl rfl hl.1 rfl (Nat.le_of_ble_eq_true rfl) ⟨Nat.zero_le _, Nat.zero_le _⟩ dX0_playOn_45 (fun H locs hP hD hS => ?_)
        have hP : va_P D vwCl [(aG, .inr (0, [.ref aSg, .int len])), (aSg, .inl (cI 0, 120, .inl sg)), (azT, .inr (5, [.ref azP, .ref azS, .ref azSe, .int zsto, .int zdro, .int zfou])), (azP, .inr (2, [.ref azLe, .ref azSh, .int ztold, .int zwl, .int zwr])), (azLe, .inl (cI 0, 10, .inl zle)), (azSh, .inl (cI 0, 10, .inl zsh)), (azS, .inr (3, [.ref azTk, .ref azSr, .int zrolls, .int zfrm])), (azTk, .inl (cI 0, 21, .inl ztk)), (azSr, .inl (cI 0, 11, .inl zsr)), (azSe, .inl (cI 0, 3, .inl zse))] H := hP
        have hD : va_D A [(aG, .inr (0, [.ref aSg, .int len])), (aSg, .inl (cI 0, 120, .inl sg)), (azT, .inr (5, [.ref azP, .ref azS, .ref azSe, .int zsto, .int zdro, .int zfou])), (azP, .inr (2, [.ref azLe, .ref azSh, .int ztold, .int zwl, .int zwr])), (azLe, .inl (cI 0, 10, .inl zle)), (azSh, .inl (cI 0, 10, .inl zsh)), (azS, .inr (3, [.ref azTk, .ref azSr, .int zrolls, .int zfrm])), (azTk, .inl (cI 0, 21, .inl ztk)), (azSr, .inl (cI 0, 11, .inl zsr)), (azSe, .inl (cI 0, 3, .inl zse))] := hD
        refine lv_istore (lv' := [(7, .int o45), (3, .int (x3 + 5)), (6, .int o35), (5, .int o26), (4, .int o14), (0, .ref aG), (1, .ref azT), (2, .int x2)]) hx hb dX0_playOn_48 hl (by decide) rfl (fun ls hl => ?_)
        refine lv_iload hx hb dX0_playOn_50 (lv_at hl 0 rfl) ?_
        refine lv_if_eq (tgt := 58) hx hb dX0_playOn_52 (by decide) (fun c9 => ?_) (fun c9 => ?_)
        · have hq := kite_t c9 hq
          exact b_58 (fn_X0_playOn_4 q) ih _ _ _ zsto zdro zfou ztold zwl zwr zle zsh zrolls zfrm ztk zsr x2 (x3 + 5) o14 o26 o35 o45 hq hP hD hS (lv_sub hl [5, 6, 7, 1, 4, 3, 2, 0] rfl)
        · have hq := kite_f c9 hq
          refine lv_iinc (v := ((x3 + 5) + 1)) (lv' := [(3, .int ((x3 + 5) + 1)), (7, .int o45), (6, .int o35), (5, .int o26), (4, .int o14), (0, .ref aG), (1, .ref azT), (2, .int x2)]) hx hb dX0_playOn_55 hl (k := 1) rfl rfl (by decide) rfl (fun ls hl => ?_)
          exact b_58 (fn_X0_playOn_4 q) ih _ _ _ zsto zdro zfou ztold zwl zwr zle zsh zrolls zfrm ztk zsr x2 ((x3 + 5) + 1) o14 o26 o35 o45 hq hP hD hS (lv_sub hl [5, 6, 7, 0, 4, 3, 2, 1] rfl)
  refine lv_iconst (v := 0) hx hb dX0_playOn_0 (by decide) ?_
  refine lv_istore_n (lv' := [(2, .int (0 : Int32)), (0, .ref aG), (1, .ref azT)]) hx hb dX0_playOn_1 rfl hl (by decide) rfl (fun ls hl => ?_)
  refine lv_iconst (v := 1) hx hb dX0_playOn_2 (by decide) ?_
  refine lv_istore_n (lv' := [(3, .int (1 : Int32)), (2, .int (0 : Int32)), (0, .ref aG), (1, .ref azT)]) hx hb dX0_playOn_3 rfl hl (by decide) rfl (fun ls hl => ?_)
  exact b_4 4096 _ _ _ zsto zdro zfou ztold zwl zwr zle zsh zrolls zfrm ztk zsr (0 : Int32) (1 : Int32) hq hP hD hS (lv_sub hl [2, 3, 1, 0] rfl)
