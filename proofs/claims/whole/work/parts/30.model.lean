/-! the reference -/
theorem iw_X8_thrown_X8 : ∀ w ∈ wsX80, w ∈ wsX8_thrown := by decide +kernel
set_option maxHeartbeats 4000000 in
set_option maxRecDepth 100000 in
theorem mk_X8_thrown (l : Launch) (D : va_G) (cI : Nat → ClassId) (aM aMtext aMnow aMtrial aMdiary aMkept aMisKept aMside aMwas : Nat) (sz : Nat) (mref : Int32) (msize : Int32) (macts : Int32) (mspot : Int32) (mout : Int32) (o : Int32) (hq : fn_X8_thrown mref = some o) : Met l yX8_thrown wsX8_thrown ({ frames := 0, cells := 0, slots := 0, locals := 0 }) (kPc D cI [(aM, .inr (7, [.int mref, .ref aMtext, .int msize, .ref aMnow, .ref aMtrial, .ref aMdiary, .int macts, .ref aMkept, .ref aMisKept, .ref aMside, .ref aMwas, .int mspot, .int mout]))] sz [.ref aM]) (kQi D [(aM, .inr (7, [.int mref, .ref aMtext, .int msize, .ref aMnow, .ref aMtrial, .ref aMdiary, .int macts, .ref aMkept, .ref aMisKept, .ref aMside, .ref aMwas, .int mspot, .int mout]))] [(aM, .inr (7, [.int mref, .ref aMtext, .int msize, .ref aMnow, .ref aMtrial, .ref aMdiary, .int macts, .ref aMkept, .ref aMisKept, .ref aMside, .ref aMwas, .int mspot, .int mout]))] sz o) 0 0 (va_A [(aM, .inr (7, [.int mref, .ref aMtext, .int msize, .ref aMnow, .ref aMtrial, .ref aMdiary, .int macts, .ref aMkept, .ref aMisKept, .ref aMside, .ref aMwas, .int mspot, .int mout]))] sz) := by
  refine kM_i (cc := cX8_thrown) (maxL := 1) (by decide +kernel) rfl (Nat.le_of_ble_eq_true rfl) ?_
  intro p e s m args below meth c A Q hF hK hG hD hA hend ls hP hS hl
  obtain ⟨hx, hb, hml, hown, hts⟩ := id hF
  have hl : lv_has ls 1 [(0, .ref aM)] := hl
  refine lv_aload_n hx hb dX8_thrown_0 rfl (lv_at hl 0 rfl) ?_
  refine va_get (D := D) (ci := 7) (v := .int mref) (C := RX8) (T := TX8) (N := 13) hx hb hts iw_X8_thrown_X8 hown hK.1 hP 0 rfl rfl 0 (by decide) (hts (.fieldLink RX8 39 "PinDeckModel" "refusal" "I") (by decide +kernel)) (fun _ h9 => h9) rfl dX8_thrown_1 ?_
  have ho := Option.some.inj hq
  subst ho
  exact hend _ _ _ _ hP hS dX8_thrown_4

theorem iw_X8_refused_X8 : ∀ w ∈ wsX80, w ∈ wsX8_refused := by decide +kernel
set_option maxHeartbeats 4000000 in
set_option maxRecDepth 100000 in
theorem mk_X8_refused (l : Launch) (D : va_G) (cI : Nat → ClassId) (aM aMtext aMnow aMtrial aMdiary aMkept aMisKept aMside aMwas : Nat) (sz : Nat) (mref : Int32) (msize : Int32) (macts : Int32) (mspot : Int32) (mout : Int32) (x1 : Int32) (o : Int32 × Int32) (hq : fn_X8_refused mref x1 = some o) : Met l yX8_refused wsX8_refused ({ frames := 0, cells := 0, slots := 0, locals := 0 }) (kPc D cI [(aM, .inr (7, [.int mref, .ref aMtext, .int msize, .ref aMnow, .ref aMtrial, .ref aMdiary, .int macts, .ref aMkept, .ref aMisKept, .ref aMside, .ref aMwas, .int mspot, .int mout]))] sz [.ref aM, .int x1]) (kQi D [(aM, .inr (7, [.int mref, .ref aMtext, .int msize, .ref aMnow, .ref aMtrial, .ref aMdiary, .int macts, .ref aMkept, .ref aMisKept, .ref aMside, .ref aMwas, .int mspot, .int mout]))] [(aM, .inr (7, [.int o.2, .ref aMtext, .int msize, .ref aMnow, .ref aMtrial, .ref aMdiary, .int macts, .ref aMkept, .ref aMisKept, .ref aMside, .ref aMwas, .int mspot, .int mout]))] sz o.1) 0 0 (va_A [(aM, .inr (7, [.int mref, .ref aMtext, .int msize, .ref aMnow, .ref aMtrial, .ref aMdiary, .int macts, .ref aMkept, .ref aMisKept, .ref aMside, .ref aMwas, .int mspot, .int mout]))] sz) := by
  refine kM_z (cc := cX8_refused) (maxL := 2) (by decide +kernel) rfl (Nat.le_of_ble_eq_true rfl) ?_
  intro p e s m args below meth c A Q hF hK hG hD hA hend ls hP hS hl
  obtain ⟨hx, hb, hml, hown, hts⟩ := id hF
  have hl : lv_has ls 2 [(0, .ref aM), (1, .int x1)] := hl
  have b_14 : ∀ (H : Heap) (locs : List Loc) (ls : Array Slot) (mref : Int32) (k0 : Int32), fn_X8_refused_14 mref k0 = some o → va_P D vwCl [(aM, .inr (7, [.int mref, .ref aMtext, .int msize, .ref aMnow, .ref aMtrial, .ref aMdiary, .int macts, .ref aMkept, .ref aMisKept, .ref aMside, .ref aMwas, .int mspot, .int mout]))] H → va_D A [(aM, .inr (7, [.int mref, .ref aMtext, .int msize, .ref aMnow, .ref aMtrial, .ref aMdiary, .int macts, .ref aMkept, .ref aMisKept, .ref aMside, .ref aMwas, .int mspot, .int mout]))] → va_S A s.heap H locs → lv_has ls 2 [] → W p l e { frames := 0, cells := 0, slots := 0, locals := 0 } s m args below meth c H locs 0 0 Q (F0 m 14 ls [.int k0]) := by
    intro H locs ls mref k0
    intro hq hP hD hS hl
    obtain ⟨hz, hq⟩ := kite_b hq
    have ho := Option.some.inj hq
    subst ho
    exact hend _ _ _ _ hz hP hS dX8_refused_14
  refine lv_aload_n hx hb dX8_refused_0 rfl (lv_at hl 0 rfl) ?_
  refine lv_iload_n hx hb dX8_refused_1 rfl (lv_at hl 1 rfl) ?_
  refine va_put (D := D) (ci := 7) (v := .int x1) (ty := .int) (C := RX8) (T := TX8) (N := 13) hx hb hts iw_X8_refused_X8 tyX8 tyX8_ok nmX8 hown hK.1 hP hD hS 0 rfl rfl 0 (by decide) (hts (.fieldLink RX8 39 "PinDeckModel" "refusal" "I") (by decide +kernel)) (fun _ h9 => h9) rfl (by decide +kernel) rfl rfl (Nat.le_of_ble_eq_true rfl) dX8_refused_2 (fun H locs hP hD hS => ?_)
  have hP : va_P D vwCl [(aM, .inr (7, [.int x1, .ref aMtext, .int msize, .ref aMnow, .ref aMtrial, .ref aMdiary, .int macts, .ref aMkept, .ref aMisKept, .ref aMside, .ref aMwas, .int mspot, .int mout]))] H := hP
  have hD : va_D A [(aM, .inr (7, [.int x1, .ref aMtext, .int msize, .ref aMnow, .ref aMtrial, .ref aMdiary, .int macts, .ref aMkept, .ref aMisKept, .ref aMside, .ref aMwas, .int mspot, .int mout]))] := hD
  refine lv_iload_n hx hb dX8_refused_5 rfl (lv_at hl 1 rfl) ?_
  refine lv_if_le (tgt := 13) hx hb dX8_refused_6 (by decide) (fun c9 => ?_) (fun c9 => ?_)
  · have hq := kite_t c9 hq
    refine lv_iconst (v := 0) hx hb dX8_refused_13 (by decide) ?_
    exact b_14  _ _ _ x1 (0 : Int32) hq hP hD hS (lv_sub hl [] rfl)
  · have hq := kite_f c9 hq
    refine lv_iconst (v := 1) hx hb dX8_refused_9 (by decide) ?_
    refine lv_goto (tgt := 14) hx hb dX8_refused_10 (by decide) ?_
    exact b_14  _ _ _ x1 (1 : Int32) hq hP hD hS (lv_sub hl [] rfl)

set_option maxHeartbeats 4000000 in
set_option maxRecDepth 100000 in
theorem mk_X8_in (l : Launch) (D : va_G) (cI : Nat → ClassId) (sz : Nat) (x0 : Int64) (x2 : Int64) (x4 : Int64) (o : Int32) (hq : fn_X8_in x0 x2 x4 = some o) : Met l yX8_in wsX8_in ({ frames := 0, cells := 0, slots := 0, locals := 0 }) (kPc D cI [] sz [.long x0, .long x2, .long x4]) (kQi D [] [] sz o) 0 0 (va_A [] sz) := by
  refine kM_z (cc := cX8_in) (maxL := 6) (by decide +kernel) rfl (Nat.le_of_ble_eq_true rfl) ?_
  intro p e s m args below meth c A Q hF hK hG hD hA hend ls hP hS hl
  obtain ⟨hx, hb, hml, hown, hts⟩ := id hF
  have hl : lv_has ls 6 [(0, .long x0), (2, .long x2), (4, .long x4)] := hl
  have b_18 : ∀ (H : Heap) (locs : List Loc) (ls : Array Slot) (k0 : Int32), fn_X8_in_18 k0 = some o → va_P D vwCl [] H → va_S A s.heap H locs → lv_has ls 6 [] → W p l e { frames := 0, cells := 0, slots := 0, locals := 0 } s m args below meth c H locs 0 0 Q (F0 m 18 ls [.int k0]) := by
    intro H locs ls k0
    intro hq hP hS hl
    obtain ⟨hz, hq⟩ := kite_b hq
    have ho := Option.some.inj hq
    subst ho
    exact hend _ _ _ _ hz hP hS dX8_in_18
  have b_17 : ∀ (H : Heap) (locs : List Loc) (ls : Array Slot), fn_X8_in_17  = some o → va_P D vwCl [] H → va_S A s.heap H locs → lv_has ls 6 [] → W p l e { frames := 0, cells := 0, slots := 0, locals := 0 } s m args below meth c H locs 0 0 Q (F0 m 17 ls []) := by
    intro H locs ls 
    intro hq hP hS hl
    refine lv_iconst (v := 0) hx hb dX8_in_17 (by decide) ?_
    exact b_18  _ _ _ (0 : Int32) hq hP hS (lv_sub hl [] rfl)
  refine lv_lload_n hx hb dX8_in_0 rfl (lv_at hl 0 rfl) ?_
  refine lv_lload_n hx hb dX8_in_1 rfl (lv_at hl 1 rfl) ?_
  refine W.lcmp hx hb dX8_in_2 ?_
  refine lv_if_lt (tgt := 17) hx hb dX8_in_3 (by decide) (fun c9 => ?_) (fun c9 => ?_)
  · have hq := kite_t c9 hq
    exact b_17  _ _ _  hq hP hS (lv_sub hl [] rfl)
  · have hq := kite_f c9 hq
    refine lv_lload_n hx hb dX8_in_6 rfl (lv_at hl 0 rfl) ?_
    refine lv_lload hx hb dX8_in_7 (lv_at hl 2 rfl) ?_
    refine W.lcmp hx hb dX8_in_9 ?_
    refine lv_if_gt (tgt := 17) hx hb dX8_in_10 (by decide) (fun c9 => ?_) (fun c9 => ?_)
    · have hq := kite_t c9 hq
      exact b_17  _ _ _  hq hP hS (lv_sub hl [] rfl)
    · have hq := kite_f c9 hq
      refine lv_iconst (v := 1) hx hb dX8_in_13 (by decide) ?_
      refine lv_goto (tgt := 18) hx hb dX8_in_14 (by decide) ?_
      exact b_18  _ _ _ (1 : Int32) hq hP hS (lv_sub hl [] rfl)

set_option maxHeartbeats 4000000 in
set_option maxRecDepth 100000 in
theorem mk_X8_copyState (l : Launch) (D : va_G) (cI : Nat → ClassId) (nf ng : Nat) (af ag : Nat) (sz : Nat) (f : kF) (g : kF) (x1 : Int32) (x3 : Int32) (o : kF) (hq : fn_X8_copyState nf ng f g x1 x3 = some o) : Met l yX8_copyState wsX8_copyState ({ frames := 0, cells := 0, slots := 0, locals := 0 }) (kPc D cI [(af, .inl (cI 0, nf, .inl f)), (ag, .inl (cI 0, ng, .inl g))] sz [.ref af, .int x1, .ref ag, .int x3]) (kQv D [(af, .inl (cI 0, nf, .inl f)), (ag, .inl (cI 0, ng, .inl g))] [(af, .inl (cI 0, nf, .inl f)), (ag, .inl (cI 0, ng, .inl o))] sz) 0 0 (va_A [(af, .inl (cI 0, nf, .inl f)), (ag, .inl (cI 0, ng, .inl g))] sz) := by
  refine kM_v (cc := cX8_copyState) (maxL := 5) (by decide +kernel) rfl (Nat.le_of_ble_eq_true rfl) ?_
  intro p e s m args below meth c A Q hF hK hG hD hA hend ls hP hS hl
  obtain ⟨hx, hb, hml, hown, hts⟩ := id hF
  have hl : lv_has ls 5 [(0, .ref af), (1, .int x1), (2, .ref ag), (3, .int x3)] := hl
  have b_3 : ∀ (q : Nat), ∀ (H : Heap) (locs : List Loc) (ls : Array Slot) (g : kF) (x1 : Int32) (x3 : Int32) (x4 : Int32), fn_X8_copyState_3 nf ng q f g x1 x3 x4 = some o → va_P D vwCl [(af, .inl (cI 0, nf, .inl f)), (ag, .inl (cI 0, ng, .inl g))] H → va_D A [(af, .inl (cI 0, nf, .inl f)), (ag, .inl (cI 0, ng, .inl g))] → va_S A s.heap H locs → lv_has ls 5 [(0, .ref af), (1, .int x1), (2, .ref ag), (3, .int x3), (4, .int x4)] → W p l e { frames := 0, cells := 0, slots := 0, locals := 0 } s m args below meth c H locs 0 0 Q (F0 m 3 ls []) := by
    intro q
    induction q with
    | zero =>
      intro H locs ls g x1 x3 x4
      intro hq
      cases hq
    | succ q ih =>
      intro H locs ls g x1 x3 x4
      intro hq hP hD hS hl
      refine lv_iload hx hb dX8_copyState_3 (lv_at hl 4 rfl) ?_
      refine lv_bipush (v := 79) hx hb dX8_copyState_5 (by decide) ?_
      refine lv_icmp_ge (tgt := 28) hx hb dX8_copyState_7 (by decide) (fun c9 => ?_) (fun c9 => ?_)
      · have hq := kite_t c9 hq
        have ho := Option.some.inj hq
        subst ho
        exact hend _ _ _ _ hP hS dX8_copyState_28
      · have hq := kite_f c9 hq
        refine lv_aload_n hx hb dX8_copyState_10 rfl (lv_at hl 2 rfl) ?_
        refine lv_iload_n hx hb dX8_copyState_11 rfl (lv_at hl 3 rfl) ?_
        refine lv_iload hx hb dX8_copyState_12 (lv_at hl 4 rfl) ?_
        refine lv_iadd hx hb dX8_copyState_14 ?_
        refine lv_aload_n hx hb dX8_copyState_15 rfl (lv_at hl 0 rfl) ?_
        refine lv_iload_n hx hb dX8_copyState_16 rfl (lv_at hl 1 rfl) ?_
        refine lv_iload hx hb dX8_copyState_17 (lv_at hl 4 rfl) ?_
        refine lv_iadd hx hb dX8_copyState_19 ?_
        obtain ⟨hz, hq⟩ := kite_n hq
        refine k_iald (j := ((x1 + x4).toNatClampNeg)) hx hb hK.1 hP 0 0 rfl rfl hz rfl dX8_copyState_20 ?_
        obtain ⟨hz, hq⟩ := kite_n hq
        refine k_iast (j := ((x3 + x4).toNatClampNeg)) hx hb hK.1 hP hD hS 1 0 rfl rfl hz rfl dX8_copyState_21 (fun H locs hP hD hS => ?_)
        have hP : va_P D vwCl [(af, .inl (cI 0, nf, .inl f)), (ag, .inl (cI 0, ng, .inl (upd g ((x3 + x4).toNatClampNeg) (f ((x1 + x4).toNatClampNeg)))))] H := hP
        have hD : va_D A [(af, .inl (cI 0, nf, .inl f)), (ag, .inl (cI 0, ng, .inl (upd g ((x3 + x4).toNatClampNeg) (f ((x1 + x4).toNatClampNeg)))))] := hD
        refine lv_iinc (v := (x4 + 1)) (lv' := [(4, .int (x4 + 1)), (0, .ref af), (1, .int x1), (2, .ref ag), (3, .int x3)]) hx hb dX8_copyState_22 hl (k := 4) rfl rfl (by decide) rfl (fun ls hl => ?_)
        refine lv_goto (tgt := 3) hx hb dX8_copyState_25 (by decide) ?_
        exact ih _ _ _ (upd g ((x3 + x4).toNatClampNeg) (f ((x1 + x4).toNatClampNeg))) x1 x3 (x4 + 1) hq hP hD hS (lv_sub hl [1, 2, 3, 4, 0] rfl)
  refine lv_iconst (v := 0) hx hb dX8_copyState_0 (by decide) ?_
  refine lv_istore (lv' := [(4, .int (0 : Int32)), (0, .ref af), (1, .int x1), (2, .ref ag), (3, .int x3)]) hx hb dX8_copyState_1 hl (by decide) rfl (fun ls hl => ?_)
  exact b_3 4096 _ _ _ g x1 x3 (0 : Int32) hq hP hD hS (lv_sub hl [1, 2, 3, 4, 0] rfl)

set_option maxHeartbeats 4000000 in
set_option maxRecDepth 100000 in
theorem mk_X8_rack (l : Launch) (D : va_G) (cI : Nat → ClassId) (aR : Nat) (sz : Nat) (r : kF) (o : kF) (hq : fn_X8_rack r = some o) : Met l yX8_rack wsX8_rack ({ frames := 0, cells := 0, slots := 0, locals := 0 }) (kPc D cI [(aR, .inl (cI 0, 79, .inl r))] sz [.ref aR]) (kQv D [(aR, .inl (cI 0, 79, .inl r))] [(aR, .inl (cI 0, 79, .inl o))] sz) 0 0 (va_A [(aR, .inl (cI 0, 79, .inl r))] sz) := by
  refine kM_v (cc := cX8_rack) (maxL := 2) (by decide +kernel) rfl (Nat.le_of_ble_eq_true rfl) ?_
  intro p e s m args below meth c A Q hF hK hG hD hA hend ls hP hS hl
  obtain ⟨hx, hb, hml, hown, hts⟩ := id hF
  have hl : lv_has ls 2 [(0, .ref aR)] := hl
  have b_28 : ∀ (q2 : kF → Int32 → Option (kF)), (∀ (H : Heap) (locs : List Loc) (ls : Array Slot) (r : kF) (x1 : Int32), q2 r x1 = some o → va_P D vwCl [(aR, .inl (cI 0, 79, .inl r))] H → va_D A [(aR, .inl (cI 0, 79, .inl r))] → va_S A s.heap H locs → lv_has ls 2 [(0, .ref aR), (1, .int x1)] → W p l e { frames := 0, cells := 0, slots := 0, locals := 0 } s m args below meth c H locs 0 0 Q (F0 m 2 ls [])) → ∀ (H : Heap) (locs : List Loc) (ls : Array Slot) (r : kF) (x1 : Int32), fn_X8_rack_28 q2 r x1 = some o → va_P D vwCl [(aR, .inl (cI 0, 79, .inl r))] H → va_D A [(aR, .inl (cI 0, 79, .inl r))] → va_S A s.heap H locs → lv_has ls 2 [(0, .ref aR), (1, .int x1)] → W p l e { frames := 0, cells := 0, slots := 0, locals := 0 } s m args below meth c H locs 0 0 Q (F0 m 28 ls []) := by
    intro q2 i2
    intro H locs ls r x1
    intro hq hP hD hS hl
    refine lv_iinc (v := (x1 + 1)) (lv' := [(1, .int (x1 + 1)), (0, .ref aR)]) hx hb dX8_rack_28 hl (k := 1) rfl rfl (by decide) rfl (fun ls hl => ?_)
    refine lv_goto (tgt := 2) hx hb dX8_rack_31 (by decide) ?_
    exact i2 _ _ _ r (x1 + 1) hq hP hD hS (lv_sub hl [1, 0] rfl)
  have b_2 : ∀ (q : Nat), ∀ (H : Heap) (locs : List Loc) (ls : Array Slot) (r : kF) (x1 : Int32), fn_X8_rack_2 q r x1 = some o → va_P D vwCl [(aR, .inl (cI 0, 79, .inl r))] H → va_D A [(aR, .inl (cI 0, 79, .inl r))] → va_S A s.heap H locs → lv_has ls 2 [(0, .ref aR), (1, .int x1)] → W p l e { frames := 0, cells := 0, slots := 0, locals := 0 } s m args below meth c H locs 0 0 Q (F0 m 2 ls []) := by
    intro q
    induction q with
    | zero =>
      intro H locs ls r x1
      intro hq
      cases hq
    | succ q ih =>
      intro H locs ls r x1
      intro hq hP hD hS hl
      refine lv_iload_n hx hb dX8_rack_2 rfl (lv_at hl 1 rfl) ?_
      refine lv_bipush (v := 10) hx hb dX8_rack_3 (by decide) ?_
      refine lv_icmp_ge (tgt := 34) hx hb dX8_rack_5 (by decide) (fun c9 => ?_) (fun c9 => ?_)
      · have hq := kite_t c9 hq
        have ho := Option.some.inj hq
        subst ho
        exact hend _ _ _ _ hP hS dX8_rack_34
      · have hq := kite_f c9 hq
        refine lv_aload_n hx hb dX8_rack_8 rfl (lv_at hl 0 rfl) ?_
        refine lv_iconst (v := 0) hx hb dX8_rack_9 (by decide) ?_
        refine lv_iload_n hx hb dX8_rack_10 rfl (lv_at hl 1 rfl) ?_
        refine lv_iadd hx hb dX8_rack_11 ?_
        refine lv_iconst (v := 0) hx hb dX8_rack_12 (by decide) ?_
        obtain ⟨hz, hq⟩ := kite_n hq
        refine k_iast (j := (((0 : Int32) + x1).toNatClampNeg)) hx hb hK.1 hP hD hS 0 0 rfl rfl hz rfl dX8_rack_13 (fun H locs hP hD hS => ?_)
        have hP : va_P D vwCl [(aR, .inl (cI 0, 79, .inl (upd r (((0 : Int32) + x1).toNatClampNeg) (0 : Int32))))] H := hP
        have hD : va_D A [(aR, .inl (cI 0, 79, .inl (upd r (((0 : Int32) + x1).toNatClampNeg) (0 : Int32))))] := hD
        refine lv_aload_n hx hb dX8_rack_14 rfl (lv_at hl 0 rfl) ?_
        refine lv_bipush (v := 10) hx hb dX8_rack_15 (by decide) ?_
        refine lv_iload_n hx hb dX8_rack_17 rfl (lv_at hl 1 rfl) ?_
        refine lv_iadd hx hb dX8_rack_18 ?_
        refine lv_iconst (v := 0) hx hb dX8_rack_19 (by decide) ?_
        obtain ⟨hz, hq⟩ := kite_n hq
        refine k_iast (j := (((10 : Int32) + x1).toNatClampNeg)) hx hb hK.1 hP hD hS 0 0 rfl rfl hz rfl dX8_rack_20 (fun H locs hP hD hS => ?_)
        have hP : va_P D vwCl [(aR, .inl (cI 0, 79, .inl (upd (upd r (((0 : Int32) + x1).toNatClampNeg) (0 : Int32)) (((10 : Int32) + x1).toNatClampNeg) (0 : Int32))))] H := hP
        have hD : va_D A [(aR, .inl (cI 0, 79, .inl (upd (upd r (((0 : Int32) + x1).toNatClampNeg) (0 : Int32)) (((10 : Int32) + x1).toNatClampNeg) (0 : Int32))))] := hD
        refine lv_aload_n hx hb dX8_rack_21 rfl (lv_at hl 0 rfl) ?_
        refine lv_bipush (v := 20) hx hb dX8_rack_22 (by decide) ?_
        refine lv_iload_n hx hb dX8_rack_24 rfl (lv_at hl 1 rfl) ?_
        refine lv_iadd hx hb dX8_rack_25 ?_
        refine lv_iconst (v := 1) hx hb dX8_rack_26 (by decide) ?_
        obtain ⟨hz, hq⟩ := kite_n hq
        refine k_iast (j := (((20 : Int32) + x1).toNatClampNeg)) hx hb hK.1 hP hD hS 0 0 rfl rfl hz rfl dX8_rack_27 (fun H locs hP hD hS => ?_)
        have hP : va_P D vwCl [(aR, .inl (cI 0, 79, .inl (upd (upd (upd r (((0 : Int32) + x1).toNatClampNeg) (0 : Int32)) (((10 : Int32) + x1).toNatClampNeg) (0 : Int32)) (((20 : Int32) + x1).toNatClampNeg) (1 : Int32))))] H := hP
        have hD : va_D A [(aR, .inl (cI 0, 79, .inl (upd (upd (upd r (((0 : Int32) + x1).toNatClampNeg) (0 : Int32)) (((10 : Int32) + x1).toNatClampNeg) (0 : Int32)) (((20 : Int32) + x1).toNatClampNeg) (1 : Int32))))] := hD
        exact b_28 (fn_X8_rack_2 q) ih _ _ _ (upd (upd (upd r (((0 : Int32) + x1).toNatClampNeg) (0 : Int32)) (((10 : Int32) + x1).toNatClampNeg) (0 : Int32)) (((20 : Int32) + x1).toNatClampNeg) (1 : Int32)) x1 hq hP hD hS (lv_sub hl [0, 1] rfl)
  refine lv_iconst (v := 0) hx hb dX8_rack_0 (by decide) ?_
  refine lv_istore_n (lv' := [(1, .int (0 : Int32)), (0, .ref aR)]) hx hb dX8_rack_1 rfl hl (by decide) rfl (fun ls hl => ?_)
  exact b_2 4096 _ _ _ r (0 : Int32) hq hP hD hS (lv_sub hl [1, 0] rfl)

set_option maxHeartbeats 4000000 in
set_option maxRecDepth 100000 in
theorem mk_X8_clear (l : Launch) (D : va_G) (cI : Nat → ClassId) (aR : Nat) (sz : Nat) (r : kF) (o : kF) (hq : fn_X8_clear r = some o) : Met l yX8_clear wsX8_clear ({ frames := 1, cells := 0, slots := 0, locals := 21 }) (kPc D cI [(aR, .inl (cI 0, 79, .inl r))] sz [.ref aR]) (kQv D [(aR, .inl (cI 0, 79, .inl r))] [(aR, .inl (cI 0, 79, .inl o))] sz) 0 0 (va_A [(aR, .inl (cI 0, 79, .inl r))] sz) := by
  refine kM_v (cc := cX8_clear) (maxL := 2) (by decide +kernel) rfl (Nat.le_of_ble_eq_true rfl) ?_
  intro p e s m args below meth c A Q hF hK hG hD hA hend ls hP hS hl
  obtain ⟨hx, hb, hml, hown, hts⟩ := id hF
  have hl : lv_has ls 2 [(0, .ref aR)] := hl
  have b_2 : ∀ (q : Nat), ∀ (H : Heap) (locs : List Loc) (ls : Array Slot) (r : kF) (x1 : Int32), fn_X8_clear_2 q r x1 = some o → va_P D vwCl [(aR, .inl (cI 0, 79, .inl r))] H → va_D A [(aR, .inl (cI 0, 79, .inl r))] → va_S A s.heap H locs → lv_has ls 2 [(0, .ref aR), (1, .int x1)] → W p l e { frames := 1, cells := 0, slots := 0, locals := 21 } s m args below meth c H locs 0 0 Q (F0 m 2 ls []) := by
    intro q
    induction q with
    | zero =>
      intro H locs ls r x1
      intro hq
      cases hq
    | succ q ih =>
      intro H locs ls r x1
      intro hq hP hD hS hl
      refine lv_iload_n hx hb dX8_clear_2 rfl (lv_at hl 1 rfl) ?_
      refine lv_bipush (v := 79) hx hb dX8_clear_3 (by decide) ?_
      refine lv_icmp_ge (tgt := 18) hx hb dX8_clear_5 (by decide) (fun c9 => ?_) (fun c9 => ?_)
      · have hq := kite_t c9 hq
        refine lv_aload_n hx hb dX8_clear_18 rfl (lv_at hl 0 rfl) ?_
        refine lv_bipush (v := 76) hx hb dX8_clear_19 (by decide) ?_
        refine lv_bipush (v := 18) hx hb dX8_clear_21 (by decide) ?_
        refine k_iast (j := 76) hx hb hK.1 hP hD hS 0 0 rfl rfl (by decide) (by decide) dX8_clear_23 (fun H locs hP hD hS => ?_)
        have hP : va_P D vwCl [(aR, .inl (cI 0, 79, .inl (upd r 76 (18 : Int32))))] H := hP
        have hD : va_D A [(aR, .inl (cI 0, 79, .inl (upd r 76 (18 : Int32))))] := hD
        refine lv_aload_n hx hb dX8_clear_24 rfl (lv_at hl 0 rfl) ?_
        refine lv_bipush (v := 77) hx hb dX8_clear_25 (by decide) ?_
        refine lv_iconst (v := 2) hx hb dX8_clear_27 (by decide) ?_
        refine k_iast (j := 77) hx hb hK.1 hP hD hS 0 0 rfl rfl (by decide) (by decide) dX8_clear_28 (fun H locs hP hD hS => ?_)
        have hP : va_P D vwCl [(aR, .inl (cI 0, 79, .inl (upd (upd r 76 (18 : Int32)) 77 (2 : Int32))))] H := hP
        have hD : va_D A [(aR, .inl (cI 0, 79, .inl (upd (upd r 76 (18 : Int32)) 77 (2 : Int32))))] := hD
        refine lv_aload_n hx hb dX8_clear_29 rfl (lv_at hl 0 rfl) ?_
        refine lv_bipush (v := 78) hx hb dX8_clear_30 (by decide) ?_
        refine lv_iconst (v := 1) hx hb dX8_clear_32 (by decide) ?_
        refine k_iast (j := 78) hx hb hK.1 hP hD hS 0 0 rfl rfl (by decide) (by decide) dX8_clear_33 (fun H locs hP hD hS => ?_)
        have hP : va_P D vwCl [(aR, .inl (cI 0, 79, .inl (upd (upd (upd r 76 (18 : Int32)) 77 (2 : Int32)) 78 (1 : Int32))))] H := hP
        have hD : va_D A [(aR, .inl (cI 0, 79, .inl (upd (upd (upd r 76 (18 : Int32)) 77 (2 : Int32)) 78 (1 : Int32))))] := hD
        refine lv_aload_n hx hb dX8_clear_34 rfl (lv_at hl 0 rfl) ?_
        obtain ⟨o35, ho35, hq⟩ := kbind hq
        refine kc_Sv (av := [.ref aR]) (rest := []) hF hK hG hA (mk_X8_rack l D cI aR H.size (upd (upd (upd r 76 (18 : Int32)) 77 (2 : Int32)) 78 (1 : Int32)) o35 ho35) (va_cwS 1 hts gX8_clear_X8_rack rfl rfl rfl (by decide +kernel) ⟨Nat.le_of_ble_eq_true rfl, Nat.le_of_ble_eq_true rfl⟩) hP hD hS [0] (by decide) rfl rfl rfl hl.1 rfl (Nat.le_of_ble_eq_true rfl) ⟨Nat.zero_le _, Nat.zero_le _⟩ dX8_clear_35 (fun H locs hP hD hS => ?_)
        have hP : va_P D vwCl [(aR, .inl (cI 0, 79, .inl o35))] H := hP
        have hD : va_D A [(aR, .inl (cI 0, 79, .inl o35))] := hD
        have ho := Option.some.inj hq
        subst ho
        exact hend _ _ _ _ hP hS dX8_clear_38
      · have hq := kite_f c9 hq
        refine lv_aload_n hx hb dX8_clear_8 rfl (lv_at hl 0 rfl) ?_
        refine lv_iload_n hx hb dX8_clear_9 rfl (lv_at hl 1 rfl) ?_
        refine lv_iconst (v := 0) hx hb dX8_clear_10 (by decide) ?_
        obtain ⟨hz, hq⟩ := kite_n hq
        refine k_iast (j := (x1.toNatClampNeg)) hx hb hK.1 hP hD hS 0 0 rfl rfl hz rfl dX8_clear_11 (fun H locs hP hD hS => ?_)
        have hP : va_P D vwCl [(aR, .inl (cI 0, 79, .inl (upd r (x1.toNatClampNeg) (0 : Int32))))] H := hP
        have hD : va_D A [(aR, .inl (cI 0, 79, .inl (upd r (x1.toNatClampNeg) (0 : Int32))))] := hD
        refine lv_iinc (v := (x1 + 1)) (lv' := [(1, .int (x1 + 1)), (0, .ref aR)]) hx hb dX8_clear_12 hl (k := 1) rfl rfl (by decide) rfl (fun ls hl => ?_)
        refine lv_goto (tgt := 2) hx hb dX8_clear_15 (by decide) ?_
        exact ih _ _ _ (upd r (x1.toNatClampNeg) (0 : Int32)) (x1 + 1) hq hP hD hS (lv_sub hl [1, 0] rfl)
  refine lv_iconst (v := 0) hx hb dX8_clear_0 (by decide) ?_
  refine lv_istore_n (lv' := [(1, .int (0 : Int32)), (0, .ref aR)]) hx hb dX8_clear_1 rfl hl (by decide) rfl (fun ls hl => ?_)
  exact b_2 4096 _ _ _ r (0 : Int32) hq hP hD hS (lv_sub hl [1, 0] rfl)

set_option maxHeartbeats 4000000 in
set_option maxRecDepth 100000 in
theorem mk_X8_isPin (l : Launch) (D : va_G) (cI : Nat → ClassId) (sz : Nat) (x0 : Int32) (o : Int32) (hq : fn_X8_isPin x0 = some o) : Met l yX8_isPin wsX8_isPin ({ frames := 1, cells := 0, slots := 0, locals := 25 }) (kPc D cI [] sz [.int x0]) (kQi D [] [] sz o) 0 0 (va_A [] sz) := by
  refine kM_z (cc := cX8_isPin) (maxL := 1) (by decide +kernel) rfl (Nat.le_of_ble_eq_true rfl) ?_
  intro p e s m args below meth c A Q hF hK hG hD hA hend ls hP hS hl
  obtain ⟨hx, hb, hml, hown, hts⟩ := id hF
  have hl : lv_has ls 1 [(0, .int x0)] := hl
  refine lv_iload_n hx hb dX8_isPin_0 rfl (lv_at hl 0 rfl) ?_
  refine lv_i2l (v := (x0).toInt64) hx hb dX8_isPin_1 rfl ?_
  refine lv_lconst (v := 0) hx hb dX8_isPin_2 (by decide) ?_
  refine lv_ldc2 (v := 9) hx hb hown (hts (.constantLong RX8 46 (9 : Int64)) (by decide +kernel)) dX8_isPin_3 ?_
  obtain ⟨o6, ho6, hq⟩ := kbind hq
  refine kc_Si (av := [.long ((x0).toInt64), .long (0 : Int64), .long (9 : Int64)]) (rest := []) hF hK hG hA (mk_X8_in l D cI s.heap.size ((x0).toInt64) (0 : Int64) (9 : Int64) o6 ho6) (va_cwS 3 hts gX8_isPin_X8_in rfl rfl rfl (by decide +kernel) ⟨Nat.le_of_ble_eq_true rfl, Nat.le_of_ble_eq_true rfl⟩) hP hD hS [] (by decide) rfl rfl rfl hl.1 rfl (Nat.le_of_ble_eq_true rfl) ⟨Nat.zero_le _, Nat.zero_le _⟩ dX8_isPin_6 (fun H locs hP hD hS => ?_)
  have hP : va_P D vwCl [] H := hP
  have hD : va_D A [] := hD
  obtain ⟨hz, hq⟩ := kite_b hq
  have ho := Option.some.inj hq
  subst ho
  exact hend _ _ _ _ hz hP hS dX8_isPin_9

set_option maxHeartbeats 4000000 in
set_option maxRecDepth 100000 in
theorem mk_X8_isBall (l : Launch) (D : va_G) (cI : Nat → ClassId) (sz : Nat) (x0 : Int32) (x1 : Int32) (o : Int32) (hq : fn_X8_isBall x0 x1 = some o) : Met l yX8_isBall wsX8_isBall ({ frames := 1, cells := 0, slots := 0, locals := 25 }) (kPc D cI [] sz [.int x0, .int x1]) (kQi D [] [] sz o) 0 0 (va_A [] sz) := by
  refine kM_z (cc := cX8_isBall) (maxL := 2) (by decide +kernel) rfl (Nat.le_of_ble_eq_true rfl) ?_
  intro p e s m args below meth c A Q hF hK hG hD hA hend ls hP hS hl
  obtain ⟨hx, hb, hml, hown, hts⟩ := id hF
  have hl : lv_has ls 2 [(0, .int x0), (1, .int x1)] := hl
  have b_31 : ∀ (H : Heap) (locs : List Loc) (ls : Array Slot) (k0 : Int32), fn_X8_isBall_31 k0 = some o → va_P D vwCl [] H → va_S A s.heap H locs → lv_has ls 2 [] → W p l e { frames := 1, cells := 0, slots := 0, locals := 25 } s m args below meth c H locs 0 0 Q (F0 m 31 ls [.int k0]) := by
    intro H locs ls k0
    intro hq hP hS hl
    obtain ⟨hz, hq⟩ := kite_b hq
    have ho := Option.some.inj hq
    subst ho
    exact hend _ _ _ _ hz hP hS dX8_isBall_31
  have b_30 : ∀ (H : Heap) (locs : List Loc) (ls : Array Slot), fn_X8_isBall_30  = some o → va_P D vwCl [] H → va_S A s.heap H locs → lv_has ls 2 [] → W p l e { frames := 1, cells := 0, slots := 0, locals := 25 } s m args below meth c H locs 0 0 Q (F0 m 30 ls []) := by
    intro H locs ls 
    intro hq hP hS hl
    refine lv_iconst (v := 0) hx hb dX8_isBall_30 (by decide) ?_
    exact b_31  _ _ _ (0 : Int32) hq hP hS (lv_sub hl [] rfl)
  refine lv_iload_n hx hb dX8_isBall_0 rfl (lv_at hl 0 rfl) ?_
  refine lv_i2l (v := (x0).toInt64) hx hb dX8_isBall_1 rfl ?_
  refine lv_lconst (v := 0) hx hb dX8_isBall_2 (by decide) ?_
  refine lv_ldc2 (v := 40) hx hb hown (hts (.constantLong RX8 52 (40 : Int64)) (by decide +kernel)) dX8_isBall_3 ?_
  obtain ⟨o6, ho6, hq⟩ := kbind hq
  refine kc_Si (av := [.long ((x0).toInt64), .long (0 : Int64), .long (40 : Int64)]) (rest := []) hF hK hG hA (mk_X8_in l D cI s.heap.size ((x0).toInt64) (0 : Int64) (40 : Int64) o6 ho6) (va_cwS 3 hts gX8_isBall_X8_in rfl rfl rfl (by decide +kernel) ⟨Nat.le_of_ble_eq_true rfl, Nat.le_of_ble_eq_true rfl⟩) hP hD hS [] (by decide) rfl rfl rfl hl.1 rfl (Nat.le_of_ble_eq_true rfl) ⟨Nat.zero_le _, Nat.zero_le _⟩ dX8_isBall_6 (fun H locs hP hD hS => ?_)
  have hP : va_P D vwCl [] H := hP
  have hD : va_D A [] := hD
  refine lv_if_eq (tgt := 30) hx hb dX8_isBall_9 (by decide) (fun c9 => ?_) (fun c9 => ?_)
  · have hq := kite_t c9 hq
    exact b_30  _ _ _  hq hP hS (lv_sub hl [] rfl)
  · have hq := kite_f c9 hq
    refine lv_iload_n hx hb dX8_isBall_12 rfl (lv_at hl 1 rfl) ?_
    refine lv_i2l (v := (x1).toInt64) hx hb dX8_isBall_13 rfl ?_
    refine lv_ldc2 (v := (-2)) hx hb hown (hts (.constantLong RX8 54 (-2 : Int64)) (by decide +kernel)) dX8_isBall_14 ?_
    refine lv_ldc2 (v := 2) hx hb hown (hts (.constantLong RX8 56 (2 : Int64)) (by decide +kernel)) dX8_isBall_17 ?_
    obtain ⟨o20, ho20, hq⟩ := kbind hq
    refine kc_Si (av := [.long ((x1).toInt64), .long (-2 : Int64), .long (2 : Int64)]) (rest := []) hF hK hG hA (mk_X8_in l D cI H.size ((x1).toInt64) (-2 : Int64) (2 : Int64) o20 ho20) (va_cwS 3 hts gX8_isBall_X8_in rfl rfl rfl (by decide +kernel) ⟨Nat.le_of_ble_eq_true rfl, Nat.le_of_ble_eq_true rfl⟩) hP hD hS [] (by decide) rfl rfl rfl hl.1 rfl (Nat.le_of_ble_eq_true rfl) ⟨Nat.zero_le _, Nat.zero_le _⟩ dX8_isBall_20 (fun H locs hP hD hS => ?_)
    have hP : va_P D vwCl [] H := hP
    have hD : va_D A [] := hD
    refine lv_if_eq (tgt := 30) hx hb dX8_isBall_23 (by decide) (fun c9 => ?_) (fun c9 => ?_)
    · have hq := kite_t c9 hq
      exact b_30  _ _ _  hq hP hS (lv_sub hl [] rfl)
    · have hq := kite_f c9 hq
      refine lv_iconst (v := 1) hx hb dX8_isBall_26 (by decide) ?_
      refine lv_goto (tgt := 31) hx hb dX8_isBall_27 (by decide) ?_
      exact b_31  _ _ _ (1 : Int32) hq hP hS (lv_sub hl [] rfl)

set_option maxHeartbeats 4000000 in
set_option maxRecDepth 100000 in
theorem mk_X8_firstOf (l : Launch) (D : va_G) (cI : Nat → ClassId) (sz : Nat) (x0 : Int32) (o : Int32) (hq : fn_X8_firstOf x0 = some o) : Met l yX8_firstOf wsX8_firstOf ({ frames := 0, cells := 0, slots := 0, locals := 0 }) (kPc D cI [] sz [.int x0]) (kQi D [] [] sz o) 0 0 (va_A [] sz) := by
  refine kM_i (cc := cX8_firstOf) (maxL := 1) (by decide +kernel) rfl (Nat.le_of_ble_eq_true rfl) ?_
  intro p e s m args below meth c A Q hF hK hG hD hA hend ls hP hS hl
  obtain ⟨hx, hb, hml, hown, hts⟩ := id hF
  have hl : lv_has ls 1 [(0, .int x0)] := hl
  refine lv_iload_n hx hb dX8_firstOf_0 rfl (lv_at hl 0 rfl) ?_
  refine lv_iload_n hx hb dX8_firstOf_1 rfl (lv_at hl 0 rfl) ?_
  refine lv_iconst (v := 1) hx hb dX8_firstOf_2 (by decide) ?_
  refine lv_iadd hx hb dX8_firstOf_3 ?_
  refine lv_imul hx hb dX8_firstOf_4 ?_
  refine lv_iconst (v := 2) hx hb dX8_firstOf_5 (by decide) ?_
  refine lv_idiv hx hb dX8_firstOf_6 (by decide) ?_
  have ho := Option.some.inj hq
  subst ho
  exact hend _ _ _ _ hP hS dX8_firstOf_7

set_option maxHeartbeats 4000000 in
set_option maxRecDepth 100000 in
theorem mk_X8_rowOf (l : Launch) (D : va_G) (cI : Nat → ClassId) (sz : Nat) (x0 : Int32) (o : Int32) (hq : fn_X8_rowOf x0 = some o) : Met l yX8_rowOf wsX8_rowOf ({ frames := 0, cells := 0, slots := 0, locals := 0 }) (kPc D cI [] sz [.int x0]) (kQi D [] [] sz o) 0 0 (va_A [] sz) := by
  refine kM_i (cc := cX8_rowOf) (maxL := 1) (by decide +kernel) rfl (Nat.le_of_ble_eq_true rfl) ?_
  intro p e s m args below meth c A Q hF hK hG hD hA hend ls hP hS hl
  obtain ⟨hx, hb, hml, hown, hts⟩ := id hF
  have hl : lv_has ls 1 [(0, .int x0)] := hl
  have b_28 : ∀ (H : Heap) (locs : List Loc) (ls : Array Slot) (k0 : Int32), fn_X8_rowOf_28 k0 = some o → va_P D vwCl [] H → va_S A s.heap H locs → lv_has ls 1 [] → W p l e { frames := 0, cells := 0, slots := 0, locals := 0 } s m args below meth c H locs 0 0 Q (F0 m 28 ls [.int k0]) := by
    intro H locs ls k0
    intro hq hP hS hl
    have ho := Option.some.inj hq
    subst ho
    exact hend _ _ _ _ hP hS dX8_rowOf_28
  refine lv_iload_n hx hb dX8_rowOf_0 rfl (lv_at hl 0 rfl) ?_
  refine lv_if_ne (tgt := 8) hx hb dX8_rowOf_1 (by decide) (fun c9 => ?_) (fun c9 => ?_)
  · have hq := kite_f c9 hq
    refine lv_iload_n hx hb dX8_rowOf_8 rfl (lv_at hl 0 rfl) ?_
    refine lv_iconst (v := 3) hx hb dX8_rowOf_9 (by decide) ?_
    refine lv_icmp_ge (tgt := 17) hx hb dX8_rowOf_10 (by decide) (fun c9 => ?_) (fun c9 => ?_)
    · have hq := kite_t c9 hq
      refine lv_iload_n hx hb dX8_rowOf_17 rfl (lv_at hl 0 rfl) ?_
      refine lv_bipush (v := 6) hx hb dX8_rowOf_18 (by decide) ?_
      refine lv_icmp_ge (tgt := 27) hx hb dX8_rowOf_20 (by decide) (fun c9 => ?_) (fun c9 => ?_)
      · have hq := kite_t c9 hq
        refine lv_iconst (v := 3) hx hb dX8_rowOf_27 (by decide) ?_
        exact b_28  _ _ _ (3 : Int32) hq hP hS (lv_sub hl [] rfl)
      · have hq := kite_f c9 hq
        refine lv_iconst (v := 2) hx hb dX8_rowOf_23 (by decide) ?_
        refine lv_goto (tgt := 28) hx hb dX8_rowOf_24 (by decide) ?_
        exact b_28  _ _ _ (2 : Int32) hq hP hS (lv_sub hl [] rfl)
    · have hq := kite_f c9 hq
      refine lv_iconst (v := 1) hx hb dX8_rowOf_13 (by decide) ?_
      refine lv_goto (tgt := 28) hx hb dX8_rowOf_14 (by decide) ?_
      exact b_28  _ _ _ (1 : Int32) hq hP hS (lv_sub hl [] rfl)
  · have hq := kite_t c9 hq
    refine lv_iconst (v := 0) hx hb dX8_rowOf_4 (by decide) ?_
    refine lv_goto (tgt := 28) hx hb dX8_rowOf_5 (by decide) ?_
    exact b_28  _ _ _ (0 : Int32) hq hP hS (lv_sub hl [] rfl)

set_option maxHeartbeats 4000000 in
set_option maxRecDepth 100000 in
theorem mk_X8_boardOf (l : Launch) (D : va_G) (cI : Nat → ClassId) (aR : Nat) (sz : Nat) (r : kF) (x1 : Int32) (o : Int32) (hq : fn_X8_boardOf r x1 = some o) : Met l yX8_boardOf wsX8_boardOf ({ frames := 1, cells := 0, slots := 0, locals := 20 }) (kPc D cI [(aR, .inl (cI 0, 79, .inl r))] sz [.ref aR, .int x1]) (kQi D [(aR, .inl (cI 0, 79, .inl r))] [(aR, .inl (cI 0, 79, .inl r))] sz o) 0 0 (va_A [(aR, .inl (cI 0, 79, .inl r))] sz) := by
  refine kM_i (cc := cX8_boardOf) (maxL := 3) (by decide +kernel) rfl (Nat.le_of_ble_eq_true rfl) ?_
  intro p e s m args below meth c A Q hF hK hG hD hA hend ls hP hS hl
  obtain ⟨hx, hb, hml, hown, hts⟩ := id hF
  have hl : lv_has ls 3 [(0, .ref aR), (1, .int x1)] := hl
  refine lv_iload_n hx hb dX8_boardOf_0 rfl (lv_at hl 1 rfl) ?_
  obtain ⟨o1, ho1, hq⟩ := kbind hq
  refine kc_Si (av := [.int x1]) (rest := []) hF hK hG hA (mk_X8_rowOf l D cI s.heap.size x1 o1 ho1) (va_cwS 1 hts gX8_boardOf_X8_rowOf rfl rfl rfl (by decide +kernel) ⟨Nat.le_of_ble_eq_true rfl, Nat.le_of_ble_eq_true rfl⟩) hP hD hS [] (by decide) rfl rfl rfl hl.1 rfl (Nat.le_of_ble_eq_true rfl) ⟨Nat.zero_le _, Nat.zero_le _⟩ dX8_boardOf_1 (fun H locs hP hD hS => ?_)
  have hP : va_P D vwCl [(aR, .inl (cI 0, 79, .inl r))] H := hP
  have hD : va_D A [(aR, .inl (cI 0, 79, .inl r))] := hD
  refine lv_istore_n (lv' := [(2, .int o1), (0, .ref aR), (1, .int x1)]) hx hb dX8_boardOf_4 rfl hl (by decide) rfl (fun ls hl => ?_)
  refine lv_bipush (v := 20) hx hb dX8_boardOf_5 (by decide) ?_
  refine lv_iconst (v := 3) hx hb dX8_boardOf_7 (by decide) ?_
  refine lv_iload_n hx hb dX8_boardOf_8 rfl (lv_at hl 0 rfl) ?_
  refine lv_imul hx hb dX8_boardOf_9 ?_
  refine lv_isub hx hb dX8_boardOf_10 ?_
  refine lv_bipush (v := 6) hx hb dX8_boardOf_11 (by decide) ?_
  refine lv_iload_n hx hb dX8_boardOf_13 rfl (lv_at hl 2 rfl) ?_
  refine lv_iload_n hx hb dX8_boardOf_14 rfl (lv_at hl 0 rfl) ?_
  obtain ⟨o15, ho15, hq⟩ := kbind hq
  refine kc_Si (av := [.int o1]) (rest := [.int x1, .int (6 : Int32), .int ((20 : Int32) - ((3 : Int32) * o1))]) hF hK hG hA (mk_X8_firstOf l D cI H.size o1 o15 ho15) (va_cwS 1 hts gX8_boardOf_X8_firstOf rfl rfl rfl (by decide +kernel) ⟨Nat.le_of_ble_eq_true rfl, Nat.le_of_ble_eq_true rfl⟩) hP hD hS [] (by decide) rfl rfl rfl hl.1 rfl (Nat.le_of_ble_eq_true rfl) ⟨Nat.zero_le _, Nat.zero_le _⟩ dX8_boardOf_15 (fun H locs hP hD hS => ?_)
  have hP : va_P D vwCl [(aR, .inl (cI 0, 79, .inl r))] H := hP
  have hD : va_D A [(aR, .inl (cI 0, 79, .inl r))] := hD
  refine lv_isub hx hb dX8_boardOf_18 ?_
  refine lv_imul hx hb dX8_boardOf_19 ?_
  refine lv_iadd hx hb dX8_boardOf_20 ?_
  refine lv_aload_n hx hb dX8_boardOf_21 rfl (lv_at hl 1 rfl) ?_
  refine lv_bipush (v := 10) hx hb dX8_boardOf_22 (by decide) ?_
  refine lv_iload_n hx hb dX8_boardOf_24 rfl (lv_at hl 2 rfl) ?_
  refine lv_iadd hx hb dX8_boardOf_25 ?_
  obtain ⟨hz, hq⟩ := kite_n hq
  refine k_iald (j := (((10 : Int32) + x1).toNatClampNeg)) hx hb hK.1 hP 0 0 rfl rfl hz rfl dX8_boardOf_26 ?_
  refine lv_iadd hx hb dX8_boardOf_27 ?_
  have ho := Option.some.inj hq
  subst ho
  exact hend _ _ _ _ hP hS dX8_boardOf_28

set_option maxHeartbeats 4000000 in
set_option maxRecDepth 100000 in
theorem mk_X8_toldOf (l : Launch) (D : va_G) (cI : Nat → ClassId) (aR : Nat) (sz : Nat) (r : kF) (o : Int32) (hq : fn_X8_toldOf r = some o) : Met l yX8_toldOf wsX8_toldOf ({ frames := 0, cells := 0, slots := 0, locals := 0 }) (kPc D cI [(aR, .inl (cI 0, 79, .inl r))] sz [.ref aR]) (kQi D [(aR, .inl (cI 0, 79, .inl r))] [(aR, .inl (cI 0, 79, .inl r))] sz o) 0 0 (va_A [(aR, .inl (cI 0, 79, .inl r))] sz) := by
  refine kM_i (cc := cX8_toldOf) (maxL := 3) (by decide +kernel) rfl (Nat.le_of_ble_eq_true rfl) ?_
  intro p e s m args below meth c A Q hF hK hG hD hA hend ls hP hS hl
  obtain ⟨hx, hb, hml, hown, hts⟩ := id hF
  have hl : lv_has ls 3 [(0, .ref aR)] := hl
  have b_4 : ∀ (q : Nat), ∀ (H : Heap) (locs : List Loc) (ls : Array Slot) (x1 : Int32) (x2 : Int32), fn_X8_toldOf_4 q r x1 x2 = some o → va_P D vwCl [(aR, .inl (cI 0, 79, .inl r))] H → va_S A s.heap H locs → lv_has ls 3 [(0, .ref aR), (1, .int x1), (2, .int x2)] → W p l e { frames := 0, cells := 0, slots := 0, locals := 0 } s m args below meth c H locs 0 0 Q (F0 m 4 ls []) := by
    intro q
    induction q with
    | zero =>
      intro H locs ls x1 x2
      intro hq
      cases hq
    | succ q ih =>
      intro H locs ls x1 x2
      intro hq hP hS hl
      refine lv_iload_n hx hb dX8_toldOf_4 rfl (lv_at hl 2 rfl) ?_
      refine lv_bipush (v := 10) hx hb dX8_toldOf_5 (by decide) ?_
      refine lv_icmp_ge (tgt := 25) hx hb dX8_toldOf_7 (by decide) (fun c9 => ?_) (fun c9 => ?_)
      · have hq := kite_t c9 hq
        refine lv_iload_n hx hb dX8_toldOf_25 rfl (lv_at hl 1 rfl) ?_
        have ho := Option.some.inj hq
        subst ho
        exact hend _ _ _ _ hP hS dX8_toldOf_26
      · have hq := kite_f c9 hq
        refine lv_iload_n hx hb dX8_toldOf_10 rfl (lv_at hl 1 rfl) ?_
        refine lv_aload_n hx hb dX8_toldOf_11 rfl (lv_at hl 0 rfl) ?_
        refine lv_bipush (v := 20) hx hb dX8_toldOf_12 (by decide) ?_
        refine lv_iload_n hx hb dX8_toldOf_14 rfl (lv_at hl 2 rfl) ?_
        refine lv_iadd hx hb dX8_toldOf_15 ?_
        obtain ⟨hz, hq⟩ := kite_n hq
        refine k_iald (j := (((20 : Int32) + x2).toNatClampNeg)) hx hb hK.1 hP 0 0 rfl rfl hz rfl dX8_toldOf_16 ?_
        refine lv_iadd hx hb dX8_toldOf_17 ?_
        refine lv_istore_n (lv' := [(1, .int (x1 + (r (((20 : Int32) + x2).toNatClampNeg)))), (0, .ref aR), (2, .int x2)]) hx hb dX8_toldOf_18 rfl hl (by decide) rfl (fun ls hl => ?_)
        refine lv_iinc (v := (x2 + 1)) (lv' := [(2, .int (x2 + 1)), (1, .int (x1 + (r (((20 : Int32) + x2).toNatClampNeg)))), (0, .ref aR)]) hx hb dX8_toldOf_19 hl (k := 2) rfl rfl (by decide) rfl (fun ls hl => ?_)
        refine lv_goto (tgt := 4) hx hb dX8_toldOf_22 (by decide) ?_
        exact ih _ _ _ (x1 + (r (((20 : Int32) + x2).toNatClampNeg))) (x2 + 1) hq hP hS (lv_sub hl [2, 1, 0] rfl)
  refine lv_iconst (v := 0) hx hb dX8_toldOf_0 (by decide) ?_
  refine lv_istore_n (lv' := [(1, .int (0 : Int32)), (0, .ref aR)]) hx hb dX8_toldOf_1 rfl hl (by decide) rfl (fun ls hl => ?_)
  refine lv_iconst (v := 0) hx hb dX8_toldOf_2 (by decide) ?_
  refine lv_istore_n (lv' := [(2, .int (0 : Int32)), (1, .int (0 : Int32)), (0, .ref aR)]) hx hb dX8_toldOf_3 rfl hl (by decide) rfl (fun ls hl => ?_)
  exact b_4 4096 _ _ _ (0 : Int32) (0 : Int32) hq hP hS (lv_sub hl [2, 1, 0] rfl)

set_option maxHeartbeats 4000000 in
set_option maxRecDepth 100000 in
theorem mk_X8_standing (l : Launch) (D : va_G) (cI : Nat → ClassId) (aR : Nat) (sz : Nat) (r : kF) (o : Int32) (hq : fn_X8_standing r = some o) : Met l yX8_standing wsX8_standing ({ frames := 0, cells := 0, slots := 0, locals := 0 }) (kPc D cI [(aR, .inl (cI 0, 79, .inl r))] sz [.ref aR]) (kQi D [(aR, .inl (cI 0, 79, .inl r))] [(aR, .inl (cI 0, 79, .inl r))] sz o) 0 0 (va_A [(aR, .inl (cI 0, 79, .inl r))] sz) := by
  refine kM_i (cc := cX8_standing) (maxL := 3) (by decide +kernel) rfl (Nat.le_of_ble_eq_true rfl) ?_
  intro p e s m args below meth c A Q hF hK hG hD hA hend ls hP hS hl
  obtain ⟨hx, hb, hml, hown, hts⟩ := id hF
  have hl : lv_has ls 3 [(0, .ref aR)] := hl
  have b_25 : ∀ (q4 : kF → Int32 → Int32 → Option (Int32)), (∀ (H : Heap) (locs : List Loc) (ls : Array Slot) (x1 : Int32) (x2 : Int32), q4 r x1 x2 = some o → va_P D vwCl [(aR, .inl (cI 0, 79, .inl r))] H → va_S A s.heap H locs → lv_has ls 3 [(0, .ref aR), (1, .int x1), (2, .int x2)] → W p l e { frames := 0, cells := 0, slots := 0, locals := 0 } s m args below meth c H locs 0 0 Q (F0 m 4 ls [])) → ∀ (H : Heap) (locs : List Loc) (ls : Array Slot) (x2 : Int32) (k0 : Int32) (k1 : Int32), fn_X8_standing_25 q4 r x2 k0 k1 = some o → va_P D vwCl [(aR, .inl (cI 0, 79, .inl r))] H → va_S A s.heap H locs → lv_has ls 3 [(0, .ref aR), (2, .int x2)] → W p l e { frames := 0, cells := 0, slots := 0, locals := 0 } s m args below meth c H locs 0 0 Q (F0 m 25 ls [.int k1, .int k0]) := by
    intro q4 i4
    intro H locs ls x2 k0 k1
    intro hq hP hS hl
    refine lv_iadd hx hb dX8_standing_25 ?_
    refine lv_istore_n (lv' := [(1, .int (k0 + k1)), (0, .ref aR), (2, .int x2)]) hx hb dX8_standing_26 rfl hl (by decide) rfl (fun ls hl => ?_)
    refine lv_iinc (v := (x2 + 1)) (lv' := [(2, .int (x2 + 1)), (1, .int (k0 + k1)), (0, .ref aR)]) hx hb dX8_standing_27 hl (k := 2) rfl rfl (by decide) rfl (fun ls hl => ?_)
    refine lv_goto (tgt := 4) hx hb dX8_standing_30 (by decide) ?_
    exact i4 _ _ _ (k0 + k1) (x2 + 1) hq hP hS (lv_sub hl [2, 1, 0] rfl)
  have b_4 : ∀ (q : Nat), ∀ (H : Heap) (locs : List Loc) (ls : Array Slot) (x1 : Int32) (x2 : Int32), fn_X8_standing_4 q r x1 x2 = some o → va_P D vwCl [(aR, .inl (cI 0, 79, .inl r))] H → va_S A s.heap H locs → lv_has ls 3 [(0, .ref aR), (1, .int x1), (2, .int x2)] → W p l e { frames := 0, cells := 0, slots := 0, locals := 0 } s m args below meth c H locs 0 0 Q (F0 m 4 ls []) := by
    intro q
    induction q with
    | zero =>
      intro H locs ls x1 x2
      intro hq
      cases hq
    | succ q ih =>
      intro H locs ls x1 x2
      intro hq hP hS hl
      refine lv_iload_n hx hb dX8_standing_4 rfl (lv_at hl 2 rfl) ?_
      refine lv_bipush (v := 10) hx hb dX8_standing_5 (by decide) ?_
      refine lv_icmp_ge (tgt := 33) hx hb dX8_standing_7 (by decide) (fun c9 => ?_) (fun c9 => ?_)
      · have hq := kite_t c9 hq
        refine lv_iload_n hx hb dX8_standing_33 rfl (lv_at hl 1 rfl) ?_
        have ho := Option.some.inj hq
        subst ho
        exact hend _ _ _ _ hP hS dX8_standing_34
      · have hq := kite_f c9 hq
        refine lv_iload_n hx hb dX8_standing_10 rfl (lv_at hl 1 rfl) ?_
        refine lv_aload_n hx hb dX8_standing_11 rfl (lv_at hl 0 rfl) ?_
        refine lv_iconst (v := 0) hx hb dX8_standing_12 (by decide) ?_
        refine lv_iload_n hx hb dX8_standing_13 rfl (lv_at hl 2 rfl) ?_
        refine lv_iadd hx hb dX8_standing_14 ?_
        obtain ⟨hz, hq⟩ := kite_n hq
        refine k_iald (j := (((0 : Int32) + x2).toNatClampNeg)) hx hb hK.1 hP 0 0 rfl rfl hz rfl dX8_standing_15 ?_
        refine lv_iconst (v := 4) hx hb dX8_standing_16 (by decide) ?_
        refine lv_icmp_ne (tgt := 24) hx hb dX8_standing_17 (by decide) (fun c9 => ?_) (fun c9 => ?_)
        · have hq := kite_f c9 hq
          refine lv_iconst (v := 1) hx hb dX8_standing_24 (by decide) ?_
          exact b_25 (fn_X8_standing_4 q) ih _ _ _ x2 x1 (1 : Int32) hq hP hS (lv_sub hl [0, 2] rfl)
        · have hq := kite_t c9 hq
          refine lv_iconst (v := 0) hx hb dX8_standing_20 (by decide) ?_
          refine lv_goto (tgt := 25) hx hb dX8_standing_21 (by decide) ?_
          exact b_25 (fn_X8_standing_4 q) ih _ _ _ x2 x1 (0 : Int32) hq hP hS (lv_sub hl [0, 2] rfl)
  refine lv_iconst (v := 0) hx hb dX8_standing_0 (by decide) ?_
  refine lv_istore_n (lv' := [(1, .int (0 : Int32)), (0, .ref aR)]) hx hb dX8_standing_1 rfl hl (by decide) rfl (fun ls hl => ?_)
  refine lv_iconst (v := 0) hx hb dX8_standing_2 (by decide) ?_
  refine lv_istore_n (lv' := [(2, .int (0 : Int32)), (1, .int (0 : Int32)), (0, .ref aR)]) hx hb dX8_standing_3 rfl hl (by decide) rfl (fun ls hl => ?_)
  exact b_4 4096 _ _ _ (0 : Int32) (0 : Int32) hq hP hS (lv_sub hl [2, 1, 0] rfl)

theorem iw_X8_leanMore_X8 : ∀ w ∈ wsX80, w ∈ wsX8_leanMore := by decide +kernel
set_option maxHeartbeats 4000000 in
set_option maxRecDepth 100000 in
theorem mk_X8_leanMore (l : Launch) (D : va_G) (cI : Nat → ClassId) (aM aMtext aMnow aMtrial aMdiary aMkept aMisKept aMside aMwas aR : Nat) (sz : Nat) (mref : Int32) (msize : Int32) (macts : Int32) (mspot : Int32) (mout : Int32) (mside : kF) (r : kF) (x2 : Int32) (x3 : Int32) (x4 : Int32) (o : kF × kF) (hq : fn_X8_leanMore mside r x2 x3 x4 = some o) : Met l yX8_leanMore wsX8_leanMore ({ frames := 0, cells := 0, slots := 0, locals := 0 }) (kPc D cI [(aM, .inr (7, [.int mref, .ref aMtext, .int msize, .ref aMnow, .ref aMtrial, .ref aMdiary, .int macts, .ref aMkept, .ref aMisKept, .ref aMside, .ref aMwas, .int mspot, .int mout])), (aMside, .inl (cI 0, 10, .inl mside)), (aR, .inl (cI 0, 79, .inl r))] sz [.ref aM, .ref aR, .int x2, .int x3, .int x4]) (kQv D [(aM, .inr (7, [.int mref, .ref aMtext, .int msize, .ref aMnow, .ref aMtrial, .ref aMdiary, .int macts, .ref aMkept, .ref aMisKept, .ref aMside, .ref aMwas, .int mspot, .int mout])), (aMside, .inl (cI 0, 10, .inl mside)), (aR, .inl (cI 0, 79, .inl r))] [(aM, .inr (7, [.int mref, .ref aMtext, .int msize, .ref aMnow, .ref aMtrial, .ref aMdiary, .int macts, .ref aMkept, .ref aMisKept, .ref aMside, .ref aMwas, .int mspot, .int mout])), (aMside, .inl (cI 0, 10, .inl o.1)), (aR, .inl (cI 0, 79, .inl o.2))] sz) 0 0 (va_A [(aM, .inr (7, [.int mref, .ref aMtext, .int msize, .ref aMnow, .ref aMtrial, .ref aMdiary, .int macts, .ref aMkept, .ref aMisKept, .ref aMside, .ref aMwas, .int mspot, .int mout])), (aMside, .inl (cI 0, 10, .inl mside)), (aR, .inl (cI 0, 79, .inl r))] sz) := by
  refine kM_v (cc := cX8_leanMore) (maxL := 5) (by decide +kernel) rfl (Nat.le_of_ble_eq_true rfl) ?_
  intro p e s m args below meth c A Q hF hK hG hD hA hend ls hP hS hl
  obtain ⟨hx, hb, hml, hown, hts⟩ := id hF
  have hl : lv_has ls 5 [(0, .ref aM), (1, .ref aR), (2, .int x2), (3, .int x3), (4, .int x4)] := hl
  have b_37 : ∀ (H : Heap) (locs : List Loc) (ls : Array Slot) (mside : kF) (r : kF), fn_X8_leanMore_37 mside r = some o → va_P D vwCl [(aM, .inr (7, [.int mref, .ref aMtext, .int msize, .ref aMnow, .ref aMtrial, .ref aMdiary, .int macts, .ref aMkept, .ref aMisKept, .ref aMside, .ref aMwas, .int mspot, .int mout])), (aMside, .inl (cI 0, 10, .inl mside)), (aR, .inl (cI 0, 79, .inl r))] H → va_D A [(aM, .inr (7, [.int mref, .ref aMtext, .int msize, .ref aMnow, .ref aMtrial, .ref aMdiary, .int macts, .ref aMkept, .ref aMisKept, .ref aMside, .ref aMwas, .int mspot, .int mout])), (aMside, .inl (cI 0, 10, .inl mside)), (aR, .inl (cI 0, 79, .inl r))] → va_S A s.heap H locs → lv_has ls 5 [] → W p l e { frames := 0, cells := 0, slots := 0, locals := 0 } s m args below meth c H locs 0 0 Q (F0 m 37 ls []) := by
    intro H locs ls mside r
    intro hq hP hD hS hl
    have ho := Option.some.inj hq
    subst ho
    exact hend _ _ _ _ hP hS dX8_leanMore_37
  refine lv_aload_n hx hb dX8_leanMore_0 rfl (lv_at hl 1 rfl) ?_
  refine lv_iconst (v := 0) hx hb dX8_leanMore_1 (by decide) ?_
  refine lv_iload_n hx hb dX8_leanMore_2 rfl (lv_at hl 2 rfl) ?_
  refine lv_iadd hx hb dX8_leanMore_3 ?_
  obtain ⟨hz, hq⟩ := kite_n hq
  refine k_iald (j := (((0 : Int32) + x2).toNatClampNeg)) hx hb hK.1 hP 2 0 rfl rfl hz rfl dX8_leanMore_4 ?_
  refine lv_iload_n hx hb dX8_leanMore_5 rfl (lv_at hl 3 rfl) ?_
  refine lv_iadd hx hb dX8_leanMore_6 ?_
  refine lv_iconst (v := 3) hx hb dX8_leanMore_7 (by decide) ?_
  refine lv_icmp_le (tgt := 28) hx hb dX8_leanMore_8 (by decide) (fun c9 => ?_) (fun c9 => ?_)
  · have hq := kite_t c9 hq
    refine lv_aload_n hx hb dX8_leanMore_28 rfl (lv_at hl 1 rfl) ?_
    refine lv_iconst (v := 0) hx hb dX8_leanMore_29 (by decide) ?_
    refine lv_iload_n hx hb dX8_leanMore_30 rfl (lv_at hl 2 rfl) ?_
    refine lv_iadd hx hb dX8_leanMore_31 ?_
    refine lv_dup2_11 hx hb dX8_leanMore_32 rfl rfl ?_
    obtain ⟨hz, hq⟩ := kite_n hq
    refine k_iald (j := (((0 : Int32) + x2).toNatClampNeg)) hx hb hK.1 hP 2 0 rfl rfl hz rfl dX8_leanMore_33 ?_
    refine lv_iload_n hx hb dX8_leanMore_34 rfl (lv_at hl 3 rfl) ?_
    refine lv_iadd hx hb dX8_leanMore_35 ?_
    obtain ⟨hz, hq⟩ := kite_n hq
    refine k_iast (j := (((0 : Int32) + x2).toNatClampNeg)) hx hb hK.1 hP hD hS 2 0 rfl rfl hz rfl dX8_leanMore_36 (fun H locs hP hD hS => ?_)
    have hP : va_P D vwCl [(aM, .inr (7, [.int mref, .ref aMtext, .int msize, .ref aMnow, .ref aMtrial, .ref aMdiary, .int macts, .ref aMkept, .ref aMisKept, .ref aMside, .ref aMwas, .int mspot, .int mout])), (aMside, .inl (cI 0, 10, .inl mside)), (aR, .inl (cI 0, 79, .inl (upd r (((0 : Int32) + x2).toNatClampNeg) ((r (((0 : Int32) + x2).toNatClampNeg)) + x3))))] H := hP
    have hD : va_D A [(aM, .inr (7, [.int mref, .ref aMtext, .int msize, .ref aMnow, .ref aMtrial, .ref aMdiary, .int macts, .ref aMkept, .ref aMisKept, .ref aMside, .ref aMwas, .int mspot, .int mout])), (aMside, .inl (cI 0, 10, .inl mside)), (aR, .inl (cI 0, 79, .inl (upd r (((0 : Int32) + x2).toNatClampNeg) ((r (((0 : Int32) + x2).toNatClampNeg)) + x3))))] := hD
    exact b_37  _ _ _ mside (upd r (((0 : Int32) + x2).toNatClampNeg) ((r (((0 : Int32) + x2).toNatClampNeg)) + x3)) hq hP hD hS (lv_sub hl [] rfl)
  · have hq := kite_f c9 hq
    refine lv_aload_n hx hb dX8_leanMore_11 rfl (lv_at hl 1 rfl) ?_
    refine lv_iconst (v := 0) hx hb dX8_leanMore_12 (by decide) ?_
    refine lv_iload_n hx hb dX8_leanMore_13 rfl (lv_at hl 2 rfl) ?_
    refine lv_iadd hx hb dX8_leanMore_14 ?_
    refine lv_iconst (v := 4) hx hb dX8_leanMore_15 (by decide) ?_
    obtain ⟨hz, hq⟩ := kite_n hq
    refine k_iast (j := (((0 : Int32) + x2).toNatClampNeg)) hx hb hK.1 hP hD hS 2 0 rfl rfl hz rfl dX8_leanMore_16 (fun H locs hP hD hS => ?_)
    have hP : va_P D vwCl [(aM, .inr (7, [.int mref, .ref aMtext, .int msize, .ref aMnow, .ref aMtrial, .ref aMdiary, .int macts, .ref aMkept, .ref aMisKept, .ref aMside, .ref aMwas, .int mspot, .int mout])), (aMside, .inl (cI 0, 10, .inl mside)), (aR, .inl (cI 0, 79, .inl (upd r (((0 : Int32) + x2).toNatClampNeg) (4 : Int32))))] H := hP
    have hD : va_D A [(aM, .inr (7, [.int mref, .ref aMtext, .int msize, .ref aMnow, .ref aMtrial, .ref aMdiary, .int macts, .ref aMkept, .ref aMisKept, .ref aMside, .ref aMwas, .int mspot, .int mout])), (aMside, .inl (cI 0, 10, .inl mside)), (aR, .inl (cI 0, 79, .inl (upd r (((0 : Int32) + x2).toNatClampNeg) (4 : Int32))))] := hD
    refine lv_aload_n hx hb dX8_leanMore_17 rfl (lv_at hl 0 rfl) ?_
    refine va_get (D := D) (ci := 7) (v := .ref aMside) (C := RX8) (T := TX8) (N := 13) hx hb hts iw_X8_leanMore_X8 hown hK.1 hP 0 rfl rfl 9 (by decide) (hts (.fieldLink RX8 29 "PinDeckModel" "side" "[I") (by decide +kernel)) (fun _ h9 => h9) rfl dX8_leanMore_18 ?_
    refine lv_iload_n hx hb dX8_leanMore_21 rfl (lv_at hl 2 rfl) ?_
    refine lv_iload hx hb dX8_leanMore_22 (lv_at hl 4 rfl) ?_
    obtain ⟨hz, hq⟩ := kite_n hq
    refine k_iast (j := (x2.toNatClampNeg)) hx hb hK.1 hP hD hS 1 0 rfl rfl hz rfl dX8_leanMore_24 (fun H locs hP hD hS => ?_)
    have hP : va_P D vwCl [(aM, .inr (7, [.int mref, .ref aMtext, .int msize, .ref aMnow, .ref aMtrial, .ref aMdiary, .int macts, .ref aMkept, .ref aMisKept, .ref aMside, .ref aMwas, .int mspot, .int mout])), (aMside, .inl (cI 0, 10, .inl (upd mside (x2.toNatClampNeg) x4))), (aR, .inl (cI 0, 79, .inl (upd r (((0 : Int32) + x2).toNatClampNeg) (4 : Int32))))] H := hP
    have hD : va_D A [(aM, .inr (7, [.int mref, .ref aMtext, .int msize, .ref aMnow, .ref aMtrial, .ref aMdiary, .int macts, .ref aMkept, .ref aMisKept, .ref aMside, .ref aMwas, .int mspot, .int mout])), (aMside, .inl (cI 0, 10, .inl (upd mside (x2.toNatClampNeg) x4))), (aR, .inl (cI 0, 79, .inl (upd r (((0 : Int32) + x2).toNatClampNeg) (4 : Int32))))] := hD
    refine lv_goto (tgt := 37) hx hb dX8_leanMore_25 (by decide) ?_
    exact b_37  _ _ _ (upd mside (x2.toNatClampNeg) x4) (upd r (((0 : Int32) + x2).toNatClampNeg) (4 : Int32)) hq hP hD hS (lv_sub hl [] rfl)

theorem iw_X8_meet_X8 : ∀ w ∈ wsX80, w ∈ wsX8_meet := by decide +kernel
set_option maxHeartbeats 4000000 in
set_option maxRecDepth 100000 in
theorem mk_X8_meet (l : Launch) (D : va_G) (cI : Nat → ClassId) (aM aMtext aMnow aMtrial aMdiary aMkept aMisKept aMside aMwas aR : Nat) (sz : Nat) (mref : Int32) (msize : Int32) (macts : Int32) (mspot : Int32) (mout : Int32) (mside : kF) (r : kF) (x2 : Int32) (x3 : Int32) (o : Int32 × kF × kF) (hq : fn_X8_meet mside r x2 x3 = some o) : Met l yX8_meet wsX8_meet ({ frames := 2, cells := 0, slots := 0, locals := 42 }) (kPc D cI [(aM, .inr (7, [.int mref, .ref aMtext, .int msize, .ref aMnow, .ref aMtrial, .ref aMdiary, .int macts, .ref aMkept, .ref aMisKept, .ref aMside, .ref aMwas, .int mspot, .int mout])), (aMside, .inl (cI 0, 10, .inl mside)), (aR, .inl (cI 0, 79, .inl r))] sz [.ref aM, .ref aR, .int x2, .int x3]) (kQi D [(aM, .inr (7, [.int mref, .ref aMtext, .int msize, .ref aMnow, .ref aMtrial, .ref aMdiary, .int macts, .ref aMkept, .ref aMisKept, .ref aMside, .ref aMwas, .int mspot, .int mout])), (aMside, .inl (cI 0, 10, .inl mside)), (aR, .inl (cI 0, 79, .inl r))] [(aM, .inr (7, [.int mref, .ref aMtext, .int msize, .ref aMnow, .ref aMtrial, .ref aMdiary, .int macts, .ref aMkept, .ref aMisKept, .ref aMside, .ref aMwas, .int mspot, .int mout])), (aMside, .inl (cI 0, 10, .inl o.2.1)), (aR, .inl (cI 0, 79, .inl o.2.2))] sz o.1) 0 0 (va_A [(aM, .inr (7, [.int mref, .ref aMtext, .int msize, .ref aMnow, .ref aMtrial, .ref aMdiary, .int macts, .ref aMkept, .ref aMisKept, .ref aMside, .ref aMwas, .int mspot, .int mout])), (aMside, .inl (cI 0, 10, .inl mside)), (aR, .inl (cI 0, 79, .inl r))] sz) := by
  refine kM_i (cc := cX8_meet) (maxL := 6) (by decide +kernel) rfl (Nat.le_of_ble_eq_true rfl) ?_
  intro p e s m args below meth c A Q hF hK hG hD hA hend ls hP hS hl
  obtain ⟨hx, hb, hml, hown, hts⟩ := id hF
  have hl : lv_has ls 6 [(0, .ref aM), (1, .ref aR), (2, .int x2), (3, .int x3)] := hl
  have b_156 : ∀ (H : Heap) (locs : List Loc) (ls : Array Slot) (mside : kF) (r : kF), fn_X8_meet_156 mside r = some o → va_P D vwCl [(aM, .inr (7, [.int mref, .ref aMtext, .int msize, .ref aMnow, .ref aMtrial, .ref aMdiary, .int macts, .ref aMkept, .ref aMisKept, .ref aMside, .ref aMwas, .int mspot, .int mout])), (aMside, .inl (cI 0, 10, .inl mside)), (aR, .inl (cI 0, 79, .inl r))] H → va_D A [(aM, .inr (7, [.int mref, .ref aMtext, .int msize, .ref aMnow, .ref aMtrial, .ref aMdiary, .int macts, .ref aMkept, .ref aMisKept, .ref aMside, .ref aMwas, .int mspot, .int mout])), (aMside, .inl (cI 0, 10, .inl mside)), (aR, .inl (cI 0, 79, .inl r))] → va_S A s.heap H locs → lv_has ls 6 [] → W p l e { frames := 2, cells := 0, slots := 0, locals := 42 } s m args below meth c H locs 0 0 Q (F0 m 156 ls []) := by
    intro H locs ls mside r
    intro hq hP hD hS hl
    refine lv_iconst (v := 0) hx hb dX8_meet_156 (by decide) ?_
    have ho := Option.some.inj hq
    subst ho
    exact hend _ _ _ _ hP hS dX8_meet_157
  have b_153 : ∀ (H : Heap) (locs : List Loc) (ls : Array Slot) (mside : kF) (r : kF) (k2 : Int32) (k3 : Int32) (k4 : Int32), fn_X8_meet_153 mside r k2 k3 k4 = some o → va_P D vwCl [(aM, .inr (7, [.int mref, .ref aMtext, .int msize, .ref aMnow, .ref aMtrial, .ref aMdiary, .int macts, .ref aMkept, .ref aMisKept, .ref aMside, .ref aMwas, .int mspot, .int mout])), (aMside, .inl (cI 0, 10, .inl mside)), (aR, .inl (cI 0, 79, .inl r))] H → va_D A [(aM, .inr (7, [.int mref, .ref aMtext, .int msize, .ref aMnow, .ref aMtrial, .ref aMdiary, .int macts, .ref aMkept, .ref aMisKept, .ref aMside, .ref aMwas, .int mspot, .int mout])), (aMside, .inl (cI 0, 10, .inl mside)), (aR, .inl (cI 0, 79, .inl r))] → va_S A s.heap H locs → lv_has ls 6 [] → W p l e { frames := 2, cells := 0, slots := 0, locals := 42 } s m args below meth c H locs 0 0 Q (F0 m 153 ls [.int k4, .int k3, .int k2, .ref aR, .ref aM]) := by
    intro H locs ls mside r k2 k3 k4
    intro hq hP hD hS hl
    obtain ⟨o153, ho153, hq⟩ := kbind hq
    refine kc_Vv (av := [.ref aR, .int k2, .int k3, .int k4]) (rest := []) hF hK hG hA (mk_X8_leanMore l D cI aM aMtext aMnow aMtrial aMdiary aMkept aMisKept aMside aMwas aR H.size mref msize macts mspot mout mside r k2 k3 k4 o153 ho153) (cwV 4 hts gX8_meet_X8_leanMore rfl rfl rfl (by decide +kernel) ⟨Nat.le_of_ble_eq_true rfl, Nat.le_of_ble_eq_true rfl⟩) hP hD hS [0, 1, 2] (by decide) rfl rfl 0 rfl rfl rfl hl.1 rfl (Nat.le_of_ble_eq_true rfl) ⟨Nat.zero_le _, Nat.zero_le _⟩ dX8_meet_153 (fun H locs hP hD hS => ?_)
    have hP : va_P D vwCl [(aM, .inr (7, [.int mref, .ref aMtext, .int msize, .ref aMnow, .ref aMtrial, .ref aMdiary, .int macts, .ref aMkept, .ref aMisKept, .ref aMside, .ref aMwas, .int mspot, .int mout])), (aMside, .inl (cI 0, 10, .inl o153.1)), (aR, .inl (cI 0, 79, .inl o153.2))] H := hP
    have hD : va_D A [(aM, .inr (7, [.int mref, .ref aMtext, .int msize, .ref aMnow, .ref aMtrial, .ref aMdiary, .int macts, .ref aMkept, .ref aMisKept, .ref aMside, .ref aMwas, .int mspot, .int mout])), (aMside, .inl (cI 0, 10, .inl o153.1)), (aR, .inl (cI 0, 79, .inl o153.2))] := hD
    exact b_156  _ _ _ o153.1 o153.2 hq hP hD hS (lv_sub hl [] rfl)
  have b_138 : ∀ (H : Heap) (locs : List Loc) (ls : Array Slot) (mside : kF) (r : kF) (x2 : Int32) (x4 : Int32) (k1 : Int32) (k2 : Int32), fn_X8_meet_138 mside r x2 x4 k1 k2 = some o → va_P D vwCl [(aM, .inr (7, [.int mref, .ref aMtext, .int msize, .ref aMnow, .ref aMtrial, .ref aMdiary, .int macts, .ref aMkept, .ref aMisKept, .ref aMside, .ref aMwas, .int mspot, .int mout])), (aMside, .inl (cI 0, 10, .inl mside)), (aR, .inl (cI 0, 79, .inl r))] H → va_D A [(aM, .inr (7, [.int mref, .ref aMtext, .int msize, .ref aMnow, .ref aMtrial, .ref aMdiary, .int macts, .ref aMkept, .ref aMisKept, .ref aMside, .ref aMwas, .int mspot, .int mout])), (aMside, .inl (cI 0, 10, .inl mside)), (aR, .inl (cI 0, 79, .inl r))] → va_S A s.heap H locs → lv_has ls 6 [(0, .ref aM), (1, .ref aR), (2, .int x2), (4, .int x4)] → W p l e { frames := 2, cells := 0, slots := 0, locals := 42 } s m args below meth c H locs 0 0 Q (F0 m 138 ls [.int k2, .int k1, .ref aR]) := by
    intro H locs ls mside r x2 x4 k1 k2
    intro hq hP hD hS hl
    obtain ⟨hz, hq⟩ := kite_n hq
    refine k_iast (j := (k1.toNatClampNeg)) hx hb hK.1 hP hD hS 2 0 rfl rfl hz rfl dX8_meet_138 (fun H locs hP hD hS => ?_)
    have hP : va_P D vwCl [(aM, .inr (7, [.int mref, .ref aMtext, .int msize, .ref aMnow, .ref aMtrial, .ref aMdiary, .int macts, .ref aMkept, .ref aMisKept, .ref aMside, .ref aMwas, .int mspot, .int mout])), (aMside, .inl (cI 0, 10, .inl mside)), (aR, .inl (cI 0, 79, .inl (upd r (k1.toNatClampNeg) k2)))] H := hP
    have hD : va_D A [(aM, .inr (7, [.int mref, .ref aMtext, .int msize, .ref aMnow, .ref aMtrial, .ref aMdiary, .int macts, .ref aMkept, .ref aMisKept, .ref aMside, .ref aMwas, .int mspot, .int mout])), (aMside, .inl (cI 0, 10, .inl mside)), (aR, .inl (cI 0, 79, .inl (upd r (k1.toNatClampNeg) k2)))] := hD
    refine lv_aload_n hx hb dX8_meet_139 rfl (lv_at hl 0 rfl) ?_
    refine lv_aload_n hx hb dX8_meet_140 rfl (lv_at hl 1 rfl) ?_
    refine lv_iload_n hx hb dX8_meet_141 rfl (lv_at hl 2 rfl) ?_
    refine lv_iconst (v := 1) hx hb dX8_meet_142 (by decide) ?_
    refine lv_iload hx hb dX8_meet_143 (lv_at hl 3 rfl) ?_
    refine lv_if_le (tgt := 152) hx hb dX8_meet_145 (by decide) (fun c9 => ?_) (fun c9 => ?_)
    · have hq := kite_t c9 hq
      refine lv_iconst (v := 1) hx hb dX8_meet_152 (by decide) ?_
      exact b_153  _ _ _ mside (upd r (k1.toNatClampNeg) k2) x2 (1 : Int32) (1 : Int32) hq hP hD hS (lv_sub hl [] rfl)
    · have hq := kite_f c9 hq
      refine lv_iconst (v := 2) hx hb dX8_meet_148 (by decide) ?_
      refine lv_goto (tgt := 153) hx hb dX8_meet_149 (by decide) ?_
      exact b_153  _ _ _ mside (upd r (k1.toNatClampNeg) k2) x2 (1 : Int32) (2 : Int32) hq hP hD hS (lv_sub hl [] rfl)
  have b_104 : ∀ (H : Heap) (locs : List Loc) (ls : Array Slot) (mside : kF) (r : kF) (x2 : Int32) (x4 : Int32) (k0 : Int32) (k1 : Int32), fn_X8_meet_104 mside r x2 x4 k0 k1 = some o → va_P D vwCl [(aM, .inr (7, [.int mref, .ref aMtext, .int msize, .ref aMnow, .ref aMtrial, .ref aMdiary, .int macts, .ref aMkept, .ref aMisKept, .ref aMside, .ref aMwas, .int mspot, .int mout])), (aMside, .inl (cI 0, 10, .inl mside)), (aR, .inl (cI 0, 79, .inl r))] H → va_D A [(aM, .inr (7, [.int mref, .ref aMtext, .int msize, .ref aMnow, .ref aMtrial, .ref aMdiary, .int macts, .ref aMkept, .ref aMisKept, .ref aMside, .ref aMwas, .int mspot, .int mout])), (aMside, .inl (cI 0, 10, .inl mside)), (aR, .inl (cI 0, 79, .inl r))] → va_S A s.heap H locs → lv_has ls 6 [(0, .ref aM), (1, .ref aR), (2, .int x2), (4, .int x4)] → W p l e { frames := 2, cells := 0, slots := 0, locals := 42 } s m args below meth c H locs 0 0 Q (F0 m 104 ls [.int k1, .int k0]) := by
    intro H locs ls mside r x2 x4 k0 k1
    intro hq hP hD hS hl
    refine lv_iadd hx hb dX8_meet_104 ?_
    refine lv_istore (lv' := [(5, .int (k0 + k1)), (0, .ref aM), (1, .ref aR), (2, .int x2), (4, .int x4)]) hx hb dX8_meet_105 hl (by decide) rfl (fun ls hl => ?_)
    refine lv_aload_n hx hb dX8_meet_107 rfl (lv_at hl 2 rfl) ?_
    refine lv_bipush (v := 10) hx hb dX8_meet_108 (by decide) ?_
    refine lv_iload_n hx hb dX8_meet_110 rfl (lv_at hl 3 rfl) ?_
    refine lv_iadd hx hb dX8_meet_111 ?_
    refine lv_iload hx hb dX8_meet_112 (lv_at hl 0 rfl) ?_
    refine lv_i2l (v := ((k0 + k1)).toInt64) hx hb dX8_meet_114 rfl ?_
    refine lv_ldc2 (v := (-2)) hx hb hown (hts (.constantLong RX8 54 (-2 : Int64)) (by decide +kernel)) dX8_meet_115 ?_
    refine lv_ldc2 (v := 2) hx hb hown (hts (.constantLong RX8 56 (2 : Int64)) (by decide +kernel)) dX8_meet_118 ?_
    obtain ⟨o121, ho121, hq⟩ := kbind hq
    refine kc_Si (av := [.long (((k0 + k1)).toInt64), .long (-2 : Int64), .long (2 : Int64)]) (rest := [.int ((10 : Int32) + x2), .ref aR]) hF hK hG hA (mk_X8_in l D cI H.size (((k0 + k1)).toInt64) (-2 : Int64) (2 : Int64) o121 ho121) (va_cwS 3 hts gX8_meet_X8_in rfl rfl rfl (by decide +kernel) ⟨Nat.le_of_ble_eq_true rfl, Nat.le_of_ble_eq_true rfl⟩) hP hD hS [] (by decide) rfl rfl rfl hl.1 rfl (Nat.le_of_ble_eq_true rfl) ⟨Nat.zero_le _, Nat.zero_le _⟩ dX8_meet_121 (fun H locs hP hD hS => ?_)
    have hP : va_P D vwCl [(aM, .inr (7, [.int mref, .ref aMtext, .int msize, .ref aMnow, .ref aMtrial, .ref aMdiary, .int macts, .ref aMkept, .ref aMisKept, .ref aMside, .ref aMwas, .int mspot, .int mout])), (aMside, .inl (cI 0, 10, .inl mside)), (aR, .inl (cI 0, 79, .inl r))] H := hP
    have hD : va_D A [(aM, .inr (7, [.int mref, .ref aMtext, .int msize, .ref aMnow, .ref aMtrial, .ref aMdiary, .int macts, .ref aMkept, .ref aMisKept, .ref aMside, .ref aMwas, .int mspot, .int mout])), (aMside, .inl (cI 0, 10, .inl mside)), (aR, .inl (cI 0, 79, .inl r))] := hD
    refine lv_if_eq (tgt := 132) hx hb dX8_meet_124 (by decide) (fun c9 => ?_) (fun c9 => ?_)
    · have hq := kite_t c9 hq
      refine lv_aload_n hx hb dX8_meet_132 rfl (lv_at hl 2 rfl) ?_
      refine lv_bipush (v := 10) hx hb dX8_meet_133 (by decide) ?_
      refine lv_iload_n hx hb dX8_meet_135 rfl (lv_at hl 3 rfl) ?_
      refine lv_iadd hx hb dX8_meet_136 ?_
      obtain ⟨hz, hq⟩ := kite_n hq
      refine k_iald (j := (((10 : Int32) + x2).toNatClampNeg)) hx hb hK.1 hP 2 0 rfl rfl hz rfl dX8_meet_137 ?_
      exact b_138  _ _ _ mside r x2 x4 ((10 : Int32) + x2) (r (((10 : Int32) + x2).toNatClampNeg)) hq hP hD hS (lv_sub hl [1, 2, 3, 4] rfl)
    · have hq := kite_f c9 hq
      refine lv_iload hx hb dX8_meet_127 (lv_at hl 0 rfl) ?_
      refine lv_goto (tgt := 138) hx hb dX8_meet_129 (by decide) ?_
      exact b_138  _ _ _ mside r x2 x4 ((10 : Int32) + x2) (k0 + k1) hq hP hD hS (lv_sub hl [1, 2, 3, 4] rfl)
  have b_88 : ∀ (H : Heap) (locs : List Loc) (ls : Array Slot) (mside : kF) (r : kF) (x2 : Int32) (x4 : Int32), fn_X8_meet_88 mside r x2 x4 = some o → va_P D vwCl [(aM, .inr (7, [.int mref, .ref aMtext, .int msize, .ref aMnow, .ref aMtrial, .ref aMdiary, .int macts, .ref aMkept, .ref aMisKept, .ref aMside, .ref aMwas, .int mspot, .int mout])), (aMside, .inl (cI 0, 10, .inl mside)), (aR, .inl (cI 0, 79, .inl r))] H → va_D A [(aM, .inr (7, [.int mref, .ref aMtext, .int msize, .ref aMnow, .ref aMtrial, .ref aMdiary, .int macts, .ref aMkept, .ref aMisKept, .ref aMside, .ref aMwas, .int mspot, .int mout])), (aMside, .inl (cI 0, 10, .inl mside)), (aR, .inl (cI 0, 79, .inl r))] → va_S A s.heap H locs → lv_has ls 6 [(0, .ref aM), (1, .ref aR), (2, .int x2), (4, .int x4)] → W p l e { frames := 2, cells := 0, slots := 0, locals := 42 } s m args below meth c H locs 0 0 Q (F0 m 88 ls []) := by
    intro H locs ls mside r x2 x4
    intro hq hP hD hS hl
    refine lv_aload_n hx hb dX8_meet_88 rfl (lv_at hl 1 rfl) ?_
    refine lv_bipush (v := 10) hx hb dX8_meet_89 (by decide) ?_
    refine lv_iload_n hx hb dX8_meet_91 rfl (lv_at hl 2 rfl) ?_
    refine lv_iadd hx hb dX8_meet_92 ?_
    obtain ⟨hz, hq⟩ := kite_n hq
    refine k_iald (j := (((10 : Int32) + x2).toNatClampNeg)) hx hb hK.1 hP 2 0 rfl rfl hz rfl dX8_meet_93 ?_
    refine lv_iload hx hb dX8_meet_94 (lv_at hl 3 rfl) ?_
    refine lv_if_le (tgt := 103) hx hb dX8_meet_96 (by decide) (fun c9 => ?_) (fun c9 => ?_)
    · have hq := kite_t c9 hq
      refine lv_iconst (v := (-1)) hx hb dX8_meet_103 (by decide) ?_
      exact b_104  _ _ _ mside r x2 x4 (r (((10 : Int32) + x2).toNatClampNeg)) (-1 : Int32) hq hP hD hS (lv_sub hl [0, 1, 2, 3] rfl)
    · have hq := kite_f c9 hq
      refine lv_iconst (v := 1) hx hb dX8_meet_99 (by decide) ?_
      refine lv_goto (tgt := 104) hx hb dX8_meet_100 (by decide) ?_
      exact b_104  _ _ _ mside r x2 x4 (r (((10 : Int32) + x2).toNatClampNeg)) (1 : Int32) hq hP hD hS (lv_sub hl [0, 1, 2, 3] rfl)
  have b_74 : ∀ (H : Heap) (locs : List Loc) (ls : Array Slot) (mside : kF) (r : kF) (k0 : Int32), fn_X8_meet_74 mside r k0 = some o → va_P D vwCl [(aM, .inr (7, [.int mref, .ref aMtext, .int msize, .ref aMnow, .ref aMtrial, .ref aMdiary, .int macts, .ref aMkept, .ref aMisKept, .ref aMside, .ref aMwas, .int mspot, .int mout])), (aMside, .inl (cI 0, 10, .inl mside)), (aR, .inl (cI 0, 79, .inl r))] H → va_D A [(aM, .inr (7, [.int mref, .ref aMtext, .int msize, .ref aMnow, .ref aMtrial, .ref aMdiary, .int macts, .ref aMkept, .ref aMisKept, .ref aMside, .ref aMwas, .int mspot, .int mout])), (aMside, .inl (cI 0, 10, .inl mside)), (aR, .inl (cI 0, 79, .inl r))] → va_S A s.heap H locs → lv_has ls 6 [] → W p l e { frames := 2, cells := 0, slots := 0, locals := 42 } s m args below meth c H locs 0 0 Q (F0 m 74 ls [.int k0]) := by
    intro H locs ls mside r k0
    intro hq hP hD hS hl
    have ho := Option.some.inj hq
    subst ho
    exact hend _ _ _ _ hP hS dX8_meet_74
  have b_54 : ∀ (H : Heap) (locs : List Loc) (ls : Array Slot) (mside : kF) (r : kF) (x4 : Int32) (k1 : Int32) (k2 : Int32), fn_X8_meet_54 mside r x4 k1 k2 = some o → va_P D vwCl [(aM, .inr (7, [.int mref, .ref aMtext, .int msize, .ref aMnow, .ref aMtrial, .ref aMdiary, .int macts, .ref aMkept, .ref aMisKept, .ref aMside, .ref aMwas, .int mspot, .int mout])), (aMside, .inl (cI 0, 10, .inl mside)), (aR, .inl (cI 0, 79, .inl r))] H → va_D A [(aM, .inr (7, [.int mref, .ref aMtext, .int msize, .ref aMnow, .ref aMtrial, .ref aMdiary, .int macts, .ref aMkept, .ref aMisKept, .ref aMside, .ref aMwas, .int mspot, .int mout])), (aMside, .inl (cI 0, 10, .inl mside)), (aR, .inl (cI 0, 79, .inl r))] → va_S A s.heap H locs → lv_has ls 6 [(4, .int x4)] → W p l e { frames := 2, cells := 0, slots := 0, locals := 42 } s m args below meth c H locs 0 0 Q (F0 m 54 ls [.int k2, .int k1, .ref aMside]) := by
    intro H locs ls mside r x4 k1 k2
    intro hq hP hD hS hl
    obtain ⟨hz, hq⟩ := kite_n hq
    refine k_iast (j := (k1.toNatClampNeg)) hx hb hK.1 hP hD hS 1 0 rfl rfl hz rfl dX8_meet_54 (fun H locs hP hD hS => ?_)
    have hP : va_P D vwCl [(aM, .inr (7, [.int mref, .ref aMtext, .int msize, .ref aMnow, .ref aMtrial, .ref aMdiary, .int macts, .ref aMkept, .ref aMisKept, .ref aMside, .ref aMwas, .int mspot, .int mout])), (aMside, .inl (cI 0, 10, .inl (upd mside (k1.toNatClampNeg) k2))), (aR, .inl (cI 0, 79, .inl r))] H := hP
    have hD : va_D A [(aM, .inr (7, [.int mref, .ref aMtext, .int msize, .ref aMnow, .ref aMtrial, .ref aMdiary, .int macts, .ref aMkept, .ref aMisKept, .ref aMside, .ref aMwas, .int mspot, .int mout])), (aMside, .inl (cI 0, 10, .inl (upd mside (k1.toNatClampNeg) k2))), (aR, .inl (cI 0, 79, .inl r))] := hD
    refine lv_iload hx hb dX8_meet_55 (lv_at hl 0 rfl) ?_
    refine lv_if_le (tgt := 64) hx hb dX8_meet_57 (by decide) (fun c9 => ?_) (fun c9 => ?_)
    · have hq := kite_t c9 hq
      refine lv_iload hx hb dX8_meet_64 (lv_at hl 0 rfl) ?_
      refine lv_if_ge (tgt := 73) hx hb dX8_meet_66 (by decide) (fun c9 => ?_) (fun c9 => ?_)
      · have hq := kite_t c9 hq
        refine lv_iconst (v := 0) hx hb dX8_meet_73 (by decide) ?_
        exact b_74  _ _ _ (upd mside (k1.toNatClampNeg) k2) r (0 : Int32) hq hP hD hS (lv_sub hl [] rfl)
      · have hq := kite_f c9 hq
        refine lv_iconst (v := 1) hx hb dX8_meet_69 (by decide) ?_
        refine lv_goto (tgt := 74) hx hb dX8_meet_70 (by decide) ?_
        exact b_74  _ _ _ (upd mside (k1.toNatClampNeg) k2) r (1 : Int32) hq hP hD hS (lv_sub hl [] rfl)
    · have hq := kite_f c9 hq
      refine lv_iconst (v := (-1)) hx hb dX8_meet_60 (by decide) ?_
      refine lv_goto (tgt := 74) hx hb dX8_meet_61 (by decide) ?_
      exact b_74  _ _ _ (upd mside (k1.toNatClampNeg) k2) r (-1 : Int32) hq hP hD hS (lv_sub hl [] rfl)
  refine lv_aload_n hx hb dX8_meet_0 rfl (lv_at hl 1 rfl) ?_
  refine lv_iload_n hx hb dX8_meet_1 rfl (lv_at hl 2 rfl) ?_
  obtain ⟨o2, ho2, hq⟩ := kbind hq
  refine kc_Si (av := [.ref aR, .int x2]) (rest := []) hF hK hG hA (mk_X8_boardOf l D cI aR s.heap.size r x2 o2 ho2) (va_cwS 2 hts gX8_meet_X8_boardOf rfl rfl rfl (by decide +kernel) ⟨Nat.le_of_ble_eq_true rfl, Nat.le_of_ble_eq_true rfl⟩) hP hD hS [2] (by decide) rfl rfl rfl hl.1 rfl (Nat.le_of_ble_eq_true rfl) ⟨Nat.zero_le _, Nat.zero_le _⟩ dX8_meet_2 (fun H locs hP hD hS => ?_)
  have hP : va_P D vwCl [(aM, .inr (7, [.int mref, .ref aMtext, .int msize, .ref aMnow, .ref aMtrial, .ref aMdiary, .int macts, .ref aMkept, .ref aMisKept, .ref aMside, .ref aMwas, .int mspot, .int mout])), (aMside, .inl (cI 0, 10, .inl mside)), (aR, .inl (cI 0, 79, .inl r))] H := hP
  have hD : va_D A [(aM, .inr (7, [.int mref, .ref aMtext, .int msize, .ref aMnow, .ref aMtrial, .ref aMdiary, .int macts, .ref aMkept, .ref aMisKept, .ref aMside, .ref aMwas, .int mspot, .int mout])), (aMside, .inl (cI 0, 10, .inl mside)), (aR, .inl (cI 0, 79, .inl r))] := hD
  refine lv_iload_n hx hb dX8_meet_5 rfl (lv_at hl 3 rfl) ?_
  refine lv_isub hx hb dX8_meet_6 ?_
  refine lv_istore (lv' := [(4, .int (o2 - x3)), (0, .ref aM), (1, .ref aR), (2, .int x2), (3, .int x3)]) hx hb dX8_meet_7 hl (by decide) rfl (fun ls hl => ?_)
  refine lv_iload hx hb dX8_meet_9 (lv_at hl 0 rfl) ?_
  refine lv_i2l (v := ((o2 - x3)).toInt64) hx hb dX8_meet_11 rfl ?_
  refine lv_ldc2 (v := (-3)) hx hb hown (hts (.constantLong RX8 69 (-3 : Int64)) (by decide +kernel)) dX8_meet_12 ?_
  refine lv_ldc2 (v := 3) hx hb hown (hts (.constantLong RX8 71 (3 : Int64)) (by decide +kernel)) dX8_meet_15 ?_
  obtain ⟨o18, ho18, hq⟩ := kbind hq
  refine kc_Si (av := [.long (((o2 - x3)).toInt64), .long (-3 : Int64), .long (3 : Int64)]) (rest := []) hF hK hG hA (mk_X8_in l D cI H.size (((o2 - x3)).toInt64) (-3 : Int64) (3 : Int64) o18 ho18) (va_cwS 3 hts gX8_meet_X8_in rfl rfl rfl (by decide +kernel) ⟨Nat.le_of_ble_eq_true rfl, Nat.le_of_ble_eq_true rfl⟩) hP hD hS [] (by decide) rfl rfl rfl hl.1 rfl (Nat.le_of_ble_eq_true rfl) ⟨Nat.zero_le _, Nat.zero_le _⟩ dX8_meet_18 (fun H locs hP hD hS => ?_)
  have hP : va_P D vwCl [(aM, .inr (7, [.int mref, .ref aMtext, .int msize, .ref aMnow, .ref aMtrial, .ref aMdiary, .int macts, .ref aMkept, .ref aMisKept, .ref aMside, .ref aMwas, .int mspot, .int mout])), (aMside, .inl (cI 0, 10, .inl mside)), (aR, .inl (cI 0, 79, .inl r))] H := hP
  have hD : va_D A [(aM, .inr (7, [.int mref, .ref aMtext, .int msize, .ref aMnow, .ref aMtrial, .ref aMdiary, .int macts, .ref aMkept, .ref aMisKept, .ref aMside, .ref aMwas, .int mspot, .int mout])), (aMside, .inl (cI 0, 10, .inl mside)), (aR, .inl (cI 0, 79, .inl r))] := hD
  refine lv_if_eq (tgt := 75) hx hb dX8_meet_21 (by decide) (fun c9 => ?_) (fun c9 => ?_)
  · have hq := kite_t c9 hq
    refine lv_iload hx hb dX8_meet_75 (lv_at hl 0 rfl) ?_
    refine lv_iconst (v := 4) hx hb dX8_meet_77 (by decide) ?_
    refine lv_icmp_eq (tgt := 88) hx hb dX8_meet_78 (by decide) (fun c9 => ?_) (fun c9 => ?_)
    · have hq := kite_t c9 hq
      exact b_88  _ _ _ mside r x2 (o2 - x3) hq hP hD hS (lv_sub hl [1, 2, 3, 0] rfl)
    · have hq := kite_f c9 hq
      refine lv_iload hx hb dX8_meet_81 (lv_at hl 0 rfl) ?_
      refine lv_bipush (v := (-4)) hx hb dX8_meet_83 (by decide) ?_
      refine lv_icmp_ne (tgt := 156) hx hb dX8_meet_85 (by decide) (fun c9 => ?_) (fun c9 => ?_)
      · have hq := kite_f c9 hq
        exact b_156  _ _ _ mside r hq hP hD hS (lv_sub hl [] rfl)
      · have hq := kite_t c9 hq
        exact b_88  _ _ _ mside r x2 (o2 - x3) hq hP hD hS (lv_sub hl [1, 2, 3, 0] rfl)
  · have hq := kite_f c9 hq
    refine lv_aload_n hx hb dX8_meet_24 rfl (lv_at hl 2 rfl) ?_
    refine lv_iconst (v := 0) hx hb dX8_meet_25 (by decide) ?_
    refine lv_iload_n hx hb dX8_meet_26 rfl (lv_at hl 3 rfl) ?_
    refine lv_iadd hx hb dX8_meet_27 ?_
    refine lv_iconst (v := 4) hx hb dX8_meet_28 (by decide) ?_
    obtain ⟨hz, hq⟩ := kite_n hq
    refine k_iast (j := (((0 : Int32) + x2).toNatClampNeg)) hx hb hK.1 hP hD hS 2 0 rfl rfl hz rfl dX8_meet_29 (fun H locs hP hD hS => ?_)
    have hP : va_P D vwCl [(aM, .inr (7, [.int mref, .ref aMtext, .int msize, .ref aMnow, .ref aMtrial, .ref aMdiary, .int macts, .ref aMkept, .ref aMisKept, .ref aMside, .ref aMwas, .int mspot, .int mout])), (aMside, .inl (cI 0, 10, .inl mside)), (aR, .inl (cI 0, 79, .inl (upd r (((0 : Int32) + x2).toNatClampNeg) (4 : Int32))))] H := hP
    have hD : va_D A [(aM, .inr (7, [.int mref, .ref aMtext, .int msize, .ref aMnow, .ref aMtrial, .ref aMdiary, .int macts, .ref aMkept, .ref aMisKept, .ref aMside, .ref aMwas, .int mspot, .int mout])), (aMside, .inl (cI 0, 10, .inl mside)), (aR, .inl (cI 0, 79, .inl (upd r (((0 : Int32) + x2).toNatClampNeg) (4 : Int32))))] := hD
    refine lv_aload_n hx hb dX8_meet_30 rfl (lv_at hl 1 rfl) ?_
    refine va_get (D := D) (ci := 7) (v := .ref aMside) (C := RX8) (T := TX8) (N := 13) hx hb hts iw_X8_meet_X8 hown hK.1 hP 0 rfl rfl 9 (by decide) (hts (.fieldLink RX8 29 "PinDeckModel" "side" "[I") (by decide +kernel)) (fun _ h9 => h9) rfl dX8_meet_31 ?_
    refine lv_iload_n hx hb dX8_meet_34 rfl (lv_at hl 3 rfl) ?_
    refine lv_iload hx hb dX8_meet_35 (lv_at hl 0 rfl) ?_
    refine lv_if_le (tgt := 44) hx hb dX8_meet_37 (by decide) (fun c9 => ?_) (fun c9 => ?_)
    · have hq := kite_t c9 hq
      refine lv_iload hx hb dX8_meet_44 (lv_at hl 0 rfl) ?_
      refine lv_if_ge (tgt := 53) hx hb dX8_meet_46 (by decide) (fun c9 => ?_) (fun c9 => ?_)
      · have hq := kite_t c9 hq
        refine lv_iconst (v := 3) hx hb dX8_meet_53 (by decide) ?_
        exact b_54  _ _ _ mside (upd r (((0 : Int32) + x2).toNatClampNeg) (4 : Int32)) (o2 - x3) x2 (3 : Int32) hq hP hD hS (lv_sub hl [0] rfl)
      · have hq := kite_f c9 hq
        refine lv_iconst (v := 1) hx hb dX8_meet_49 (by decide) ?_
        refine lv_goto (tgt := 54) hx hb dX8_meet_50 (by decide) ?_
        exact b_54  _ _ _ mside (upd r (((0 : Int32) + x2).toNatClampNeg) (4 : Int32)) (o2 - x3) x2 (1 : Int32) hq hP hD hS (lv_sub hl [0] rfl)
    · have hq := kite_f c9 hq
      refine lv_iconst (v := 2) hx hb dX8_meet_40 (by decide) ?_
      refine lv_goto (tgt := 54) hx hb dX8_meet_41 (by decide) ?_
      exact b_54  _ _ _ mside (upd r (((0 : Int32) + x2).toNatClampNeg) (4 : Int32)) (o2 - x3) x2 (2 : Int32) hq hP hD hS (lv_sub hl [0] rfl)

theorem iw_X8_pushFrom_X8 : ∀ w ∈ wsX80, w ∈ wsX8_pushFrom := by decide +kernel
set_option maxHeartbeats 4000000 in
set_option maxRecDepth 100000 in
theorem mk_X8_pushFrom (l : Launch) (D : va_G) (cI : Nat → ClassId) (aM aMtext aMnow aMtrial aMdiary aMkept aMisKept aMside aMwas aR : Nat) (sz : Nat) (mref : Int32) (msize : Int32) (macts : Int32) (mspot : Int32) (mout : Int32) (mside : kF) (r : kF) (x2 : Int32) (o : kF × kF) (hq : fn_X8_pushFrom mside r x2 = some o) : Met l yX8_pushFrom wsX8_pushFrom ({ frames := 1, cells := 0, slots := 0, locals := 24 }) (kPc D cI [(aM, .inr (7, [.int mref, .ref aMtext, .int msize, .ref aMnow, .ref aMtrial, .ref aMdiary, .int macts, .ref aMkept, .ref aMisKept, .ref aMside, .ref aMwas, .int mspot, .int mout])), (aMside, .inl (cI 0, 10, .inl mside)), (aR, .inl (cI 0, 79, .inl r))] sz [.ref aM, .ref aR, .int x2]) (kQv D [(aM, .inr (7, [.int mref, .ref aMtext, .int msize, .ref aMnow, .ref aMtrial, .ref aMdiary, .int macts, .ref aMkept, .ref aMisKept, .ref aMside, .ref aMwas, .int mspot, .int mout])), (aMside, .inl (cI 0, 10, .inl mside)), (aR, .inl (cI 0, 79, .inl r))] [(aM, .inr (7, [.int mref, .ref aMtext, .int msize, .ref aMnow, .ref aMtrial, .ref aMdiary, .int macts, .ref aMkept, .ref aMisKept, .ref aMside, .ref aMwas, .int mspot, .int mout])), (aMside, .inl (cI 0, 10, .inl o.1)), (aR, .inl (cI 0, 79, .inl o.2))] sz) 0 0 (va_A [(aM, .inr (7, [.int mref, .ref aMtext, .int msize, .ref aMnow, .ref aMtrial, .ref aMdiary, .int macts, .ref aMkept, .ref aMisKept, .ref aMside, .ref aMwas, .int mspot, .int mout])), (aMside, .inl (cI 0, 10, .inl mside)), (aR, .inl (cI 0, 79, .inl r))] sz) := by
  refine kM_v (cc := cX8_pushFrom) (maxL := 5) (by decide +kernel) rfl (Nat.le_of_ble_eq_true rfl) ?_
  intro p e s m args below meth c A Q hF hK hG hD hA hend ls hP hS hl
  obtain ⟨hx, hb, hml, hown, hts⟩ := id hF
  have hl : lv_has ls 5 [(0, .ref aM), (1, .ref aR), (2, .int x2)] := hl
  have b_84 : ∀ (H : Heap) (locs : List Loc) (ls : Array Slot) (mside : kF) (r : kF), fn_X8_pushFrom_84 mside r = some o → va_P D vwCl [(aM, .inr (7, [.int mref, .ref aMtext, .int msize, .ref aMnow, .ref aMtrial, .ref aMdiary, .int macts, .ref aMkept, .ref aMisKept, .ref aMside, .ref aMwas, .int mspot, .int mout])), (aMside, .inl (cI 0, 10, .inl mside)), (aR, .inl (cI 0, 79, .inl r))] H → va_D A [(aM, .inr (7, [.int mref, .ref aMtext, .int msize, .ref aMnow, .ref aMtrial, .ref aMdiary, .int macts, .ref aMkept, .ref aMisKept, .ref aMside, .ref aMwas, .int mspot, .int mout])), (aMside, .inl (cI 0, 10, .inl mside)), (aR, .inl (cI 0, 79, .inl r))] → va_S A s.heap H locs → lv_has ls 5 [] → W p l e { frames := 1, cells := 0, slots := 0, locals := 24 } s m args below meth c H locs 0 0 Q (F0 m 84 ls []) := by
    intro H locs ls mside r
    intro hq hP hD hS hl
    have ho := Option.some.inj hq
    subst ho
    exact hend _ _ _ _ hP hS dX8_pushFrom_84
  have b_50 : ∀ (H : Heap) (locs : List Loc) (ls : Array Slot) (mside : kF) (r : kF) (x2 : Int32) (x4 : Int32), fn_X8_pushFrom_50 mside r x2 x4 = some o → va_P D vwCl [(aM, .inr (7, [.int mref, .ref aMtext, .int msize, .ref aMnow, .ref aMtrial, .ref aMdiary, .int macts, .ref aMkept, .ref aMisKept, .ref aMside, .ref aMwas, .int mspot, .int mout])), (aMside, .inl (cI 0, 10, .inl mside)), (aR, .inl (cI 0, 79, .inl r))] H → va_D A [(aM, .inr (7, [.int mref, .ref aMtext, .int msize, .ref aMnow, .ref aMtrial, .ref aMdiary, .int macts, .ref aMkept, .ref aMisKept, .ref aMside, .ref aMwas, .int mspot, .int mout])), (aMside, .inl (cI 0, 10, .inl mside)), (aR, .inl (cI 0, 79, .inl r))] → va_S A s.heap H locs → lv_has ls 5 [(0, .ref aM), (1, .ref aR), (2, .int x2), (4, .int x4)] → W p l e { frames := 1, cells := 0, slots := 0, locals := 24 } s m args below meth c H locs 0 0 Q (F0 m 50 ls []) := by
    intro H locs ls mside r x2 x4
    intro hq hP hD hS hl
    refine lv_aload_n hx hb dX8_pushFrom_50 rfl (lv_at hl 0 rfl) ?_
    refine va_get (D := D) (ci := 7) (v := .ref aMside) (C := RX8) (T := TX8) (N := 13) hx hb hts iw_X8_pushFrom_X8 hown hK.1 hP 0 rfl rfl 9 (by decide) (hts (.fieldLink RX8 29 "PinDeckModel" "side" "[I") (by decide +kernel)) (fun _ h9 => h9) rfl dX8_pushFrom_51 ?_
    refine lv_iload_n hx hb dX8_pushFrom_54 rfl (lv_at hl 2 rfl) ?_
    obtain ⟨hz, hq⟩ := kite_n hq
    refine k_iald (j := (x2.toNatClampNeg)) hx hb hK.1 hP 1 0 rfl rfl hz rfl dX8_pushFrom_55 ?_
    refine lv_iconst (v := 2) hx hb dX8_pushFrom_56 (by decide) ?_
    refine lv_iand hx hb dX8_pushFrom_57 ?_
    refine lv_if_le (tgt := 84) hx hb dX8_pushFrom_58 (by decide) (fun c9 => ?_) (fun c9 => ?_)
    · have hq := kite_t c9 hq
      exact b_84  _ _ _ mside r hq hP hD hS (lv_sub hl [] rfl)
    · have hq := kite_f c9 hq
      refine lv_aload_n hx hb dX8_pushFrom_61 rfl (lv_at hl 1 rfl) ?_
      refine lv_iconst (v := 0) hx hb dX8_pushFrom_62 (by decide) ?_
      refine lv_iload hx hb dX8_pushFrom_63 (lv_at hl 3 rfl) ?_
      refine lv_iadd hx hb dX8_pushFrom_65 ?_
      refine lv_iconst (v := 1) hx hb dX8_pushFrom_66 (by decide) ?_
      refine lv_iadd hx hb dX8_pushFrom_67 ?_
      obtain ⟨hz, hq⟩ := kite_n hq
      refine k_iald (j := ((((0 : Int32) + x4) + (1 : Int32)).toNatClampNeg)) hx hb hK.1 hP 2 0 rfl rfl hz rfl dX8_pushFrom_68 ?_
      refine lv_iconst (v := 4) hx hb dX8_pushFrom_69 (by decide) ?_
      refine lv_icmp_eq (tgt := 84) hx hb dX8_pushFrom_70 (by decide) (fun c9 => ?_) (fun c9 => ?_)
      · have hq := kite_t c9 hq
        exact b_84  _ _ _ mside r hq hP hD hS (lv_sub hl [] rfl)
      · have hq := kite_f c9 hq
        refine lv_aload_n hx hb dX8_pushFrom_73 rfl (lv_at hl 0 rfl) ?_
        refine lv_aload_n hx hb dX8_pushFrom_74 rfl (lv_at hl 1 rfl) ?_
        refine lv_iload hx hb dX8_pushFrom_75 (lv_at hl 3 rfl) ?_
        refine lv_iconst (v := 1) hx hb dX8_pushFrom_77 (by decide) ?_
        refine lv_iadd hx hb dX8_pushFrom_78 ?_
        refine lv_iconst (v := 2) hx hb dX8_pushFrom_79 (by decide) ?_
        refine lv_iconst (v := 2) hx hb dX8_pushFrom_80 (by decide) ?_
        obtain ⟨o81, ho81, hq⟩ := kbind hq
        refine kc_Vv (av := [.ref aR, .int (x4 + (1 : Int32)), .int (2 : Int32), .int (2 : Int32)]) (rest := []) hF hK hG hA (mk_X8_leanMore l D cI aM aMtext aMnow aMtrial aMdiary aMkept aMisKept aMside aMwas aR H.size mref msize macts mspot mout mside r (x4 + (1 : Int32)) (2 : Int32) (2 : Int32) o81 ho81) (cwV 4 hts gX8_pushFrom_X8_leanMore rfl rfl rfl (by decide +kernel) ⟨Nat.le_of_ble_eq_true rfl, Nat.le_of_ble_eq_true rfl⟩) hP hD hS [0, 1, 2] (by decide) rfl rfl 0 rfl rfl rfl hl.1 rfl (Nat.le_of_ble_eq_true rfl) ⟨Nat.zero_le _, Nat.zero_le _⟩ dX8_pushFrom_81 (fun H locs hP hD hS => ?_)
        have hP : va_P D vwCl [(aM, .inr (7, [.int mref, .ref aMtext, .int msize, .ref aMnow, .ref aMtrial, .ref aMdiary, .int macts, .ref aMkept, .ref aMisKept, .ref aMside, .ref aMwas, .int mspot, .int mout])), (aMside, .inl (cI 0, 10, .inl o81.1)), (aR, .inl (cI 0, 79, .inl o81.2))] H := hP
        have hD : va_D A [(aM, .inr (7, [.int mref, .ref aMtext, .int msize, .ref aMnow, .ref aMtrial, .ref aMdiary, .int macts, .ref aMkept, .ref aMisKept, .ref aMside, .ref aMwas, .int mspot, .int mout])), (aMside, .inl (cI 0, 10, .inl o81.1)), (aR, .inl (cI 0, 79, .inl o81.2))] := hD
        exact b_84  _ _ _ o81.1 o81.2 hq hP hD hS (lv_sub hl [] rfl)
  refine lv_iload_n hx hb dX8_pushFrom_0 rfl (lv_at hl 2 rfl) ?_
  obtain ⟨o1, ho1, hq⟩ := kbind hq
  refine kc_Si (av := [.int x2]) (rest := []) hF hK hG hA (mk_X8_rowOf l D cI s.heap.size x2 o1 ho1) (va_cwS 1 hts gX8_pushFrom_X8_rowOf rfl rfl rfl (by decide +kernel) ⟨Nat.le_of_ble_eq_true rfl, Nat.le_of_ble_eq_true rfl⟩) hP hD hS [] (by decide) rfl rfl rfl hl.1 rfl (Nat.le_of_ble_eq_true rfl) ⟨Nat.zero_le _, Nat.zero_le _⟩ dX8_pushFrom_1 (fun H locs hP hD hS => ?_)
  have hP : va_P D vwCl [(aM, .inr (7, [.int mref, .ref aMtext, .int msize, .ref aMnow, .ref aMtrial, .ref aMdiary, .int macts, .ref aMkept, .ref aMisKept, .ref aMside, .ref aMwas, .int mspot, .int mout])), (aMside, .inl (cI 0, 10, .inl mside)), (aR, .inl (cI 0, 79, .inl r))] H := hP
  have hD : va_D A [(aM, .inr (7, [.int mref, .ref aMtext, .int msize, .ref aMnow, .ref aMtrial, .ref aMdiary, .int macts, .ref aMkept, .ref aMisKept, .ref aMside, .ref aMwas, .int mspot, .int mout])), (aMside, .inl (cI 0, 10, .inl mside)), (aR, .inl (cI 0, 79, .inl r))] := hD
  refine lv_istore_n (lv' := [(3, .int o1), (0, .ref aM), (1, .ref aR), (2, .int x2)]) hx hb dX8_pushFrom_4 rfl hl (by decide) rfl (fun ls hl => ?_)
  refine lv_iload_n hx hb dX8_pushFrom_5 rfl (lv_at hl 0 rfl) ?_
  refine lv_iconst (v := 1) hx hb dX8_pushFrom_6 (by decide) ?_
  refine lv_iadd hx hb dX8_pushFrom_7 ?_
  obtain ⟨o8, ho8, hq⟩ := kbind hq
  refine kc_Si (av := [.int (o1 + (1 : Int32))]) (rest := []) hF hK hG hA (mk_X8_firstOf l D cI H.size (o1 + (1 : Int32)) o8 ho8) (va_cwS 1 hts gX8_pushFrom_X8_firstOf rfl rfl rfl (by decide +kernel) ⟨Nat.le_of_ble_eq_true rfl, Nat.le_of_ble_eq_true rfl⟩) hP hD hS [] (by decide) rfl rfl rfl hl.1 rfl (Nat.le_of_ble_eq_true rfl) ⟨Nat.zero_le _, Nat.zero_le _⟩ dX8_pushFrom_8 (fun H locs hP hD hS => ?_)
  have hP : va_P D vwCl [(aM, .inr (7, [.int mref, .ref aMtext, .int msize, .ref aMnow, .ref aMtrial, .ref aMdiary, .int macts, .ref aMkept, .ref aMisKept, .ref aMside, .ref aMwas, .int mspot, .int mout])), (aMside, .inl (cI 0, 10, .inl mside)), (aR, .inl (cI 0, 79, .inl r))] H := hP
  have hD : va_D A [(aM, .inr (7, [.int mref, .ref aMtext, .int msize, .ref aMnow, .ref aMtrial, .ref aMdiary, .int macts, .ref aMkept, .ref aMisKept, .ref aMside, .ref aMwas, .int mspot, .int mout])), (aMside, .inl (cI 0, 10, .inl mside)), (aR, .inl (cI 0, 79, .inl r))] := hD
  refine lv_iload_n hx hb dX8_pushFrom_11 rfl (lv_at hl 3 rfl) ?_
  refine lv_iadd hx hb dX8_pushFrom_12 ?_
  refine lv_iload_n hx hb dX8_pushFrom_13 rfl (lv_at hl 0 rfl) ?_
  obtain ⟨o14, ho14, hq⟩ := kbind hq
  refine kc_Si (av := [.int o1]) (rest := [.int (o8 + x2)]) hF hK hG hA (mk_X8_firstOf l D cI H.size o1 o14 ho14) (va_cwS 1 hts gX8_pushFrom_X8_firstOf rfl rfl rfl (by decide +kernel) ⟨Nat.le_of_ble_eq_true rfl, Nat.le_of_ble_eq_true rfl⟩) hP hD hS [] (by decide) rfl rfl rfl hl.1 rfl (Nat.le_of_ble_eq_true rfl) ⟨Nat.zero_le _, Nat.zero_le _⟩ dX8_pushFrom_14 (fun H locs hP hD hS => ?_)
  have hP : va_P D vwCl [(aM, .inr (7, [.int mref, .ref aMtext, .int msize, .ref aMnow, .ref aMtrial, .ref aMdiary, .int macts, .ref aMkept, .ref aMisKept, .ref aMside, .ref aMwas, .int mspot, .int mout])), (aMside, .inl (cI 0, 10, .inl mside)), (aR, .inl (cI 0, 79, .inl r))] H := hP
  have hD : va_D A [(aM, .inr (7, [.int mref, .ref aMtext, .int msize, .ref aMnow, .ref aMtrial, .ref aMdiary, .int macts, .ref aMkept, .ref aMisKept, .ref aMside, .ref aMwas, .int mspot, .int mout])), (aMside, .inl (cI 0, 10, .inl mside)), (aR, .inl (cI 0, 79, .inl r))] := hD
  refine lv_isub hx hb dX8_pushFrom_17 ?_
  refine lv_istore (lv' := [(4, .int ((o8 + x2) - o14)), (3, .int o1), (0, .ref aM), (1, .ref aR), (2, .int x2)]) hx hb dX8_pushFrom_18 hl (by decide) rfl (fun ls hl => ?_)
  refine lv_aload_n hx hb dX8_pushFrom_20 rfl (lv_at hl 2 rfl) ?_
  refine va_get (D := D) (ci := 7) (v := .ref aMside) (C := RX8) (T := TX8) (N := 13) hx hb hts iw_X8_pushFrom_X8 hown hK.1 hP 0 rfl rfl 9 (by decide) (hts (.fieldLink RX8 29 "PinDeckModel" "side" "[I") (by decide +kernel)) (fun _ h9 => h9) rfl dX8_pushFrom_21 ?_
  refine lv_iload_n hx hb dX8_pushFrom_24 rfl (lv_at hl 4 rfl) ?_
  obtain ⟨hz, hq⟩ := kite_n hq
  refine k_iald (j := (x2.toNatClampNeg)) hx hb hK.1 hP 1 0 rfl rfl hz rfl dX8_pushFrom_25 ?_
  refine lv_iconst (v := 1) hx hb dX8_pushFrom_26 (by decide) ?_
  refine lv_iand hx hb dX8_pushFrom_27 ?_
  refine lv_if_le (tgt := 50) hx hb dX8_pushFrom_28 (by decide) (fun c9 => ?_) (fun c9 => ?_)
  · have hq := kite_t c9 hq
    exact b_50  _ _ _ mside r x2 ((o8 + x2) - o14) hq hP hD hS (lv_sub hl [2, 3, 4, 0] rfl)
  · have hq := kite_f c9 hq
    refine lv_aload_n hx hb dX8_pushFrom_31 rfl (lv_at hl 3 rfl) ?_
    refine lv_iconst (v := 0) hx hb dX8_pushFrom_32 (by decide) ?_
    refine lv_iload hx hb dX8_pushFrom_33 (lv_at hl 0 rfl) ?_
    refine lv_iadd hx hb dX8_pushFrom_35 ?_
    obtain ⟨hz, hq⟩ := kite_n hq
    refine k_iald (j := (((0 : Int32) + ((o8 + x2) - o14)).toNatClampNeg)) hx hb hK.1 hP 2 0 rfl rfl hz rfl dX8_pushFrom_36 ?_
    refine lv_iconst (v := 4) hx hb dX8_pushFrom_37 (by decide) ?_
    refine lv_icmp_eq (tgt := 50) hx hb dX8_pushFrom_38 (by decide) (fun c9 => ?_) (fun c9 => ?_)
    · have hq := kite_t c9 hq
      exact b_50  _ _ _ mside r x2 ((o8 + x2) - o14) hq hP hD hS (lv_sub hl [2, 3, 4, 0] rfl)
    · have hq := kite_f c9 hq
      refine lv_aload_n hx hb dX8_pushFrom_41 rfl (lv_at hl 2 rfl) ?_
      refine lv_aload_n hx hb dX8_pushFrom_42 rfl (lv_at hl 3 rfl) ?_
      refine lv_iload hx hb dX8_pushFrom_43 (lv_at hl 0 rfl) ?_
      refine lv_iconst (v := 2) hx hb dX8_pushFrom_45 (by decide) ?_
      refine lv_iconst (v := 1) hx hb dX8_pushFrom_46 (by decide) ?_
      obtain ⟨o47, ho47, hq⟩ := kbind hq
      refine kc_Vv (av := [.ref aR, .int ((o8 + x2) - o14), .int (2 : Int32), .int (1 : Int32)]) (rest := []) hF hK hG hA (mk_X8_leanMore l D cI aM aMtext aMnow aMtrial aMdiary aMkept aMisKept aMside aMwas aR H.size mref msize macts mspot mout mside r ((o8 + x2) - o14) (2 : Int32) (1 : Int32) o47 ho47) (cwV 4 hts gX8_pushFrom_X8_leanMore rfl rfl rfl (by decide +kernel) ⟨Nat.le_of_ble_eq_true rfl, Nat.le_of_ble_eq_true rfl⟩) hP hD hS [0, 1, 2] (by decide) rfl rfl 0 rfl rfl rfl hl.1 rfl (Nat.le_of_ble_eq_true rfl) ⟨Nat.zero_le _, Nat.zero_le _⟩ dX8_pushFrom_47 (fun H locs hP hD hS => ?_)
      have hP : va_P D vwCl [(aM, .inr (7, [.int mref, .ref aMtext, .int msize, .ref aMnow, .ref aMtrial, .ref aMdiary, .int macts, .ref aMkept, .ref aMisKept, .ref aMside, .ref aMwas, .int mspot, .int mout])), (aMside, .inl (cI 0, 10, .inl o47.1)), (aR, .inl (cI 0, 79, .inl o47.2))] H := hP
      have hD : va_D A [(aM, .inr (7, [.int mref, .ref aMtext, .int msize, .ref aMnow, .ref aMtrial, .ref aMdiary, .int macts, .ref aMkept, .ref aMisKept, .ref aMside, .ref aMwas, .int mspot, .int mout])), (aMside, .inl (cI 0, 10, .inl o47.1)), (aR, .inl (cI 0, 79, .inl o47.2))] := hD
      exact b_50  _ _ _ o47.1 o47.2 x2 ((o8 + x2) - o14) hq hP hD hS (lv_sub hl [2, 3, 4, 0] rfl)

theorem iw_X8_ball_X8 : ∀ w ∈ wsX80, w ∈ wsX8_ball := by decide +kernel
set_option maxHeartbeats 4000000 in
set_option maxRecDepth 100000 in
theorem mk_X8_ball (l : Launch) (D : va_G) (cI : Nat → ClassId) (aM aMtext aMnow aMtrial aMdiary aMkept aMisKept aMside aMwas aR : Nat) (sz : Nat) (mref : Int32) (msize : Int32) (macts : Int32) (mspot : Int32) (mout : Int32) (mside : kF) (r : kF) (x2 : Int32) (x3 : Int32) (o : kF × kF) (hq : fn_X8_ball mside r x2 x3 = some o) : Met l yX8_ball wsX8_ball ({ frames := 3, cells := 0, slots := 0, locals := 67 }) (kPc D cI [(aM, .inr (7, [.int mref, .ref aMtext, .int msize, .ref aMnow, .ref aMtrial, .ref aMdiary, .int macts, .ref aMkept, .ref aMisKept, .ref aMside, .ref aMwas, .int mspot, .int mout])), (aMside, .inl (cI 0, 10, .inl mside)), (aR, .inl (cI 0, 79, .inl r))] sz [.ref aM, .ref aR, .int x2, .int x3]) (kQv D [(aM, .inr (7, [.int mref, .ref aMtext, .int msize, .ref aMnow, .ref aMtrial, .ref aMdiary, .int macts, .ref aMkept, .ref aMisKept, .ref aMside, .ref aMwas, .int mspot, .int mout])), (aMside, .inl (cI 0, 10, .inl mside)), (aR, .inl (cI 0, 79, .inl r))] [(aM, .inr (7, [.int mref, .ref aMtext, .int msize, .ref aMnow, .ref aMtrial, .ref aMdiary, .int macts, .ref aMkept, .ref aMisKept, .ref aMside, .ref aMwas, .int mspot, .int mout])), (aMside, .inl (cI 0, 10, .inl o.1)), (aR, .inl (cI 0, 79, .inl o.2))] sz) 0 0 (va_A [(aM, .inr (7, [.int mref, .ref aMtext, .int msize, .ref aMnow, .ref aMtrial, .ref aMdiary, .int macts, .ref aMkept, .ref aMisKept, .ref aMside, .ref aMwas, .int mspot, .int mout])), (aMside, .inl (cI 0, 10, .inl mside)), (aR, .inl (cI 0, 79, .inl r))] sz) := by
  refine kM_v (cc := cX8_ball) (maxL := 8) (by decide +kernel) rfl (Nat.le_of_ble_eq_true rfl) ?_
  intro p e s m args below meth c A Q hF hK hG hD hA hend ls hP hS hl
  obtain ⟨hx, hb, hml, hown, hts⟩ := id hF
  have hl : lv_has ls 8 [(0, .ref aM), (1, .ref aR), (2, .int x2), (3, .int x3)] := hl
  have b_134 : ∀ (q30 : kF → kF → Int32 → Int32 → Int32 → Int32 → Option (kF × kF)), (∀ (H : Heap) (locs : List Loc) (ls : Array Slot) (mside : kF) (r : kF) (x2 : Int32) (x3 : Int32) (x4 : Int32) (x5 : Int32), q30 mside r x2 x3 x4 x5 = some o → va_P D vwCl [(aM, .inr (7, [.int mref, .ref aMtext, .int msize, .ref aMnow, .ref aMtrial, .ref aMdiary, .int macts, .ref aMkept, .ref aMisKept, .ref aMside, .ref aMwas, .int mspot, .int mout])), (aMside, .inl (cI 0, 10, .inl mside)), (aR, .inl (cI 0, 79, .inl r))] H → va_D A [(aM, .inr (7, [.int mref, .ref aMtext, .int msize, .ref aMnow, .ref aMtrial, .ref aMdiary, .int macts, .ref aMkept, .ref aMisKept, .ref aMside, .ref aMwas, .int mspot, .int mout])), (aMside, .inl (cI 0, 10, .inl mside)), (aR, .inl (cI 0, 79, .inl r))] → va_S A s.heap H locs → lv_has ls 8 [(0, .ref aM), (1, .ref aR), (2, .int x2), (3, .int x3), (4, .int x4), (5, .int x5)] → W p l e { frames := 3, cells := 0, slots := 0, locals := 67 } s m args below meth c H locs 0 0 Q (F0 m 30 ls [])) → ∀ (H : Heap) (locs : List Loc) (ls : Array Slot) (mside : kF) (r : kF) (x2 : Int32) (x3 : Int32) (x4 : Int32) (x5 : Int32), fn_X8_ball_134 q30 mside r x2 x3 x4 x5 = some o → va_P D vwCl [(aM, .inr (7, [.int mref, .ref aMtext, .int msize, .ref aMnow, .ref aMtrial, .ref aMdiary, .int macts, .ref aMkept, .ref aMisKept, .ref aMside, .ref aMwas, .int mspot, .int mout])), (aMside, .inl (cI 0, 10, .inl mside)), (aR, .inl (cI 0, 79, .inl r))] H → va_D A [(aM, .inr (7, [.int mref, .ref aMtext, .int msize, .ref aMnow, .ref aMtrial, .ref aMdiary, .int macts, .ref aMkept, .ref aMisKept, .ref aMside, .ref aMwas, .int mspot, .int mout])), (aMside, .inl (cI 0, 10, .inl mside)), (aR, .inl (cI 0, 79, .inl r))] → va_S A s.heap H locs → lv_has ls 8 [(0, .ref aM), (1, .ref aR), (2, .int x2), (3, .int x3), (4, .int x4), (5, .int x5)] → W p l e { frames := 3, cells := 0, slots := 0, locals := 67 } s m args below meth c H locs 0 0 Q (F0 m 134 ls []) := by
    intro q30 i30
    intro H locs ls mside r x2 x3 x4 x5
    intro hq hP hD hS hl
    refine lv_iinc (v := (x5 + 1)) (lv' := [(5, .int (x5 + 1)), (0, .ref aM), (1, .ref aR), (2, .int x2), (3, .int x3), (4, .int x4)]) hx hb dX8_ball_134 hl (k := 5) rfl rfl (by decide) rfl (fun ls hl => ?_)
    refine lv_goto (tgt := 30) hx hb dX8_ball_137 (by decide) ?_
    exact i30 _ _ _ mside r x2 x3 x4 (x5 + 1) hq hP hD hS (lv_sub hl [1, 2, 3, 4, 5, 0] rfl)
  have b_103 : ∀ (q30 : kF → kF → Int32 → Int32 → Int32 → Int32 → Option (kF × kF)), (∀ (H : Heap) (locs : List Loc) (ls : Array Slot) (mside : kF) (r : kF) (x2 : Int32) (x3 : Int32) (x4 : Int32) (x5 : Int32), q30 mside r x2 x3 x4 x5 = some o → va_P D vwCl [(aM, .inr (7, [.int mref, .ref aMtext, .int msize, .ref aMnow, .ref aMtrial, .ref aMdiary, .int macts, .ref aMkept, .ref aMisKept, .ref aMside, .ref aMwas, .int mspot, .int mout])), (aMside, .inl (cI 0, 10, .inl mside)), (aR, .inl (cI 0, 79, .inl r))] H → va_D A [(aM, .inr (7, [.int mref, .ref aMtext, .int msize, .ref aMnow, .ref aMtrial, .ref aMdiary, .int macts, .ref aMkept, .ref aMisKept, .ref aMside, .ref aMwas, .int mspot, .int mout])), (aMside, .inl (cI 0, 10, .inl mside)), (aR, .inl (cI 0, 79, .inl r))] → va_S A s.heap H locs → lv_has ls 8 [(0, .ref aM), (1, .ref aR), (2, .int x2), (3, .int x3), (4, .int x4), (5, .int x5)] → W p l e { frames := 3, cells := 0, slots := 0, locals := 67 } s m args below meth c H locs 0 0 Q (F0 m 30 ls [])) → ∀ (q : Nat), ∀ (H : Heap) (locs : List Loc) (ls : Array Slot) (mside : kF) (r : kF) (x2 : Int32) (x3 : Int32) (x4 : Int32) (x5 : Int32) (x7 : Int32), fn_X8_ball_103 q30 q mside r x2 x3 x4 x5 x7 = some o → va_P D vwCl [(aM, .inr (7, [.int mref, .ref aMtext, .int msize, .ref aMnow, .ref aMtrial, .ref aMdiary, .int macts, .ref aMkept, .ref aMisKept, .ref aMside, .ref aMwas, .int mspot, .int mout])), (aMside, .inl (cI 0, 10, .inl mside)), (aR, .inl (cI 0, 79, .inl r))] H → va_D A [(aM, .inr (7, [.int mref, .ref aMtext, .int msize, .ref aMnow, .ref aMtrial, .ref aMdiary, .int macts, .ref aMkept, .ref aMisKept, .ref aMside, .ref aMwas, .int mspot, .int mout])), (aMside, .inl (cI 0, 10, .inl mside)), (aR, .inl (cI 0, 79, .inl r))] → va_S A s.heap H locs → lv_has ls 8 [(0, .ref aM), (1, .ref aR), (2, .int x2), (3, .int x3), (4, .int x4), (5, .int x5), (7, .int x7)] → W p l e { frames := 3, cells := 0, slots := 0, locals := 67 } s m args below meth c H locs 0 0 Q (F0 m 103 ls []) := by
    intro q30 i30
    intro q
    induction q with
    | zero =>
      intro H locs ls mside r x2 x3 x4 x5 x7
      intro hq
      cases hq
    | succ q ih =>
      intro H locs ls mside r x2 x3 x4 x5 x7
      intro hq hP hD hS hl
      refine lv_iload hx hb dX8_ball_103 (lv_at hl 6 rfl) ?_
      refine lv_iload hx hb dX8_ball_105 (lv_at hl 5 rfl) ?_
      refine lv_iconst (v := 1) hx hb dX8_ball_107 (by decide) ?_
      refine lv_iadd hx hb dX8_ball_108 ?_
      obtain ⟨o109, ho109, hq⟩ := kbind hq
      refine kc_Si (av := [.int (x5 + (1 : Int32))]) (rest := [.int x7]) hF hK hG hA (mk_X8_firstOf l D cI H.size (x5 + (1 : Int32)) o109 ho109) (va_cwS 1 hts gX8_ball_X8_firstOf rfl rfl rfl (by decide +kernel) ⟨Nat.le_of_ble_eq_true rfl, Nat.le_of_ble_eq_true rfl⟩) hP hD hS [] (by decide) rfl rfl rfl hl.1 rfl (Nat.le_of_ble_eq_true rfl) ⟨Nat.zero_le _, Nat.zero_le _⟩ dX8_ball_109 (fun H locs hP hD hS => ?_)
      have hP : va_P D vwCl [(aM, .inr (7, [.int mref, .ref aMtext, .int msize, .ref aMnow, .ref aMtrial, .ref aMdiary, .int macts, .ref aMkept, .ref aMisKept, .ref aMside, .ref aMwas, .int mspot, .int mout])), (aMside, .inl (cI 0, 10, .inl mside)), (aR, .inl (cI 0, 79, .inl r))] H := hP
      have hD : va_D A [(aM, .inr (7, [.int mref, .ref aMtext, .int msize, .ref aMnow, .ref aMtrial, .ref aMdiary, .int macts, .ref aMkept, .ref aMisKept, .ref aMside, .ref aMwas, .int mspot, .int mout])), (aMside, .inl (cI 0, 10, .inl mside)), (aR, .inl (cI 0, 79, .inl r))] := hD
      refine lv_icmp_ge (tgt := 134) hx hb dX8_ball_112 (by decide) (fun c9 => ?_) (fun c9 => ?_)
      · have hq := kite_t c9 hq
        exact b_134 q30 i30 _ _ _ mside r x2 x3 x4 x5 hq hP hD hS (lv_sub hl [0, 1, 2, 3, 4, 5] rfl)
      · have hq := kite_f c9 hq
        refine lv_iload hx hb dX8_ball_115 (lv_at hl 5 rfl) ?_
        refine lv_iconst (v := 3) hx hb dX8_ball_117 (by decide) ?_
        refine lv_icmp_ge (tgt := 134) hx hb dX8_ball_118 (by decide) (fun c9 => ?_) (fun c9 => ?_)
        · have hq := kite_t c9 hq
          exact b_134 q30 i30 _ _ _ mside r x2 x3 x4 x5 hq hP hD hS (lv_sub hl [0, 1, 2, 3, 4, 5] rfl)
        · have hq := kite_f c9 hq
          refine lv_aload_n hx hb dX8_ball_121 rfl (lv_at hl 0 rfl) ?_
          refine lv_aload_n hx hb dX8_ball_122 rfl (lv_at hl 1 rfl) ?_
          refine lv_iload hx hb dX8_ball_123 (lv_at hl 6 rfl) ?_
          obtain ⟨o125, ho125, hq⟩ := kbind hq
          refine kc_Vv (av := [.ref aR, .int x7]) (rest := []) hF hK hG hA (mk_X8_pushFrom l D cI aM aMtext aMnow aMtrial aMdiary aMkept aMisKept aMside aMwas aR H.size mref msize macts mspot mout mside r x7 o125 ho125) (cwV 2 hts gX8_ball_X8_pushFrom rfl rfl rfl (by decide +kernel) ⟨Nat.le_of_ble_eq_true rfl, Nat.le_of_ble_eq_true rfl⟩) hP hD hS [0, 1, 2] (by decide) rfl rfl 0 rfl rfl rfl hl.1 rfl (Nat.le_of_ble_eq_true rfl) ⟨Nat.zero_le _, Nat.zero_le _⟩ dX8_ball_125 (fun H locs hP hD hS => ?_)
          have hP : va_P D vwCl [(aM, .inr (7, [.int mref, .ref aMtext, .int msize, .ref aMnow, .ref aMtrial, .ref aMdiary, .int macts, .ref aMkept, .ref aMisKept, .ref aMside, .ref aMwas, .int mspot, .int mout])), (aMside, .inl (cI 0, 10, .inl o125.1)), (aR, .inl (cI 0, 79, .inl o125.2))] H := hP
          have hD : va_D A [(aM, .inr (7, [.int mref, .ref aMtext, .int msize, .ref aMnow, .ref aMtrial, .ref aMdiary, .int macts, .ref aMkept, .ref aMisKept, .ref aMside, .ref aMwas, .int mspot, .int mout])), (aMside, .inl (cI 0, 10, .inl o125.1)), (aR, .inl (cI 0, 79, .inl o125.2))] := hD
          refine lv_iinc (v := (x7 + 1)) (lv' := [(7, .int (x7 + 1)), (0, .ref aM), (1, .ref aR), (2, .int x2), (3, .int x3), (4, .int x4), (5, .int x5)]) hx hb dX8_ball_128 hl (k := 6) rfl rfl (by decide) rfl (fun ls hl => ?_)
          refine lv_goto (tgt := 103) hx hb dX8_ball_131 (by decide) ?_
          exact ih _ _ _ o125.1 o125.2 x2 x3 x4 x5 (x7 + 1) hq hP hD hS (lv_sub hl [1, 2, 3, 4, 5, 6, 0] rfl)
  have b_90 : ∀ (q30 : kF → kF → Int32 → Int32 → Int32 → Int32 → Option (kF × kF)), (∀ (H : Heap) (locs : List Loc) (ls : Array Slot) (mside : kF) (r : kF) (x2 : Int32) (x3 : Int32) (x4 : Int32) (x5 : Int32), q30 mside r x2 x3 x4 x5 = some o → va_P D vwCl [(aM, .inr (7, [.int mref, .ref aMtext, .int msize, .ref aMnow, .ref aMtrial, .ref aMdiary, .int macts, .ref aMkept, .ref aMisKept, .ref aMside, .ref aMwas, .int mspot, .int mout])), (aMside, .inl (cI 0, 10, .inl mside)), (aR, .inl (cI 0, 79, .inl r))] H → va_D A [(aM, .inr (7, [.int mref, .ref aMtext, .int msize, .ref aMnow, .ref aMtrial, .ref aMdiary, .int macts, .ref aMkept, .ref aMisKept, .ref aMside, .ref aMwas, .int mspot, .int mout])), (aMside, .inl (cI 0, 10, .inl mside)), (aR, .inl (cI 0, 79, .inl r))] → va_S A s.heap H locs → lv_has ls 8 [(0, .ref aM), (1, .ref aR), (2, .int x2), (3, .int x3), (4, .int x4), (5, .int x5)] → W p l e { frames := 3, cells := 0, slots := 0, locals := 67 } s m args below meth c H locs 0 0 Q (F0 m 30 ls [])) → ∀ (q54 : kF → kF → Int32 → Int32 → Int32 → Int32 → Int32 → Int32 → Option (kF × kF)), (∀ (H : Heap) (locs : List Loc) (ls : Array Slot) (mside : kF) (r : kF) (x2 : Int32) (x3 : Int32) (x4 : Int32) (x5 : Int32) (x6 : Int32) (x7 : Int32), q54 mside r x2 x3 x4 x5 x6 x7 = some o → va_P D vwCl [(aM, .inr (7, [.int mref, .ref aMtext, .int msize, .ref aMnow, .ref aMtrial, .ref aMdiary, .int macts, .ref aMkept, .ref aMisKept, .ref aMside, .ref aMwas, .int mspot, .int mout])), (aMside, .inl (cI 0, 10, .inl mside)), (aR, .inl (cI 0, 79, .inl r))] H → va_D A [(aM, .inr (7, [.int mref, .ref aMtext, .int msize, .ref aMnow, .ref aMtrial, .ref aMdiary, .int macts, .ref aMkept, .ref aMisKept, .ref aMside, .ref aMwas, .int mspot, .int mout])), (aMside, .inl (cI 0, 10, .inl mside)), (aR, .inl (cI 0, 79, .inl r))] → va_S A s.heap H locs → lv_has ls 8 [(0, .ref aM), (1, .ref aR), (2, .int x2), (3, .int x3), (4, .int x4), (5, .int x5), (6, .int x6), (7, .int x7)] → W p l e { frames := 3, cells := 0, slots := 0, locals := 67 } s m args below meth c H locs 0 0 Q (F0 m 54 ls [])) → ∀ (H : Heap) (locs : List Loc) (ls : Array Slot) (mside : kF) (r : kF) (x2 : Int32) (x3 : Int32) (x4 : Int32) (x5 : Int32) (x6 : Int32) (x7 : Int32), fn_X8_ball_90 q30 q54 mside r x2 x3 x4 x5 x6 x7 = some o → va_P D vwCl [(aM, .inr (7, [.int mref, .ref aMtext, .int msize, .ref aMnow, .ref aMtrial, .ref aMdiary, .int macts, .ref aMkept, .ref aMisKept, .ref aMside, .ref aMwas, .int mspot, .int mout])), (aMside, .inl (cI 0, 10, .inl mside)), (aR, .inl (cI 0, 79, .inl r))] H → va_D A [(aM, .inr (7, [.int mref, .ref aMtext, .int msize, .ref aMnow, .ref aMtrial, .ref aMdiary, .int macts, .ref aMkept, .ref aMisKept, .ref aMside, .ref aMwas, .int mspot, .int mout])), (aMside, .inl (cI 0, 10, .inl mside)), (aR, .inl (cI 0, 79, .inl r))] → va_S A s.heap H locs → lv_has ls 8 [(0, .ref aM), (1, .ref aR), (2, .int x2), (3, .int x3), (4, .int x4), (5, .int x5), (6, .int x6), (7, .int x7)] → W p l e { frames := 3, cells := 0, slots := 0, locals := 67 } s m args below meth c H locs 0 0 Q (F0 m 90 ls []) := by
    intro q30 i30 q54 i54
    intro H locs ls mside r x2 x3 x4 x5 x6 x7
    intro hq hP hD hS hl
    refine lv_iinc (v := (x7 + 1)) (lv' := [(7, .int (x7 + 1)), (0, .ref aM), (1, .ref aR), (2, .int x2), (3, .int x3), (4, .int x4), (5, .int x5), (6, .int x6)]) hx hb dX8_ball_90 hl (k := 7) rfl rfl (by decide) rfl (fun ls hl => ?_)
    refine lv_goto (tgt := 54) hx hb dX8_ball_93 (by decide) ?_
    exact i54 _ _ _ mside r x2 x3 x4 x5 x6 (x7 + 1) hq hP hD hS (lv_sub hl [1, 2, 3, 4, 5, 6, 7, 0] rfl)
  have b_54 : ∀ (q30 : kF → kF → Int32 → Int32 → Int32 → Int32 → Option (kF × kF)), (∀ (H : Heap) (locs : List Loc) (ls : Array Slot) (mside : kF) (r : kF) (x2 : Int32) (x3 : Int32) (x4 : Int32) (x5 : Int32), q30 mside r x2 x3 x4 x5 = some o → va_P D vwCl [(aM, .inr (7, [.int mref, .ref aMtext, .int msize, .ref aMnow, .ref aMtrial, .ref aMdiary, .int macts, .ref aMkept, .ref aMisKept, .ref aMside, .ref aMwas, .int mspot, .int mout])), (aMside, .inl (cI 0, 10, .inl mside)), (aR, .inl (cI 0, 79, .inl r))] H → va_D A [(aM, .inr (7, [.int mref, .ref aMtext, .int msize, .ref aMnow, .ref aMtrial, .ref aMdiary, .int macts, .ref aMkept, .ref aMisKept, .ref aMside, .ref aMwas, .int mspot, .int mout])), (aMside, .inl (cI 0, 10, .inl mside)), (aR, .inl (cI 0, 79, .inl r))] → va_S A s.heap H locs → lv_has ls 8 [(0, .ref aM), (1, .ref aR), (2, .int x2), (3, .int x3), (4, .int x4), (5, .int x5)] → W p l e { frames := 3, cells := 0, slots := 0, locals := 67 } s m args below meth c H locs 0 0 Q (F0 m 30 ls [])) → ∀ (q : Nat), ∀ (H : Heap) (locs : List Loc) (ls : Array Slot) (mside : kF) (r : kF) (x2 : Int32) (x3 : Int32) (x4 : Int32) (x5 : Int32) (x6 : Int32) (x7 : Int32), fn_X8_ball_54 q30 q mside r x2 x3 x4 x5 x6 x7 = some o → va_P D vwCl [(aM, .inr (7, [.int mref, .ref aMtext, .int msize, .ref aMnow, .ref aMtrial, .ref aMdiary, .int macts, .ref aMkept, .ref aMisKept, .ref aMside, .ref aMwas, .int mspot, .int mout])), (aMside, .inl (cI 0, 10, .inl mside)), (aR, .inl (cI 0, 79, .inl r))] H → va_D A [(aM, .inr (7, [.int mref, .ref aMtext, .int msize, .ref aMnow, .ref aMtrial, .ref aMdiary, .int macts, .ref aMkept, .ref aMisKept, .ref aMside, .ref aMwas, .int mspot, .int mout])), (aMside, .inl (cI 0, 10, .inl mside)), (aR, .inl (cI 0, 79, .inl r))] → va_S A s.heap H locs → lv_has ls 8 [(0, .ref aM), (1, .ref aR), (2, .int x2), (3, .int x3), (4, .int x4), (5, .int x5), (6, .int x6), (7, .int x7)] → W p l e { frames := 3, cells := 0, slots := 0, locals := 67 } s m args below meth c H locs 0 0 Q (F0 m 54 ls []) := by
    intro q30 i30
    intro q
    induction q with
    | zero =>
      intro H locs ls mside r x2 x3 x4 x5 x6 x7
      intro hq
      cases hq
    | succ q ih =>
      intro H locs ls mside r x2 x3 x4 x5 x6 x7
      intro hq hP hD hS hl
      refine lv_iload hx hb dX8_ball_54 (lv_at hl 7 rfl) ?_
      refine lv_iload hx hb dX8_ball_56 (lv_at hl 5 rfl) ?_
      refine lv_iconst (v := 1) hx hb dX8_ball_58 (by decide) ?_
      refine lv_iadd hx hb dX8_ball_59 ?_
      obtain ⟨o60, ho60, hq⟩ := kbind hq
      refine kc_Si (av := [.int (x5 + (1 : Int32))]) (rest := [.int x7]) hF hK hG hA (mk_X8_firstOf l D cI H.size (x5 + (1 : Int32)) o60 ho60) (va_cwS 1 hts gX8_ball_X8_firstOf rfl rfl rfl (by decide +kernel) ⟨Nat.le_of_ble_eq_true rfl, Nat.le_of_ble_eq_true rfl⟩) hP hD hS [] (by decide) rfl rfl rfl hl.1 rfl (Nat.le_of_ble_eq_true rfl) ⟨Nat.zero_le _, Nat.zero_le _⟩ dX8_ball_60 (fun H locs hP hD hS => ?_)
      have hP : va_P D vwCl [(aM, .inr (7, [.int mref, .ref aMtext, .int msize, .ref aMnow, .ref aMtrial, .ref aMdiary, .int macts, .ref aMkept, .ref aMisKept, .ref aMside, .ref aMwas, .int mspot, .int mout])), (aMside, .inl (cI 0, 10, .inl mside)), (aR, .inl (cI 0, 79, .inl r))] H := hP
      have hD : va_D A [(aM, .inr (7, [.int mref, .ref aMtext, .int msize, .ref aMnow, .ref aMtrial, .ref aMdiary, .int macts, .ref aMkept, .ref aMisKept, .ref aMside, .ref aMwas, .int mspot, .int mout])), (aMside, .inl (cI 0, 10, .inl mside)), (aR, .inl (cI 0, 79, .inl r))] := hD
      refine lv_icmp_ge (tgt := 96) hx hb dX8_ball_63 (by decide) (fun c9 => ?_) (fun c9 => ?_)
      · have hq := kite_t c9 hq
        refine lv_iload hx hb dX8_ball_96 (lv_at hl 5 rfl) ?_
        obtain ⟨o98, ho98, hq⟩ := kbind hq
        refine kc_Si (av := [.int x5]) (rest := []) hF hK hG hA (mk_X8_firstOf l D cI H.size x5 o98 ho98) (va_cwS 1 hts gX8_ball_X8_firstOf rfl rfl rfl (by decide +kernel) ⟨Nat.le_of_ble_eq_true rfl, Nat.le_of_ble_eq_true rfl⟩) hP hD hS [] (by decide) rfl rfl rfl hl.1 rfl (Nat.le_of_ble_eq_true rfl) ⟨Nat.zero_le _, Nat.zero_le _⟩ dX8_ball_98 (fun H locs hP hD hS => ?_)
        have hP : va_P D vwCl [(aM, .inr (7, [.int mref, .ref aMtext, .int msize, .ref aMnow, .ref aMtrial, .ref aMdiary, .int macts, .ref aMkept, .ref aMisKept, .ref aMside, .ref aMwas, .int mspot, .int mout])), (aMside, .inl (cI 0, 10, .inl mside)), (aR, .inl (cI 0, 79, .inl r))] H := hP
        have hD : va_D A [(aM, .inr (7, [.int mref, .ref aMtext, .int msize, .ref aMnow, .ref aMtrial, .ref aMdiary, .int macts, .ref aMkept, .ref aMisKept, .ref aMside, .ref aMwas, .int mspot, .int mout])), (aMside, .inl (cI 0, 10, .inl mside)), (aR, .inl (cI 0, 79, .inl r))] := hD
        refine lv_istore (lv' := [(7, .int o98), (0, .ref aM), (1, .ref aR), (2, .int x2), (3, .int x3), (4, .int x4), (5, .int x5), (6, .int x6)]) hx hb dX8_ball_101 hl (by decide) rfl (fun ls hl => ?_)
        exact b_103 q30 i30 4096 _ _ _ mside r x2 x3 x4 x5 o98 hq hP hD hS (lv_sub hl [1, 2, 3, 4, 5, 6, 0] rfl)
      · have hq := kite_f c9 hq
        refine lv_aload_n hx hb dX8_ball_66 rfl (lv_at hl 1 rfl) ?_
        refine lv_iconst (v := 0) hx hb dX8_ball_67 (by decide) ?_
        refine lv_iload hx hb dX8_ball_68 (lv_at hl 7 rfl) ?_
        refine lv_iadd hx hb dX8_ball_70 ?_
        obtain ⟨hz, hq⟩ := kite_n hq
        refine k_iald (j := (((0 : Int32) + x7).toNatClampNeg)) hx hb hK.1 hP 2 0 rfl rfl hz rfl dX8_ball_71 ?_
        refine lv_iconst (v := 4) hx hb dX8_ball_72 (by decide) ?_
        refine lv_icmp_eq (tgt := 90) hx hb dX8_ball_73 (by decide) (fun c9 => ?_) (fun c9 => ?_)
        · have hq := kite_t c9 hq
          exact b_90 q30 i30 (fn_X8_ball_54 q30 q) ih _ _ _ mside r x2 x3 x4 x5 x6 x7 hq hP hD hS (lv_sub hl [0, 1, 2, 3, 4, 5, 6, 7] rfl)
        · have hq := kite_f c9 hq
          refine lv_iload hx hb dX8_ball_76 (lv_at hl 4 rfl) ?_
          refine lv_aload_n hx hb dX8_ball_78 rfl (lv_at hl 0 rfl) ?_
          refine lv_aload_n hx hb dX8_ball_79 rfl (lv_at hl 1 rfl) ?_
          refine lv_iload hx hb dX8_ball_80 (lv_at hl 7 rfl) ?_
          refine lv_iload hx hb dX8_ball_82 (lv_at hl 6 rfl) ?_
          obtain ⟨o84, ho84, hq⟩ := kbind hq
          refine kc_Vi (av := [.ref aR, .int x7, .int x6]) (rest := [.int x4]) hF hK hG hA (mk_X8_meet l D cI aM aMtext aMnow aMtrial aMdiary aMkept aMisKept aMside aMwas aR H.size mref msize macts mspot mout mside r x7 x6 o84 ho84) (cwV 3 hts gX8_ball_X8_meet rfl rfl rfl (by decide +kernel) ⟨Nat.le_of_ble_eq_true rfl, Nat.le_of_ble_eq_true rfl⟩) hP hD hS [0, 1, 2] (by decide) rfl rfl 0 rfl rfl rfl hl.1 rfl (Nat.le_of_ble_eq_true rfl) ⟨Nat.zero_le _, Nat.zero_le _⟩ dX8_ball_84 (fun H locs hP hD hS => ?_)
          have hP : va_P D vwCl [(aM, .inr (7, [.int mref, .ref aMtext, .int msize, .ref aMnow, .ref aMtrial, .ref aMdiary, .int macts, .ref aMkept, .ref aMisKept, .ref aMside, .ref aMwas, .int mspot, .int mout])), (aMside, .inl (cI 0, 10, .inl o84.2.1)), (aR, .inl (cI 0, 79, .inl o84.2.2))] H := hP
          have hD : va_D A [(aM, .inr (7, [.int mref, .ref aMtext, .int msize, .ref aMnow, .ref aMtrial, .ref aMdiary, .int macts, .ref aMkept, .ref aMisKept, .ref aMside, .ref aMwas, .int mspot, .int mout])), (aMside, .inl (cI 0, 10, .inl o84.2.1)), (aR, .inl (cI 0, 79, .inl o84.2.2))] := hD
          refine lv_iadd hx hb dX8_ball_87 ?_
          refine lv_istore (lv' := [(4, .int (x4 + o84.1)), (0, .ref aM), (1, .ref aR), (2, .int x2), (3, .int x3), (5, .int x5), (6, .int x6), (7, .int x7)]) hx hb dX8_ball_88 hl (by decide) rfl (fun ls hl => ?_)
          exact b_90 q30 i30 (fn_X8_ball_54 q30 q) ih _ _ _ o84.2.1 o84.2.2 x2 x3 (x4 + o84.1) x5 x6 x7 hq hP hD hS (lv_sub hl [1, 2, 3, 4, 0, 5, 6, 7] rfl)
  have b_30 : ∀ (q : Nat), ∀ (H : Heap) (locs : List Loc) (ls : Array Slot) (mside : kF) (r : kF) (x2 : Int32) (x3 : Int32) (x4 : Int32) (x5 : Int32), fn_X8_ball_30 q mside r x2 x3 x4 x5 = some o → va_P D vwCl [(aM, .inr (7, [.int mref, .ref aMtext, .int msize, .ref aMnow, .ref aMtrial, .ref aMdiary, .int macts, .ref aMkept, .ref aMisKept, .ref aMside, .ref aMwas, .int mspot, .int mout])), (aMside, .inl (cI 0, 10, .inl mside)), (aR, .inl (cI 0, 79, .inl r))] H → va_D A [(aM, .inr (7, [.int mref, .ref aMtext, .int msize, .ref aMnow, .ref aMtrial, .ref aMdiary, .int macts, .ref aMkept, .ref aMisKept, .ref aMside, .ref aMwas, .int mspot, .int mout])), (aMside, .inl (cI 0, 10, .inl mside)), (aR, .inl (cI 0, 79, .inl r))] → va_S A s.heap H locs → lv_has ls 8 [(0, .ref aM), (1, .ref aR), (2, .int x2), (3, .int x3), (4, .int x4), (5, .int x5)] → W p l e { frames := 3, cells := 0, slots := 0, locals := 67 } s m args below meth c H locs 0 0 Q (F0 m 30 ls []) := by
    intro q
    induction q with
    | zero =>
      intro H locs ls mside r x2 x3 x4 x5
      intro hq
      cases hq
    | succ q ih =>
      intro H locs ls mside r x2 x3 x4 x5
      intro hq hP hD hS hl
      refine lv_iload hx hb dX8_ball_30 (lv_at hl 5 rfl) ?_
      refine lv_iconst (v := 4) hx hb dX8_ball_32 (by decide) ?_
      refine lv_icmp_ge (tgt := 140) hx hb dX8_ball_33 (by decide) (fun c9 => ?_) (fun c9 => ?_)
      · have hq := kite_t c9 hq
        have ho := Option.some.inj hq
        subst ho
        exact hend _ _ _ _ hP hS dX8_ball_140
      · have hq := kite_f c9 hq
        refine lv_iload_n hx hb dX8_ball_36 rfl (lv_at hl 2 rfl) ?_
        refine lv_iload_n hx hb dX8_ball_37 rfl (lv_at hl 3 rfl) ?_
        refine lv_iload hx hb dX8_ball_38 (lv_at hl 5 rfl) ?_
        refine lv_imul hx hb dX8_ball_40 ?_
        refine lv_iadd hx hb dX8_ball_41 ?_
        refine lv_iload hx hb dX8_ball_42 (lv_at hl 4 rfl) ?_
        refine lv_iadd hx hb dX8_ball_44 ?_
        refine lv_istore (lv' := [(6, .int ((x2 + (x3 * x5)) + x4)), (0, .ref aM), (1, .ref aR), (2, .int x2), (3, .int x3), (4, .int x4), (5, .int x5)]) hx hb dX8_ball_45 hl (by decide) rfl (fun ls hl => ?_)
        refine lv_iload hx hb dX8_ball_47 (lv_at hl 6 rfl) ?_
        obtain ⟨o49, ho49, hq⟩ := kbind hq
        refine kc_Si (av := [.int x5]) (rest := []) hF hK hG hA (mk_X8_firstOf l D cI H.size x5 o49 ho49) (va_cwS 1 hts gX8_ball_X8_firstOf rfl rfl rfl (by decide +kernel) ⟨Nat.le_of_ble_eq_true rfl, Nat.le_of_ble_eq_true rfl⟩) hP hD hS [] (by decide) rfl rfl rfl hl.1 rfl (Nat.le_of_ble_eq_true rfl) ⟨Nat.zero_le _, Nat.zero_le _⟩ dX8_ball_49 (fun H locs hP hD hS => ?_)
        have hP : va_P D vwCl [(aM, .inr (7, [.int mref, .ref aMtext, .int msize, .ref aMnow, .ref aMtrial, .ref aMdiary, .int macts, .ref aMkept, .ref aMisKept, .ref aMside, .ref aMwas, .int mspot, .int mout])), (aMside, .inl (cI 0, 10, .inl mside)), (aR, .inl (cI 0, 79, .inl r))] H := hP
        have hD : va_D A [(aM, .inr (7, [.int mref, .ref aMtext, .int msize, .ref aMnow, .ref aMtrial, .ref aMdiary, .int macts, .ref aMkept, .ref aMisKept, .ref aMside, .ref aMwas, .int mspot, .int mout])), (aMside, .inl (cI 0, 10, .inl mside)), (aR, .inl (cI 0, 79, .inl r))] := hD
        refine lv_istore (lv' := [(7, .int o49), (6, .int ((x2 + (x3 * x5)) + x4)), (0, .ref aM), (1, .ref aR), (2, .int x2), (3, .int x3), (4, .int x4), (5, .int x5)]) hx hb dX8_ball_52 hl (by decide) rfl (fun ls hl => ?_)
        exact b_54 (fn_X8_ball_30 q) ih 4096 _ _ _ mside r x2 x3 x4 x5 ((x2 + (x3 * x5)) + x4) o49 hq hP hD hS (lv_sub hl [2, 3, 4, 5, 6, 7, 1, 0] rfl)
  have b_3 : ∀ (q : Nat), ∀ (H : Heap) (locs : List Loc) (ls : Array Slot) (mside : kF) (r : kF) (x2 : Int32) (x3 : Int32) (x4 : Int32), fn_X8_ball_3 q mside r x2 x3 x4 = some o → va_P D vwCl [(aM, .inr (7, [.int mref, .ref aMtext, .int msize, .ref aMnow, .ref aMtrial, .ref aMdiary, .int macts, .ref aMkept, .ref aMisKept, .ref aMside, .ref aMwas, .int mspot, .int mout])), (aMside, .inl (cI 0, 10, .inl mside)), (aR, .inl (cI 0, 79, .inl r))] H → va_D A [(aM, .inr (7, [.int mref, .ref aMtext, .int msize, .ref aMnow, .ref aMtrial, .ref aMdiary, .int macts, .ref aMkept, .ref aMisKept, .ref aMside, .ref aMwas, .int mspot, .int mout])), (aMside, .inl (cI 0, 10, .inl mside)), (aR, .inl (cI 0, 79, .inl r))] → va_S A s.heap H locs → lv_has ls 8 [(0, .ref aM), (1, .ref aR), (2, .int x2), (3, .int x3), (4, .int x4)] → W p l e { frames := 3, cells := 0, slots := 0, locals := 67 } s m args below meth c H locs 0 0 Q (F0 m 3 ls []) := by
    intro q
    induction q with
    | zero =>
      intro H locs ls mside r x2 x3 x4
      intro hq
      cases hq
    | succ q ih =>
      intro H locs ls mside r x2 x3 x4
      intro hq hP hD hS hl
      refine lv_iload hx hb dX8_ball_3 (lv_at hl 4 rfl) ?_
      refine lv_bipush (v := 10) hx hb dX8_ball_5 (by decide) ?_
      refine lv_icmp_ge (tgt := 24) hx hb dX8_ball_7 (by decide) (fun c9 => ?_) (fun c9 => ?_)
      · have hq := kite_t c9 hq
        refine lv_iconst (v := 0) hx hb dX8_ball_24 (by decide) ?_
        refine lv_istore (lv' := [(4, .int (0 : Int32)), (0, .ref aM), (1, .ref aR), (2, .int x2), (3, .int x3)]) hx hb dX8_ball_25 hl (by decide) rfl (fun ls hl => ?_)
        refine lv_iconst (v := 0) hx hb dX8_ball_27 (by decide) ?_
        refine lv_istore (lv' := [(5, .int (0 : Int32)), (4, .int (0 : Int32)), (0, .ref aM), (1, .ref aR), (2, .int x2), (3, .int x3)]) hx hb dX8_ball_28 hl (by decide) rfl (fun ls hl => ?_)
        exact b_30 4096 _ _ _ mside r x2 x3 (0 : Int32) (0 : Int32) hq hP hD hS (lv_sub hl [2, 3, 4, 5, 1, 0] rfl)
      · have hq := kite_f c9 hq
        refine lv_aload_n hx hb dX8_ball_10 rfl (lv_at hl 0 rfl) ?_
        refine va_get (D := D) (ci := 7) (v := .ref aMside) (C := RX8) (T := TX8) (N := 13) hx hb hts iw_X8_ball_X8 hown hK.1 hP 0 rfl rfl 9 (by decide) (hts (.fieldLink RX8 29 "PinDeckModel" "side" "[I") (by decide +kernel)) (fun _ h9 => h9) rfl dX8_ball_11 ?_
        refine lv_iload hx hb dX8_ball_14 (lv_at hl 4 rfl) ?_
        refine lv_iconst (v := 0) hx hb dX8_ball_16 (by decide) ?_
        obtain ⟨hz, hq⟩ := kite_n hq
        refine k_iast (j := (x4.toNatClampNeg)) hx hb hK.1 hP hD hS 1 0 rfl rfl hz rfl dX8_ball_17 (fun H locs hP hD hS => ?_)
        have hP : va_P D vwCl [(aM, .inr (7, [.int mref, .ref aMtext, .int msize, .ref aMnow, .ref aMtrial, .ref aMdiary, .int macts, .ref aMkept, .ref aMisKept, .ref aMside, .ref aMwas, .int mspot, .int mout])), (aMside, .inl (cI 0, 10, .inl (upd mside (x4.toNatClampNeg) (0 : Int32)))), (aR, .inl (cI 0, 79, .inl r))] H := hP
        have hD : va_D A [(aM, .inr (7, [.int mref, .ref aMtext, .int msize, .ref aMnow, .ref aMtrial, .ref aMdiary, .int macts, .ref aMkept, .ref aMisKept, .ref aMside, .ref aMwas, .int mspot, .int mout])), (aMside, .inl (cI 0, 10, .inl (upd mside (x4.toNatClampNeg) (0 : Int32)))), (aR, .inl (cI 0, 79, .inl r))] := hD
        refine lv_iinc (v := (x4 + 1)) (lv' := [(4, .int (x4 + 1)), (0, .ref aM), (1, .ref aR), (2, .int x2), (3, .int x3)]) hx hb dX8_ball_18 hl (k := 4) rfl rfl (by decide) rfl (fun ls hl => ?_)
        refine lv_goto (tgt := 3) hx hb dX8_ball_21 (by decide) ?_
        exact ih _ _ _ (upd mside (x4.toNatClampNeg) (0 : Int32)) r x2 x3 (x4 + 1) hq hP hD hS (lv_sub hl [1, 2, 3, 4, 0] rfl)
  refine lv_iconst (v := 0) hx hb dX8_ball_0 (by decide) ?_
  refine lv_istore (lv' := [(4, .int (0 : Int32)), (0, .ref aM), (1, .ref aR), (2, .int x2), (3, .int x3)]) hx hb dX8_ball_1 hl (by decide) rfl (fun ls hl => ?_)
  exact b_3 4096 _ _ _ mside r x2 x3 (0 : Int32) hq hP hD hS (lv_sub hl [1, 2, 3, 4, 0] rfl)

set_option maxHeartbeats 4000000 in
set_option maxRecDepth 100000 in
theorem mk_X8_tell (l : Launch) (D : va_G) (cI : Nat → ClassId) (aR : Nat) (sz : Nat) (r : kF) (o : kF) (hq : fn_X8_tell r = some o) : Met l yX8_tell wsX8_tell ({ frames := 0, cells := 0, slots := 0, locals := 0 }) (kPc D cI [(aR, .inl (cI 0, 79, .inl r))] sz [.ref aR]) (kQv D [(aR, .inl (cI 0, 79, .inl r))] [(aR, .inl (cI 0, 79, .inl o))] sz) 0 0 (va_A [(aR, .inl (cI 0, 79, .inl r))] sz) := by
  refine kM_v (cc := cX8_tell) (maxL := 2) (by decide +kernel) rfl (Nat.le_of_ble_eq_true rfl) ?_
  intro p e s m args below meth c A Q hF hK hG hD hA hend ls hP hS hl
  obtain ⟨hx, hb, hml, hown, hts⟩ := id hF
  have hl : lv_has ls 2 [(0, .ref aR)] := hl
  have b_49 : ∀ (q2 : kF → Int32 → Option (kF)), (∀ (H : Heap) (locs : List Loc) (ls : Array Slot) (r : kF) (x1 : Int32), q2 r x1 = some o → va_P D vwCl [(aR, .inl (cI 0, 79, .inl r))] H → va_D A [(aR, .inl (cI 0, 79, .inl r))] → va_S A s.heap H locs → lv_has ls 2 [(0, .ref aR), (1, .int x1)] → W p l e { frames := 0, cells := 0, slots := 0, locals := 0 } s m args below meth c H locs 0 0 Q (F0 m 2 ls [])) → ∀ (H : Heap) (locs : List Loc) (ls : Array Slot) (r : kF) (x1 : Int32) (k1 : Int32) (k2 : Int32), fn_X8_tell_49 q2 r x1 k1 k2 = some o → va_P D vwCl [(aR, .inl (cI 0, 79, .inl r))] H → va_D A [(aR, .inl (cI 0, 79, .inl r))] → va_S A s.heap H locs → lv_has ls 2 [(0, .ref aR), (1, .int x1)] → W p l e { frames := 0, cells := 0, slots := 0, locals := 0 } s m args below meth c H locs 0 0 Q (F0 m 49 ls [.int k2, .int k1, .ref aR]) := by
    intro q2 i2
    intro H locs ls r x1 k1 k2
    intro hq hP hD hS hl
    obtain ⟨hz, hq⟩ := kite_n hq
    refine k_iast (j := (k1.toNatClampNeg)) hx hb hK.1 hP hD hS 0 0 rfl rfl hz rfl dX8_tell_49 (fun H locs hP hD hS => ?_)
    have hP : va_P D vwCl [(aR, .inl (cI 0, 79, .inl (upd r (k1.toNatClampNeg) k2)))] H := hP
    have hD : va_D A [(aR, .inl (cI 0, 79, .inl (upd r (k1.toNatClampNeg) k2)))] := hD
    refine lv_iinc (v := (x1 + 1)) (lv' := [(1, .int (x1 + 1)), (0, .ref aR)]) hx hb dX8_tell_50 hl (k := 1) rfl rfl (by decide) rfl (fun ls hl => ?_)
    refine lv_goto (tgt := 2) hx hb dX8_tell_53 (by decide) ?_
    exact i2 _ _ _ (upd r (k1.toNatClampNeg) k2) (x1 + 1) hq hP hD hS (lv_sub hl [1, 0] rfl)
  have b_48 : ∀ (q2 : kF → Int32 → Option (kF)), (∀ (H : Heap) (locs : List Loc) (ls : Array Slot) (r : kF) (x1 : Int32), q2 r x1 = some o → va_P D vwCl [(aR, .inl (cI 0, 79, .inl r))] H → va_D A [(aR, .inl (cI 0, 79, .inl r))] → va_S A s.heap H locs → lv_has ls 2 [(0, .ref aR), (1, .int x1)] → W p l e { frames := 0, cells := 0, slots := 0, locals := 0 } s m args below meth c H locs 0 0 Q (F0 m 2 ls [])) → ∀ (H : Heap) (locs : List Loc) (ls : Array Slot) (r : kF) (x1 : Int32) (k1 : Int32), fn_X8_tell_48 q2 r x1 k1 = some o → va_P D vwCl [(aR, .inl (cI 0, 79, .inl r))] H → va_D A [(aR, .inl (cI 0, 79, .inl r))] → va_S A s.heap H locs → lv_has ls 2 [(0, .ref aR), (1, .int x1)] → W p l e { frames := 0, cells := 0, slots := 0, locals := 0 } s m args below meth c H locs 0 0 Q (F0 m 48 ls [.int k1, .ref aR]) := by
    intro q2 i2
    intro H locs ls r x1 k1
    intro hq hP hD hS hl
    refine lv_iconst (v := 0) hx hb dX8_tell_48 (by decide) ?_
    exact b_49 q2 i2 _ _ _ r x1 k1 (0 : Int32) hq hP hD hS (lv_sub hl [0, 1] rfl)
  have b_2 : ∀ (q : Nat), ∀ (H : Heap) (locs : List Loc) (ls : Array Slot) (r : kF) (x1 : Int32), fn_X8_tell_2 q r x1 = some o → va_P D vwCl [(aR, .inl (cI 0, 79, .inl r))] H → va_D A [(aR, .inl (cI 0, 79, .inl r))] → va_S A s.heap H locs → lv_has ls 2 [(0, .ref aR), (1, .int x1)] → W p l e { frames := 0, cells := 0, slots := 0, locals := 0 } s m args below meth c H locs 0 0 Q (F0 m 2 ls []) := by
    intro q
    induction q with
    | zero =>
      intro H locs ls r x1
      intro hq
      cases hq
    | succ q ih =>
      intro H locs ls r x1
      intro hq hP hD hS hl
      refine lv_iload_n hx hb dX8_tell_2 rfl (lv_at hl 1 rfl) ?_
      refine lv_bipush (v := 10) hx hb dX8_tell_3 (by decide) ?_
      refine lv_icmp_ge (tgt := 56) hx hb dX8_tell_5 (by decide) (fun c9 => ?_) (fun c9 => ?_)
      · have hq := kite_t c9 hq
        have ho := Option.some.inj hq
        subst ho
        exact hend _ _ _ _ hP hS dX8_tell_56
      · have hq := kite_f c9 hq
        refine lv_aload_n hx hb dX8_tell_8 rfl (lv_at hl 0 rfl) ?_
        refine lv_bipush (v := 20) hx hb dX8_tell_9 (by decide) ?_
        refine lv_iload_n hx hb dX8_tell_11 rfl (lv_at hl 1 rfl) ?_
        refine lv_iadd hx hb dX8_tell_12 ?_
        refine lv_aload_n hx hb dX8_tell_13 rfl (lv_at hl 0 rfl) ?_
        refine lv_bipush (v := 20) hx hb dX8_tell_14 (by decide) ?_
        refine lv_iload_n hx hb dX8_tell_16 rfl (lv_at hl 1 rfl) ?_
        refine lv_iadd hx hb dX8_tell_17 ?_
        obtain ⟨hz, hq⟩ := kite_n hq
        refine k_iald (j := (((20 : Int32) + x1).toNatClampNeg)) hx hb hK.1 hP 0 0 rfl rfl hz rfl dX8_tell_18 ?_
        refine lv_iconst (v := 1) hx hb dX8_tell_19 (by decide) ?_
        refine lv_icmp_ne (tgt := 48) hx hb dX8_tell_20 (by decide) (fun c9 => ?_) (fun c9 => ?_)
        · have hq := kite_f c9 hq
          exact b_48 (fn_X8_tell_2 q) ih _ _ _ r x1 ((20 : Int32) + x1) hq hP hD hS (lv_sub hl [0, 1] rfl)
        · have hq := kite_t c9 hq
          refine lv_aload_n hx hb dX8_tell_23 rfl (lv_at hl 0 rfl) ?_
          refine lv_iconst (v := 0) hx hb dX8_tell_24 (by decide) ?_
          refine lv_iload_n hx hb dX8_tell_25 rfl (lv_at hl 1 rfl) ?_
          refine lv_iadd hx hb dX8_tell_26 ?_
          obtain ⟨hz, hq⟩ := kite_n hq
          refine k_iald (j := (((0 : Int32) + x1).toNatClampNeg)) hx hb hK.1 hP 0 0 rfl rfl hz rfl dX8_tell_27 ?_
          refine lv_iconst (v := 4) hx hb dX8_tell_28 (by decide) ?_
          refine lv_icmp_eq (tgt := 48) hx hb dX8_tell_29 (by decide) (fun c9 => ?_) (fun c9 => ?_)
          · have hq := kite_t c9 hq
            exact b_48 (fn_X8_tell_2 q) ih _ _ _ r x1 ((20 : Int32) + x1) hq hP hD hS (lv_sub hl [0, 1] rfl)
          · have hq := kite_f c9 hq
            refine lv_aload_n hx hb dX8_tell_32 rfl (lv_at hl 0 rfl) ?_
            refine lv_iconst (v := 0) hx hb dX8_tell_33 (by decide) ?_
            refine lv_iload_n hx hb dX8_tell_34 rfl (lv_at hl 1 rfl) ?_
            refine lv_iadd hx hb dX8_tell_35 ?_
            obtain ⟨hz, hq⟩ := kite_n hq
            refine k_iald (j := (((0 : Int32) + x1).toNatClampNeg)) hx hb hK.1 hP 0 0 rfl rfl hz rfl dX8_tell_36 ?_
            refine lv_aload_n hx hb dX8_tell_37 rfl (lv_at hl 0 rfl) ?_
            refine lv_bipush (v := 77) hx hb dX8_tell_38 (by decide) ?_
            refine k_iald (j := 77) hx hb hK.1 hP 0 0 rfl rfl (by decide) (by decide) dX8_tell_40 ?_
            refine lv_icmp_gt (tgt := 48) hx hb dX8_tell_41 (by decide) (fun c9 => ?_) (fun c9 => ?_)
            · have hq := kite_t c9 hq
              exact b_48 (fn_X8_tell_2 q) ih _ _ _ r x1 ((20 : Int32) + x1) hq hP hD hS (lv_sub hl [0, 1] rfl)
            · have hq := kite_f c9 hq
              refine lv_iconst (v := 1) hx hb dX8_tell_44 (by decide) ?_
              refine lv_goto (tgt := 49) hx hb dX8_tell_45 (by decide) ?_
              exact b_49 (fn_X8_tell_2 q) ih _ _ _ r x1 ((20 : Int32) + x1) (1 : Int32) hq hP hD hS (lv_sub hl [0, 1] rfl)
  refine lv_iconst (v := 0) hx hb dX8_tell_0 (by decide) ?_
  refine lv_istore_n (lv' := [(1, .int (0 : Int32)), (0, .ref aR)]) hx hb dX8_tell_1 rfl hl (by decide) rfl (fun ls hl => ?_)
  exact b_2 4096 _ _ _ r (0 : Int32) hq hP hD hS (lv_sub hl [1, 0] rfl)

set_option maxHeartbeats 4000000 in
set_option maxRecDepth 100000 in
theorem mk_X8_slips (l : Launch) (D : va_G) (cI : Nat → ClassId) (aR : Nat) (sz : Nat) (r : kF) (x1 : Int32) (o : Int32) (hq : fn_X8_slips r x1 = some o) : Met l yX8_slips wsX8_slips ({ frames := 0, cells := 0, slots := 0, locals := 0 }) (kPc D cI [(aR, .inl (cI 0, 79, .inl r))] sz [.ref aR, .int x1]) (kQi D [(aR, .inl (cI 0, 79, .inl r))] [(aR, .inl (cI 0, 79, .inl r))] sz o) 0 0 (va_A [(aR, .inl (cI 0, 79, .inl r))] sz) := by
  refine kM_z (cc := cX8_slips) (maxL := 2) (by decide +kernel) rfl (Nat.le_of_ble_eq_true rfl) ?_
  intro p e s m args below meth c A Q hF hK hG hD hA hend ls hP hS hl
  obtain ⟨hx, hb, hml, hown, hts⟩ := id hF
  have hl : lv_has ls 2 [(0, .ref aR), (1, .int x1)] := hl
  have b_36 : ∀ (H : Heap) (locs : List Loc) (ls : Array Slot) (k0 : Int32), fn_X8_slips_36 r k0 = some o → va_P D vwCl [(aR, .inl (cI 0, 79, .inl r))] H → va_S A s.heap H locs → lv_has ls 2 [] → W p l e { frames := 0, cells := 0, slots := 0, locals := 0 } s m args below meth c H locs 0 0 Q (F0 m 36 ls [.int k0]) := by
    intro H locs ls k0
    intro hq hP hS hl
    obtain ⟨hz, hq⟩ := kite_b hq
    have ho := Option.some.inj hq
    subst ho
    exact hend _ _ _ _ hz hP hS dX8_slips_36
  have b_35 : ∀ (H : Heap) (locs : List Loc) (ls : Array Slot), fn_X8_slips_35 r = some o → va_P D vwCl [(aR, .inl (cI 0, 79, .inl r))] H → va_S A s.heap H locs → lv_has ls 2 [] → W p l e { frames := 0, cells := 0, slots := 0, locals := 0 } s m args below meth c H locs 0 0 Q (F0 m 35 ls []) := by
    intro H locs ls 
    intro hq hP hS hl
    refine lv_iconst (v := 0) hx hb dX8_slips_35 (by decide) ?_
    exact b_36  _ _ _ (0 : Int32) hq hP hS (lv_sub hl [] rfl)
  refine lv_aload_n hx hb dX8_slips_0 rfl (lv_at hl 0 rfl) ?_
  refine lv_bipush (v := 20) hx hb dX8_slips_1 (by decide) ?_
  refine lv_iload_n hx hb dX8_slips_3 rfl (lv_at hl 1 rfl) ?_
  refine lv_iadd hx hb dX8_slips_4 ?_
  obtain ⟨hz, hq⟩ := kite_n hq
  refine k_iald (j := (((20 : Int32) + x1).toNatClampNeg)) hx hb hK.1 hP 0 0 rfl rfl hz rfl dX8_slips_5 ?_
  refine lv_iconst (v := 1) hx hb dX8_slips_6 (by decide) ?_
  refine lv_icmp_ne (tgt := 35) hx hb dX8_slips_7 (by decide) (fun c9 => ?_) (fun c9 => ?_)
  · have hq := kite_f c9 hq
    exact b_35  _ _ _  hq hP hS (lv_sub hl [] rfl)
  · have hq := kite_t c9 hq
    refine lv_aload_n hx hb dX8_slips_10 rfl (lv_at hl 0 rfl) ?_
    refine lv_iconst (v := 0) hx hb dX8_slips_11 (by decide) ?_
    refine lv_iload_n hx hb dX8_slips_12 rfl (lv_at hl 1 rfl) ?_
    refine lv_iadd hx hb dX8_slips_13 ?_
    obtain ⟨hz, hq⟩ := kite_n hq
    refine k_iald (j := (((0 : Int32) + x1).toNatClampNeg)) hx hb hK.1 hP 0 0 rfl rfl hz rfl dX8_slips_14 ?_
    refine lv_iconst (v := 4) hx hb dX8_slips_15 (by decide) ?_
    refine lv_icmp_eq (tgt := 35) hx hb dX8_slips_16 (by decide) (fun c9 => ?_) (fun c9 => ?_)
    · have hq := kite_t c9 hq
      exact b_35  _ _ _  hq hP hS (lv_sub hl [] rfl)
    · have hq := kite_f c9 hq
      refine lv_aload_n hx hb dX8_slips_19 rfl (lv_at hl 0 rfl) ?_
      refine lv_iconst (v := 0) hx hb dX8_slips_20 (by decide) ?_
      refine lv_iload_n hx hb dX8_slips_21 rfl (lv_at hl 1 rfl) ?_
      refine lv_iadd hx hb dX8_slips_22 ?_
      obtain ⟨hz, hq⟩ := kite_n hq
      refine k_iald (j := (((0 : Int32) + x1).toNatClampNeg)) hx hb hK.1 hP 0 0 rfl rfl hz rfl dX8_slips_23 ?_
      refine lv_aload_n hx hb dX8_slips_24 rfl (lv_at hl 0 rfl) ?_
      refine lv_bipush (v := 78) hx hb dX8_slips_25 (by decide) ?_
      refine k_iald (j := 78) hx hb hK.1 hP 0 0 rfl rfl (by decide) (by decide) dX8_slips_27 ?_
      refine lv_icmp_le (tgt := 35) hx hb dX8_slips_28 (by decide) (fun c9 => ?_) (fun c9 => ?_)
      · have hq := kite_t c9 hq
        exact b_35  _ _ _  hq hP hS (lv_sub hl [] rfl)
      · have hq := kite_f c9 hq
        refine lv_iconst (v := 1) hx hb dX8_slips_31 (by decide) ?_
        refine lv_goto (tgt := 36) hx hb dX8_slips_32 (by decide) ?_
        exact b_36  _ _ _ (1 : Int32) hq hP hS (lv_sub hl [] rfl)

set_option maxHeartbeats 4000000 in
set_option maxRecDepth 100000 in
theorem mk_X8_setAgain (l : Launch) (D : va_G) (cI : Nat → ClassId) (aR : Nat) (sz : Nat) (r : kF) (o : kF) (hq : fn_X8_setAgain r = some o) : Met l yX8_setAgain wsX8_setAgain ({ frames := 1, cells := 0, slots := 0, locals := 21 }) (kPc D cI [(aR, .inl (cI 0, 79, .inl r))] sz [.ref aR]) (kQv D [(aR, .inl (cI 0, 79, .inl r))] [(aR, .inl (cI 0, 79, .inl o))] sz) 0 0 (va_A [(aR, .inl (cI 0, 79, .inl r))] sz) := by
  refine kM_v (cc := cX8_setAgain) (maxL := 2) (by decide +kernel) rfl (Nat.le_of_ble_eq_true rfl) ?_
  intro p e s m args below meth c A Q hF hK hG hD hA hend ls hP hS hl
  obtain ⟨hx, hb, hml, hown, hts⟩ := id hF
  have hl : lv_has ls 2 [(0, .ref aR)] := hl
  have b_50 : ∀ (q2 : kF → Int32 → Option (kF)), (∀ (H : Heap) (locs : List Loc) (ls : Array Slot) (r : kF) (x1 : Int32), q2 r x1 = some o → va_P D vwCl [(aR, .inl (cI 0, 79, .inl r))] H → va_D A [(aR, .inl (cI 0, 79, .inl r))] → va_S A s.heap H locs → lv_has ls 2 [(0, .ref aR), (1, .int x1)] → W p l e { frames := 1, cells := 0, slots := 0, locals := 21 } s m args below meth c H locs 0 0 Q (F0 m 2 ls [])) → ∀ (H : Heap) (locs : List Loc) (ls : Array Slot) (r : kF) (x1 : Int32) (k1 : Int32) (k2 : Int32), fn_X8_setAgain_50 q2 r x1 k1 k2 = some o → va_P D vwCl [(aR, .inl (cI 0, 79, .inl r))] H → va_D A [(aR, .inl (cI 0, 79, .inl r))] → va_S A s.heap H locs → lv_has ls 2 [(0, .ref aR), (1, .int x1)] → W p l e { frames := 1, cells := 0, slots := 0, locals := 21 } s m args below meth c H locs 0 0 Q (F0 m 50 ls [.int k2, .int k1, .ref aR]) := by
    intro q2 i2
    intro H locs ls r x1 k1 k2
    intro hq hP hD hS hl
    obtain ⟨hz, hq⟩ := kite_n hq
    refine k_iast (j := (k1.toNatClampNeg)) hx hb hK.1 hP hD hS 0 0 rfl rfl hz rfl dX8_setAgain_50 (fun H locs hP hD hS => ?_)
    have hP : va_P D vwCl [(aR, .inl (cI 0, 79, .inl (upd r (k1.toNatClampNeg) k2)))] H := hP
    have hD : va_D A [(aR, .inl (cI 0, 79, .inl (upd r (k1.toNatClampNeg) k2)))] := hD
    refine lv_iinc (v := (x1 + 1)) (lv' := [(1, .int (x1 + 1)), (0, .ref aR)]) hx hb dX8_setAgain_51 hl (k := 1) rfl rfl (by decide) rfl (fun ls hl => ?_)
    refine lv_goto (tgt := 2) hx hb dX8_setAgain_54 (by decide) ?_
    exact i2 _ _ _ (upd r (k1.toNatClampNeg) k2) (x1 + 1) hq hP hD hS (lv_sub hl [1, 0] rfl)
  have b_31 : ∀ (q2 : kF → Int32 → Option (kF)), (∀ (H : Heap) (locs : List Loc) (ls : Array Slot) (r : kF) (x1 : Int32), q2 r x1 = some o → va_P D vwCl [(aR, .inl (cI 0, 79, .inl r))] H → va_D A [(aR, .inl (cI 0, 79, .inl r))] → va_S A s.heap H locs → lv_has ls 2 [(0, .ref aR), (1, .int x1)] → W p l e { frames := 1, cells := 0, slots := 0, locals := 21 } s m args below meth c H locs 0 0 Q (F0 m 2 ls [])) → ∀ (H : Heap) (locs : List Loc) (ls : Array Slot) (r : kF) (x1 : Int32), fn_X8_setAgain_31 q2 r x1 = some o → va_P D vwCl [(aR, .inl (cI 0, 79, .inl r))] H → va_D A [(aR, .inl (cI 0, 79, .inl r))] → va_S A s.heap H locs → lv_has ls 2 [(0, .ref aR), (1, .int x1)] → W p l e { frames := 1, cells := 0, slots := 0, locals := 21 } s m args below meth c H locs 0 0 Q (F0 m 31 ls []) := by
    intro q2 i2
    intro H locs ls r x1
    intro hq hP hD hS hl
    refine lv_aload_n hx hb dX8_setAgain_31 rfl (lv_at hl 0 rfl) ?_
    refine lv_iconst (v := 0) hx hb dX8_setAgain_32 (by decide) ?_
    refine lv_iload_n hx hb dX8_setAgain_33 rfl (lv_at hl 1 rfl) ?_
    refine lv_iadd hx hb dX8_setAgain_34 ?_
    refine lv_aload_n hx hb dX8_setAgain_35 rfl (lv_at hl 0 rfl) ?_
    refine lv_bipush (v := 20) hx hb dX8_setAgain_36 (by decide) ?_
    refine lv_iload_n hx hb dX8_setAgain_38 rfl (lv_at hl 1 rfl) ?_
    refine lv_iadd hx hb dX8_setAgain_39 ?_
    obtain ⟨hz, hq⟩ := kite_n hq
    refine k_iald (j := (((20 : Int32) + x1).toNatClampNeg)) hx hb hK.1 hP 0 0 rfl rfl hz rfl dX8_setAgain_40 ?_
    refine lv_iconst (v := 1) hx hb dX8_setAgain_41 (by decide) ?_
    refine lv_icmp_ne (tgt := 49) hx hb dX8_setAgain_42 (by decide) (fun c9 => ?_) (fun c9 => ?_)
    · have hq := kite_f c9 hq
      refine lv_iconst (v := 4) hx hb dX8_setAgain_49 (by decide) ?_
      exact b_50 q2 i2 _ _ _ r x1 ((0 : Int32) + x1) (4 : Int32) hq hP hD hS (lv_sub hl [0, 1] rfl)
    · have hq := kite_t c9 hq
      refine lv_iconst (v := 0) hx hb dX8_setAgain_45 (by decide) ?_
      refine lv_goto (tgt := 50) hx hb dX8_setAgain_46 (by decide) ?_
      exact b_50 q2 i2 _ _ _ r x1 ((0 : Int32) + x1) (0 : Int32) hq hP hD hS (lv_sub hl [0, 1] rfl)
  have b_2 : ∀ (q : Nat), ∀ (H : Heap) (locs : List Loc) (ls : Array Slot) (r : kF) (x1 : Int32), fn_X8_setAgain_2 q r x1 = some o → va_P D vwCl [(aR, .inl (cI 0, 79, .inl r))] H → va_D A [(aR, .inl (cI 0, 79, .inl r))] → va_S A s.heap H locs → lv_has ls 2 [(0, .ref aR), (1, .int x1)] → W p l e { frames := 1, cells := 0, slots := 0, locals := 21 } s m args below meth c H locs 0 0 Q (F0 m 2 ls []) := by
    intro q
    induction q with
    | zero =>
      intro H locs ls r x1
      intro hq
      cases hq
    | succ q ih =>
      intro H locs ls r x1
      intro hq hP hD hS hl
      refine lv_iload_n hx hb dX8_setAgain_2 rfl (lv_at hl 1 rfl) ?_
      refine lv_bipush (v := 10) hx hb dX8_setAgain_3 (by decide) ?_
      refine lv_icmp_ge (tgt := 57) hx hb dX8_setAgain_5 (by decide) (fun c9 => ?_) (fun c9 => ?_)
      · have hq := kite_t c9 hq
        have ho := Option.some.inj hq
        subst ho
        exact hend _ _ _ _ hP hS dX8_setAgain_57
      · have hq := kite_f c9 hq
        refine lv_aload_n hx hb dX8_setAgain_8 rfl (lv_at hl 0 rfl) ?_
        refine lv_iload_n hx hb dX8_setAgain_9 rfl (lv_at hl 1 rfl) ?_
        obtain ⟨o10, ho10, hq⟩ := kbind hq
        refine kc_Si (av := [.ref aR, .int x1]) (rest := []) hF hK hG hA (mk_X8_slips l D cI aR H.size r x1 o10 ho10) (va_cwS 2 hts gX8_setAgain_X8_slips rfl rfl rfl (by decide +kernel) ⟨Nat.le_of_ble_eq_true rfl, Nat.le_of_ble_eq_true rfl⟩) hP hD hS [0] (by decide) rfl rfl rfl hl.1 rfl (Nat.le_of_ble_eq_true rfl) ⟨Nat.zero_le _, Nat.zero_le _⟩ dX8_setAgain_10 (fun H locs hP hD hS => ?_)
        have hP : va_P D vwCl [(aR, .inl (cI 0, 79, .inl r))] H := hP
        have hD : va_D A [(aR, .inl (cI 0, 79, .inl r))] := hD
        refine lv_if_eq (tgt := 31) hx hb dX8_setAgain_13 (by decide) (fun c9 => ?_) (fun c9 => ?_)
        · have hq := kite_t c9 hq
          exact b_31 (fn_X8_setAgain_2 q) ih _ _ _ r x1 hq hP hD hS (lv_sub hl [0, 1] rfl)
        · have hq := kite_f c9 hq
          refine lv_aload_n hx hb dX8_setAgain_16 rfl (lv_at hl 0 rfl) ?_
          refine lv_bipush (v := 74) hx hb dX8_setAgain_17 (by decide) ?_
          refine lv_dup2_11 hx hb dX8_setAgain_19 rfl rfl ?_
          refine k_iald (j := 74) hx hb hK.1 hP 0 0 rfl rfl (by decide) (by decide) dX8_setAgain_20 ?_
          refine lv_iconst (v := 1) hx hb dX8_setAgain_21 (by decide) ?_
          refine lv_iadd hx hb dX8_setAgain_22 ?_
          refine k_iast (j := 74) hx hb hK.1 hP hD hS 0 0 rfl rfl (by decide) (by decide) dX8_setAgain_23 (fun H locs hP hD hS => ?_)
          have hP : va_P D vwCl [(aR, .inl (cI 0, 79, .inl (upd r 74 ((r 74) + (1 : Int32)))))] H := hP
          have hD : va_D A [(aR, .inl (cI 0, 79, .inl (upd r 74 ((r 74) + (1 : Int32)))))] := hD
          refine lv_aload_n hx hb dX8_setAgain_24 rfl (lv_at hl 0 rfl) ?_
          refine lv_bipush (v := 20) hx hb dX8_setAgain_25 (by decide) ?_
          refine lv_iload_n hx hb dX8_setAgain_27 rfl (lv_at hl 1 rfl) ?_
          refine lv_iadd hx hb dX8_setAgain_28 ?_
          refine lv_iconst (v := 0) hx hb dX8_setAgain_29 (by decide) ?_
          obtain ⟨hz, hq⟩ := kite_n hq
          refine k_iast (j := (((20 : Int32) + x1).toNatClampNeg)) hx hb hK.1 hP hD hS 0 0 rfl rfl hz rfl dX8_setAgain_30 (fun H locs hP hD hS => ?_)
          have hP : va_P D vwCl [(aR, .inl (cI 0, 79, .inl (upd (upd r 74 ((r 74) + (1 : Int32))) (((20 : Int32) + x1).toNatClampNeg) (0 : Int32))))] H := hP
          have hD : va_D A [(aR, .inl (cI 0, 79, .inl (upd (upd r 74 ((r 74) + (1 : Int32))) (((20 : Int32) + x1).toNatClampNeg) (0 : Int32))))] := hD
          exact b_31 (fn_X8_setAgain_2 q) ih _ _ _ (upd (upd r 74 ((r 74) + (1 : Int32))) (((20 : Int32) + x1).toNatClampNeg) (0 : Int32)) x1 hq hP hD hS (lv_sub hl [0, 1] rfl)
  refine lv_iconst (v := 0) hx hb dX8_setAgain_0 (by decide) ?_
  refine lv_istore_n (lv' := [(1, .int (0 : Int32)), (0, .ref aR)]) hx hb dX8_setAgain_1 rfl hl (by decide) rfl (fun ls hl => ?_)
  exact b_2 4096 _ _ _ r (0 : Int32) hq hP hD hS (lv_sub hl [1, 0] rfl)

set_option maxHeartbeats 4000000 in
set_option maxRecDepth 100000 in
theorem mk_X8_isOver (l : Launch) (D : va_G) (cI : Nat → ClassId) (aR : Nat) (sz : Nat) (r : kF) (o : Int32) (hq : fn_X8_isOver r = some o) : Met l yX8_isOver wsX8_isOver ({ frames := 0, cells := 0, slots := 0, locals := 0 }) (kPc D cI [(aR, .inl (cI 0, 79, .inl r))] sz [.ref aR]) (kQi D [(aR, .inl (cI 0, 79, .inl r))] [(aR, .inl (cI 0, 79, .inl r))] sz o) 0 0 (va_A [(aR, .inl (cI 0, 79, .inl r))] sz) := by
  refine kM_z (cc := cX8_isOver) (maxL := 1) (by decide +kernel) rfl (Nat.le_of_ble_eq_true rfl) ?_
  intro p e s m args below meth c A Q hF hK hG hD hA hend ls hP hS hl
  obtain ⟨hx, hb, hml, hown, hts⟩ := id hF
  have hl : lv_has ls 1 [(0, .ref aR)] := hl
  have b_14 : ∀ (H : Heap) (locs : List Loc) (ls : Array Slot) (k0 : Int32), fn_X8_isOver_14 r k0 = some o → va_P D vwCl [(aR, .inl (cI 0, 79, .inl r))] H → va_S A s.heap H locs → lv_has ls 1 [] → W p l e { frames := 0, cells := 0, slots := 0, locals := 0 } s m args below meth c H locs 0 0 Q (F0 m 14 ls [.int k0]) := by
    intro H locs ls k0
    intro hq hP hS hl
    obtain ⟨hz, hq⟩ := kite_b hq
    have ho := Option.some.inj hq
    subst ho
    exact hend _ _ _ _ hz hP hS dX8_isOver_14
  refine lv_aload_n hx hb dX8_isOver_0 rfl (lv_at hl 0 rfl) ?_
  refine lv_bipush (v := 52) hx hb dX8_isOver_1 (by decide) ?_
  refine k_iald (j := 52) hx hb hK.1 hP 0 0 rfl rfl (by decide) (by decide) dX8_isOver_3 ?_
  refine lv_bipush (v := 10) hx hb dX8_isOver_4 (by decide) ?_
  refine lv_icmp_ne (tgt := 13) hx hb dX8_isOver_6 (by decide) (fun c9 => ?_) (fun c9 => ?_)
  · have hq := kite_f c9 hq
    refine lv_iconst (v := 0) hx hb dX8_isOver_13 (by decide) ?_
    exact b_14  _ _ _ (0 : Int32) hq hP hS (lv_sub hl [] rfl)
  · have hq := kite_t c9 hq
    refine lv_iconst (v := 1) hx hb dX8_isOver_9 (by decide) ?_
    refine lv_goto (tgt := 14) hx hb dX8_isOver_10 (by decide) ?_
    exact b_14  _ _ _ (1 : Int32) hq hP hS (lv_sub hl [] rfl)

set_option maxHeartbeats 4000000 in
set_option maxRecDepth 100000 in
theorem mk_X8_rollOf (l : Launch) (D : va_G) (cI : Nat → ClassId) (aR : Nat) (sz : Nat) (r : kF) (x1 : Int32) (x2 : Int32) (o : Int32) (hq : fn_X8_rollOf r x1 x2 = some o) : Met l yX8_rollOf wsX8_rollOf ({ frames := 0, cells := 0, slots := 0, locals := 0 }) (kPc D cI [(aR, .inl (cI 0, 79, .inl r))] sz [.ref aR, .int x1, .int x2]) (kQi D [(aR, .inl (cI 0, 79, .inl r))] [(aR, .inl (cI 0, 79, .inl r))] sz o) 0 0 (va_A [(aR, .inl (cI 0, 79, .inl r))] sz) := by
  refine kM_i (cc := cX8_rollOf) (maxL := 3) (by decide +kernel) rfl (Nat.le_of_ble_eq_true rfl) ?_
  intro p e s m args below meth c A Q hF hK hG hD hA hend ls hP hS hl
  obtain ⟨hx, hb, hml, hown, hts⟩ := id hF
  have hl : lv_has ls 3 [(0, .ref aR), (1, .int x1), (2, .int x2)] := hl
  have b_27 : ∀ (H : Heap) (locs : List Loc) (ls : Array Slot) (k0 : Int32), fn_X8_rollOf_27 r k0 = some o → va_P D vwCl [(aR, .inl (cI 0, 79, .inl r))] H → va_S A s.heap H locs → lv_has ls 3 [] → W p l e { frames := 0, cells := 0, slots := 0, locals := 0 } s m args below meth c H locs 0 0 Q (F0 m 27 ls [.int k0]) := by
    intro H locs ls k0
    intro hq hP hS hl
    have ho := Option.some.inj hq
    subst ho
    exact hend _ _ _ _ hP hS dX8_rollOf_27
  refine lv_iload_n hx hb dX8_rollOf_0 rfl (lv_at hl 2 rfl) ?_
  refine lv_aload_n hx hb dX8_rollOf_1 rfl (lv_at hl 0 rfl) ?_
  refine lv_bipush (v := 63) hx hb dX8_rollOf_2 (by decide) ?_
  refine lv_iload_n hx hb dX8_rollOf_4 rfl (lv_at hl 1 rfl) ?_
  refine lv_iadd hx hb dX8_rollOf_5 ?_
  obtain ⟨hz, hq⟩ := kite_n hq
  refine k_iald (j := (((63 : Int32) + x1).toNatClampNeg)) hx hb hK.1 hP 0 0 rfl rfl hz rfl dX8_rollOf_6 ?_
  refine lv_icmp_ge (tgt := 26) hx hb dX8_rollOf_7 (by decide) (fun c9 => ?_) (fun c9 => ?_)
  · have hq := kite_t c9 hq
    refine lv_iconst (v := 0) hx hb dX8_rollOf_26 (by decide) ?_
    exact b_27  _ _ _ (0 : Int32) hq hP hS (lv_sub hl [] rfl)
  · have hq := kite_f c9 hq
    refine lv_aload_n hx hb dX8_rollOf_10 rfl (lv_at hl 0 rfl) ?_
    refine lv_bipush (v := 30) hx hb dX8_rollOf_11 (by decide) ?_
    refine lv_aload_n hx hb dX8_rollOf_13 rfl (lv_at hl 0 rfl) ?_
    refine lv_bipush (v := 53) hx hb dX8_rollOf_14 (by decide) ?_
    refine lv_iload_n hx hb dX8_rollOf_16 rfl (lv_at hl 1 rfl) ?_
    refine lv_iadd hx hb dX8_rollOf_17 ?_
    obtain ⟨hz, hq⟩ := kite_n hq
    refine k_iald (j := (((53 : Int32) + x1).toNatClampNeg)) hx hb hK.1 hP 0 0 rfl rfl hz rfl dX8_rollOf_18 ?_
    refine lv_iadd hx hb dX8_rollOf_19 ?_
    refine lv_iload_n hx hb dX8_rollOf_20 rfl (lv_at hl 2 rfl) ?_
    refine lv_iadd hx hb dX8_rollOf_21 ?_
    obtain ⟨hz, hq⟩ := kite_n hq
    refine k_iald (j := ((((30 : Int32) + (r (((53 : Int32) + x1).toNatClampNeg))) + x2).toNatClampNeg)) hx hb hK.1 hP 0 0 rfl rfl hz rfl dX8_rollOf_22 ?_
    refine lv_goto (tgt := 27) hx hb dX8_rollOf_23 (by decide) ?_
    exact b_27  _ _ _ (r ((((30 : Int32) + (r (((53 : Int32) + x1).toNatClampNeg))) + x2).toNatClampNeg)) hq hP hS (lv_sub hl [] rfl)

set_option maxHeartbeats 4000000 in
set_option maxRecDepth 100000 in
theorem mk_X8_markOf (l : Launch) (D : va_G) (cI : Nat → ClassId) (aR : Nat) (sz : Nat) (r : kF) (x1 : Int32) (o : Int32) (hq : fn_X8_markOf r x1 = some o) : Met l yX8_markOf wsX8_markOf ({ frames := 1, cells := 0, slots := 0, locals := 22 }) (kPc D cI [(aR, .inl (cI 0, 79, .inl r))] sz [.ref aR, .int x1]) (kQi D [(aR, .inl (cI 0, 79, .inl r))] [(aR, .inl (cI 0, 79, .inl r))] sz o) 0 0 (va_A [(aR, .inl (cI 0, 79, .inl r))] sz) := by
  refine kM_i (cc := cX8_markOf) (maxL := 2) (by decide +kernel) rfl (Nat.le_of_ble_eq_true rfl) ?_
  intro p e s m args below meth c A Q hF hK hG hD hA hend ls hP hS hl
  obtain ⟨hx, hb, hml, hown, hts⟩ := id hF
  have hl : lv_has ls 2 [(0, .ref aR), (1, .int x1)] := hl
  have b_38 : ∀ (H : Heap) (locs : List Loc) (ls : Array Slot) (k0 : Int32), fn_X8_markOf_38 r k0 = some o → va_P D vwCl [(aR, .inl (cI 0, 79, .inl r))] H → va_S A s.heap H locs → lv_has ls 2 [] → W p l e { frames := 1, cells := 0, slots := 0, locals := 22 } s m args below meth c H locs 0 0 Q (F0 m 38 ls [.int k0]) := by
    intro H locs ls k0
    intro hq hP hS hl
    have ho := Option.some.inj hq
    subst ho
    exact hend _ _ _ _ hP hS dX8_markOf_38
  refine lv_aload_n hx hb dX8_markOf_0 rfl (lv_at hl 0 rfl) ?_
  refine lv_iload_n hx hb dX8_markOf_1 rfl (lv_at hl 1 rfl) ?_
  refine lv_iconst (v := 0) hx hb dX8_markOf_2 (by decide) ?_
  obtain ⟨o3, ho3, hq⟩ := kbind hq
  refine kc_Si (av := [.ref aR, .int x1, .int (0 : Int32)]) (rest := []) hF hK hG hA (mk_X8_rollOf l D cI aR s.heap.size r x1 (0 : Int32) o3 ho3) (va_cwS 3 hts gX8_markOf_X8_rollOf rfl rfl rfl (by decide +kernel) ⟨Nat.le_of_ble_eq_true rfl, Nat.le_of_ble_eq_true rfl⟩) hP hD hS [0] (by decide) rfl rfl rfl hl.1 rfl (Nat.le_of_ble_eq_true rfl) ⟨Nat.zero_le _, Nat.zero_le _⟩ dX8_markOf_3 (fun H locs hP hD hS => ?_)
  have hP : va_P D vwCl [(aR, .inl (cI 0, 79, .inl r))] H := hP
  have hD : va_D A [(aR, .inl (cI 0, 79, .inl r))] := hD
  refine lv_bipush (v := 10) hx hb dX8_markOf_6 (by decide) ?_
  refine lv_icmp_ne (tgt := 15) hx hb dX8_markOf_8 (by decide) (fun c9 => ?_) (fun c9 => ?_)
  · have hq := kite_f c9 hq
    refine lv_aload_n hx hb dX8_markOf_15 rfl (lv_at hl 0 rfl) ?_
    refine lv_iload_n hx hb dX8_markOf_16 rfl (lv_at hl 1 rfl) ?_
    refine lv_iconst (v := 0) hx hb dX8_markOf_17 (by decide) ?_
    obtain ⟨o18, ho18, hq⟩ := kbind hq
    refine kc_Si (av := [.ref aR, .int x1, .int (0 : Int32)]) (rest := []) hF hK hG hA (mk_X8_rollOf l D cI aR H.size r x1 (0 : Int32) o18 ho18) (va_cwS 3 hts gX8_markOf_X8_rollOf rfl rfl rfl (by decide +kernel) ⟨Nat.le_of_ble_eq_true rfl, Nat.le_of_ble_eq_true rfl⟩) hP hD hS [0] (by decide) rfl rfl rfl hl.1 rfl (Nat.le_of_ble_eq_true rfl) ⟨Nat.zero_le _, Nat.zero_le _⟩ dX8_markOf_18 (fun H locs hP hD hS => ?_)
    have hP : va_P D vwCl [(aR, .inl (cI 0, 79, .inl r))] H := hP
    have hD : va_D A [(aR, .inl (cI 0, 79, .inl r))] := hD
    refine lv_aload_n hx hb dX8_markOf_21 rfl (lv_at hl 0 rfl) ?_
    refine lv_iload_n hx hb dX8_markOf_22 rfl (lv_at hl 1 rfl) ?_
    refine lv_iconst (v := 1) hx hb dX8_markOf_23 (by decide) ?_
    obtain ⟨o24, ho24, hq⟩ := kbind hq
    refine kc_Si (av := [.ref aR, .int x1, .int (1 : Int32)]) (rest := [.int o18]) hF hK hG hA (mk_X8_rollOf l D cI aR H.size r x1 (1 : Int32) o24 ho24) (va_cwS 3 hts gX8_markOf_X8_rollOf rfl rfl rfl (by decide +kernel) ⟨Nat.le_of_ble_eq_true rfl, Nat.le_of_ble_eq_true rfl⟩) hP hD hS [0] (by decide) rfl rfl rfl hl.1 rfl (Nat.le_of_ble_eq_true rfl) ⟨Nat.zero_le _, Nat.zero_le _⟩ dX8_markOf_24 (fun H locs hP hD hS => ?_)
    have hP : va_P D vwCl [(aR, .inl (cI 0, 79, .inl r))] H := hP
    have hD : va_D A [(aR, .inl (cI 0, 79, .inl r))] := hD
    refine lv_iadd hx hb dX8_markOf_27 ?_
    refine lv_bipush (v := 10) hx hb dX8_markOf_28 (by decide) ?_
    refine lv_icmp_ne (tgt := 37) hx hb dX8_markOf_30 (by decide) (fun c9 => ?_) (fun c9 => ?_)
    · have hq := kite_f c9 hq
      refine lv_iconst (v := 0) hx hb dX8_markOf_37 (by decide) ?_
      exact b_38  _ _ _ (0 : Int32) hq hP hS (lv_sub hl [] rfl)
    · have hq := kite_t c9 hq
      refine lv_iconst (v := 2) hx hb dX8_markOf_33 (by decide) ?_
      refine lv_goto (tgt := 38) hx hb dX8_markOf_34 (by decide) ?_
      exact b_38  _ _ _ (2 : Int32) hq hP hS (lv_sub hl [] rfl)
  · have hq := kite_t c9 hq
    refine lv_iconst (v := 1) hx hb dX8_markOf_11 (by decide) ?_
    refine lv_goto (tgt := 38) hx hb dX8_markOf_12 (by decide) ?_
    exact b_38  _ _ _ (1 : Int32) hq hP hS (lv_sub hl [] rfl)

set_option maxHeartbeats 4000000 in
set_option maxRecDepth 100000 in
theorem mk_X8_later (l : Launch) (D : va_G) (cI : Nat → ClassId) (aR : Nat) (sz : Nat) (r : kF) (x1 : Int32) (o : Int32) (hq : fn_X8_later r x1 = some o) : Met l yX8_later wsX8_later ({ frames := 0, cells := 0, slots := 0, locals := 0 }) (kPc D cI [(aR, .inl (cI 0, 79, .inl r))] sz [.ref aR, .int x1]) (kQi D [(aR, .inl (cI 0, 79, .inl r))] [(aR, .inl (cI 0, 79, .inl r))] sz o) 0 0 (va_A [(aR, .inl (cI 0, 79, .inl r))] sz) := by
  refine kM_i (cc := cX8_later) (maxL := 2) (by decide +kernel) rfl (Nat.le_of_ble_eq_true rfl) ?_
  intro p e s m args below meth c A Q hF hK hG hD hA hend ls hP hS hl
  obtain ⟨hx, hb, hml, hown, hts⟩ := id hF
  have hl : lv_has ls 2 [(0, .ref aR), (1, .int x1)] := hl
  have b_18 : ∀ (H : Heap) (locs : List Loc) (ls : Array Slot) (k0 : Int32), fn_X8_later_18 r k0 = some o → va_P D vwCl [(aR, .inl (cI 0, 79, .inl r))] H → va_S A s.heap H locs → lv_has ls 2 [] → W p l e { frames := 0, cells := 0, slots := 0, locals := 0 } s m args below meth c H locs 0 0 Q (F0 m 18 ls [.int k0]) := by
    intro H locs ls k0
    intro hq hP hS hl
    have ho := Option.some.inj hq
    subst ho
    exact hend _ _ _ _ hP hS dX8_later_18
  refine lv_iload_n hx hb dX8_later_0 rfl (lv_at hl 1 rfl) ?_
  refine lv_aload_n hx hb dX8_later_1 rfl (lv_at hl 0 rfl) ?_
  refine lv_bipush (v := 51) hx hb dX8_later_2 (by decide) ?_
  refine k_iald (j := 51) hx hb hK.1 hP 0 0 rfl rfl (by decide) (by decide) dX8_later_4 ?_
  refine lv_icmp_ge (tgt := 17) hx hb dX8_later_5 (by decide) (fun c9 => ?_) (fun c9 => ?_)
  · have hq := kite_t c9 hq
    refine lv_iconst (v := 0) hx hb dX8_later_17 (by decide) ?_
    exact b_18  _ _ _ (0 : Int32) hq hP hS (lv_sub hl [] rfl)
  · have hq := kite_f c9 hq
    refine lv_aload_n hx hb dX8_later_8 rfl (lv_at hl 0 rfl) ?_
    refine lv_bipush (v := 30) hx hb dX8_later_9 (by decide) ?_
    refine lv_iload_n hx hb dX8_later_11 rfl (lv_at hl 1 rfl) ?_
    refine lv_iadd hx hb dX8_later_12 ?_
    obtain ⟨hz, hq⟩ := kite_n hq
    refine k_iald (j := (((30 : Int32) + x1).toNatClampNeg)) hx hb hK.1 hP 0 0 rfl rfl hz rfl dX8_later_13 ?_
    refine lv_goto (tgt := 18) hx hb dX8_later_14 (by decide) ?_
    exact b_18  _ _ _ (r (((30 : Int32) + x1).toNatClampNeg)) hq hP hS (lv_sub hl [] rfl)

set_option maxHeartbeats 4000000 in
set_option maxRecDepth 100000 in
theorem mk_X8_pointsOf (l : Launch) (D : va_G) (cI : Nat → ClassId) (aR : Nat) (sz : Nat) (r : kF) (x1 : Int32) (o : Int32) (hq : fn_X8_pointsOf r x1 = some o) : Met l yX8_pointsOf wsX8_pointsOf ({ frames := 2, cells := 0, slots := 0, locals := 43 }) (kPc D cI [(aR, .inl (cI 0, 79, .inl r))] sz [.ref aR, .int x1]) (kQi D [(aR, .inl (cI 0, 79, .inl r))] [(aR, .inl (cI 0, 79, .inl r))] sz o) 0 0 (va_A [(aR, .inl (cI 0, 79, .inl r))] sz) := by
  refine kM_i (cc := cX8_pointsOf) (maxL := 5) (by decide +kernel) rfl (Nat.le_of_ble_eq_true rfl) ?_
  intro p e s m args below meth c A Q hF hK hG hD hA hend ls hP hS hl
  obtain ⟨hx, hb, hml, hown, hts⟩ := id hF
  have hl : lv_has ls 5 [(0, .ref aR), (1, .int x1)] := hl
  have b_79 : ∀ (H : Heap) (locs : List Loc) (ls : Array Slot) (x2 : Int32), fn_X8_pointsOf_79 r x2 = some o → va_P D vwCl [(aR, .inl (cI 0, 79, .inl r))] H → va_S A s.heap H locs → lv_has ls 5 [(2, .int x2)] → W p l e { frames := 2, cells := 0, slots := 0, locals := 43 } s m args below meth c H locs 0 0 Q (F0 m 79 ls []) := by
    intro H locs ls x2
    intro hq hP hS hl
    refine lv_iload_n hx hb dX8_pointsOf_79 rfl (lv_at hl 0 rfl) ?_
    have ho := Option.some.inj hq
    subst ho
    exact hend _ _ _ _ hP hS dX8_pointsOf_80
  have b_76 : ∀ (H : Heap) (locs : List Loc) (ls : Array Slot) (k0 : Int32) (k1 : Int32) (k2 : Int32), fn_X8_pointsOf_76 r k0 k1 k2 = some o → va_P D vwCl [(aR, .inl (cI 0, 79, .inl r))] H → va_S A s.heap H locs → lv_has ls 5 [] → W p l e { frames := 2, cells := 0, slots := 0, locals := 43 } s m args below meth c H locs 0 0 Q (F0 m 76 ls [.int k2, .int k1, .int k0]) := by
    intro H locs ls k0 k1 k2
    intro hq hP hS hl
    refine lv_iadd hx hb dX8_pointsOf_76 ?_
    refine lv_iadd hx hb dX8_pointsOf_77 ?_
    refine lv_istore_n (lv' := [(2, .int (k0 + (k1 + k2)))]) hx hb dX8_pointsOf_78 rfl hl (by decide) rfl (fun ls hl => ?_)
    exact b_79  _ _ _ (k0 + (k1 + k2)) hq hP hS (lv_sub hl [0] rfl)
  refine lv_aload_n hx hb dX8_pointsOf_0 rfl (lv_at hl 0 rfl) ?_
  refine lv_iload_n hx hb dX8_pointsOf_1 rfl (lv_at hl 1 rfl) ?_
  refine lv_iconst (v := 0) hx hb dX8_pointsOf_2 (by decide) ?_
  obtain ⟨o3, ho3, hq⟩ := kbind hq
  refine kc_Si (av := [.ref aR, .int x1, .int (0 : Int32)]) (rest := []) hF hK hG hA (mk_X8_rollOf l D cI aR s.heap.size r x1 (0 : Int32) o3 ho3) (va_cwS 3 hts gX8_pointsOf_X8_rollOf rfl rfl rfl (by decide +kernel) ⟨Nat.le_of_ble_eq_true rfl, Nat.le_of_ble_eq_true rfl⟩) hP hD hS [0] (by decide) rfl rfl rfl hl.1 rfl (Nat.le_of_ble_eq_true rfl) ⟨Nat.zero_le _, Nat.zero_le _⟩ dX8_pointsOf_3 (fun H locs hP hD hS => ?_)
  have hP : va_P D vwCl [(aR, .inl (cI 0, 79, .inl r))] H := hP
  have hD : va_D A [(aR, .inl (cI 0, 79, .inl r))] := hD
  refine lv_aload_n hx hb dX8_pointsOf_6 rfl (lv_at hl 0 rfl) ?_
  refine lv_iload_n hx hb dX8_pointsOf_7 rfl (lv_at hl 1 rfl) ?_
  refine lv_iconst (v := 1) hx hb dX8_pointsOf_8 (by decide) ?_
  obtain ⟨o9, ho9, hq⟩ := kbind hq
  refine kc_Si (av := [.ref aR, .int x1, .int (1 : Int32)]) (rest := [.int o3]) hF hK hG hA (mk_X8_rollOf l D cI aR H.size r x1 (1 : Int32) o9 ho9) (va_cwS 3 hts gX8_pointsOf_X8_rollOf rfl rfl rfl (by decide +kernel) ⟨Nat.le_of_ble_eq_true rfl, Nat.le_of_ble_eq_true rfl⟩) hP hD hS [0] (by decide) rfl rfl rfl hl.1 rfl (Nat.le_of_ble_eq_true rfl) ⟨Nat.zero_le _, Nat.zero_le _⟩ dX8_pointsOf_9 (fun H locs hP hD hS => ?_)
  have hP : va_P D vwCl [(aR, .inl (cI 0, 79, .inl r))] H := hP
  have hD : va_D A [(aR, .inl (cI 0, 79, .inl r))] := hD
  refine lv_iadd hx hb dX8_pointsOf_12 ?_
  refine lv_aload_n hx hb dX8_pointsOf_13 rfl (lv_at hl 0 rfl) ?_
  refine lv_iload_n hx hb dX8_pointsOf_14 rfl (lv_at hl 1 rfl) ?_
  refine lv_iconst (v := 2) hx hb dX8_pointsOf_15 (by decide) ?_
  obtain ⟨o16, ho16, hq⟩ := kbind hq
  refine kc_Si (av := [.ref aR, .int x1, .int (2 : Int32)]) (rest := [.int (o3 + o9)]) hF hK hG hA (mk_X8_rollOf l D cI aR H.size r x1 (2 : Int32) o16 ho16) (va_cwS 3 hts gX8_pointsOf_X8_rollOf rfl rfl rfl (by decide +kernel) ⟨Nat.le_of_ble_eq_true rfl, Nat.le_of_ble_eq_true rfl⟩) hP hD hS [0] (by decide) rfl rfl rfl hl.1 rfl (Nat.le_of_ble_eq_true rfl) ⟨Nat.zero_le _, Nat.zero_le _⟩ dX8_pointsOf_16 (fun H locs hP hD hS => ?_)
  have hP : va_P D vwCl [(aR, .inl (cI 0, 79, .inl r))] H := hP
  have hD : va_D A [(aR, .inl (cI 0, 79, .inl r))] := hD
  refine lv_iadd hx hb dX8_pointsOf_19 ?_
  refine lv_istore_n (lv' := [(2, .int ((o3 + o9) + o16)), (0, .ref aR), (1, .int x1)]) hx hb dX8_pointsOf_20 rfl hl (by decide) rfl (fun ls hl => ?_)
  refine lv_aload_n hx hb dX8_pointsOf_21 rfl (lv_at hl 1 rfl) ?_
  refine lv_iload_n hx hb dX8_pointsOf_22 rfl (lv_at hl 2 rfl) ?_
  obtain ⟨o23, ho23, hq⟩ := kbind hq
  refine kc_Si (av := [.ref aR, .int x1]) (rest := []) hF hK hG hA (mk_X8_markOf l D cI aR H.size r x1 o23 ho23) (va_cwS 2 hts gX8_pointsOf_X8_markOf rfl rfl rfl (by decide +kernel) ⟨Nat.le_of_ble_eq_true rfl, Nat.le_of_ble_eq_true rfl⟩) hP hD hS [0] (by decide) rfl rfl rfl hl.1 rfl (Nat.le_of_ble_eq_true rfl) ⟨Nat.zero_le _, Nat.zero_le _⟩ dX8_pointsOf_23 (fun H locs hP hD hS => ?_)
  have hP : va_P D vwCl [(aR, .inl (cI 0, 79, .inl r))] H := hP
  have hD : va_D A [(aR, .inl (cI 0, 79, .inl r))] := hD
  refine lv_istore_n (lv' := [(3, .int o23), (2, .int ((o3 + o9) + o16)), (0, .ref aR), (1, .int x1)]) hx hb dX8_pointsOf_26 rfl hl (by decide) rfl (fun ls hl => ?_)
  refine lv_aload_n hx hb dX8_pointsOf_27 rfl (lv_at hl 2 rfl) ?_
  refine lv_bipush (v := 53) hx hb dX8_pointsOf_28 (by decide) ?_
  refine lv_iload_n hx hb dX8_pointsOf_30 rfl (lv_at hl 3 rfl) ?_
  refine lv_iadd hx hb dX8_pointsOf_31 ?_
  obtain ⟨hz, hq⟩ := kite_n hq
  refine k_iald (j := (((53 : Int32) + x1).toNatClampNeg)) hx hb hK.1 hP 0 0 rfl rfl hz rfl dX8_pointsOf_32 ?_
  refine lv_aload_n hx hb dX8_pointsOf_33 rfl (lv_at hl 2 rfl) ?_
  refine lv_bipush (v := 63) hx hb dX8_pointsOf_34 (by decide) ?_
  refine lv_iload_n hx hb dX8_pointsOf_36 rfl (lv_at hl 3 rfl) ?_
  refine lv_iadd hx hb dX8_pointsOf_37 ?_
  obtain ⟨hz, hq⟩ := kite_n hq
  refine k_iald (j := (((63 : Int32) + x1).toNatClampNeg)) hx hb hK.1 hP 0 0 rfl rfl hz rfl dX8_pointsOf_38 ?_
  refine lv_iadd hx hb dX8_pointsOf_39 ?_
  refine lv_istore (lv' := [(4, .int ((r (((53 : Int32) + x1).toNatClampNeg)) + (r (((63 : Int32) + x1).toNatClampNeg)))), (3, .int o23), (2, .int ((o3 + o9) + o16)), (0, .ref aR), (1, .int x1)]) hx hb dX8_pointsOf_40 hl (by decide) rfl (fun ls hl => ?_)
  refine lv_iload_n hx hb dX8_pointsOf_42 rfl (lv_at hl 4 rfl) ?_
  refine lv_bipush (v := 9) hx hb dX8_pointsOf_43 (by decide) ?_
  refine lv_icmp_ge (tgt := 79) hx hb dX8_pointsOf_45 (by decide) (fun c9 => ?_) (fun c9 => ?_)
  · have hq := kite_t c9 hq
    exact b_79  _ _ _ ((o3 + o9) + o16) hq hP hS (lv_sub hl [2] rfl)
  · have hq := kite_f c9 hq
    refine lv_iload_n hx hb dX8_pointsOf_48 rfl (lv_at hl 1 rfl) ?_
    refine lv_if_le (tgt := 79) hx hb dX8_pointsOf_49 (by decide) (fun c9 => ?_) (fun c9 => ?_)
    · have hq := kite_t c9 hq
      exact b_79  _ _ _ ((o3 + o9) + o16) hq hP hS (lv_sub hl [2] rfl)
    · have hq := kite_f c9 hq
      refine lv_iload_n hx hb dX8_pointsOf_52 rfl (lv_at hl 2 rfl) ?_
      refine lv_aload_n hx hb dX8_pointsOf_53 rfl (lv_at hl 3 rfl) ?_
      refine lv_iload hx hb dX8_pointsOf_54 (lv_at hl 0 rfl) ?_
      obtain ⟨o56, ho56, hq⟩ := kbind hq
      refine kc_Si (av := [.ref aR, .int ((r (((53 : Int32) + x1).toNatClampNeg)) + (r (((63 : Int32) + x1).toNatClampNeg)))]) (rest := [.int ((o3 + o9) + o16)]) hF hK hG hA (mk_X8_later l D cI aR H.size r ((r (((53 : Int32) + x1).toNatClampNeg)) + (r (((63 : Int32) + x1).toNatClampNeg))) o56 ho56) (va_cwS 2 hts gX8_pointsOf_X8_later rfl rfl rfl (by decide +kernel) ⟨Nat.le_of_ble_eq_true rfl, Nat.le_of_ble_eq_true rfl⟩) hP hD hS [0] (by decide) rfl rfl rfl hl.1 rfl (Nat.le_of_ble_eq_true rfl) ⟨Nat.zero_le _, Nat.zero_le _⟩ dX8_pointsOf_56 (fun H locs hP hD hS => ?_)
      have hP : va_P D vwCl [(aR, .inl (cI 0, 79, .inl r))] H := hP
      have hD : va_D A [(aR, .inl (cI 0, 79, .inl r))] := hD
      refine lv_iload_n hx hb dX8_pointsOf_59 rfl (lv_at hl 1 rfl) ?_
      refine lv_iconst (v := 1) hx hb dX8_pointsOf_60 (by decide) ?_
      refine lv_icmp_ne (tgt := 75) hx hb dX8_pointsOf_61 (by decide) (fun c9 => ?_) (fun c9 => ?_)
      · have hq := kite_f c9 hq
        refine lv_iconst (v := 0) hx hb dX8_pointsOf_75 (by decide) ?_
        exact b_76  _ _ _ ((o3 + o9) + o16) o56 (0 : Int32) hq hP hS (lv_sub hl [] rfl)
      · have hq := kite_t c9 hq
        refine lv_aload_n hx hb dX8_pointsOf_64 rfl (lv_at hl 3 rfl) ?_
        refine lv_iload hx hb dX8_pointsOf_65 (lv_at hl 0 rfl) ?_
        refine lv_iconst (v := 1) hx hb dX8_pointsOf_67 (by decide) ?_
        refine lv_iadd hx hb dX8_pointsOf_68 ?_
        obtain ⟨o69, ho69, hq⟩ := kbind hq
        refine kc_Si (av := [.ref aR, .int (((r (((53 : Int32) + x1).toNatClampNeg)) + (r (((63 : Int32) + x1).toNatClampNeg))) + (1 : Int32))]) (rest := [.int o56, .int ((o3 + o9) + o16)]) hF hK hG hA (mk_X8_later l D cI aR H.size r (((r (((53 : Int32) + x1).toNatClampNeg)) + (r (((63 : Int32) + x1).toNatClampNeg))) + (1 : Int32)) o69 ho69) (va_cwS 2 hts gX8_pointsOf_X8_later rfl rfl rfl (by decide +kernel) ⟨Nat.le_of_ble_eq_true rfl, Nat.le_of_ble_eq_true rfl⟩) hP hD hS [0] (by decide) rfl rfl rfl hl.1 rfl (Nat.le_of_ble_eq_true rfl) ⟨Nat.zero_le _, Nat.zero_le _⟩ dX8_pointsOf_69 (fun H locs hP hD hS => ?_)
        have hP : va_P D vwCl [(aR, .inl (cI 0, 79, .inl r))] H := hP
        have hD : va_D A [(aR, .inl (cI 0, 79, .inl r))] := hD
        refine lv_goto (tgt := 76) hx hb dX8_pointsOf_72 (by decide) ?_
        exact b_76  _ _ _ ((o3 + o9) + o16) o56 o69 hq hP hS (lv_sub hl [] rfl)

set_option maxHeartbeats 4000000 in
set_option maxRecDepth 100000 in
theorem mk_X8_points (l : Launch) (D : va_G) (cI : Nat → ClassId) (aR : Nat) (sz : Nat) (r : kF) (o : Int32) (hq : fn_X8_points r = some o) : Met l yX8_points wsX8_points ({ frames := 3, cells := 0, slots := 0, locals := 67 }) (kPc D cI [(aR, .inl (cI 0, 79, .inl r))] sz [.ref aR]) (kQi D [(aR, .inl (cI 0, 79, .inl r))] [(aR, .inl (cI 0, 79, .inl r))] sz o) 0 0 (va_A [(aR, .inl (cI 0, 79, .inl r))] sz) := by
  refine kM_i (cc := cX8_points) (maxL := 3) (by decide +kernel) rfl (Nat.le_of_ble_eq_true rfl) ?_
  intro p e s m args below meth c A Q hF hK hG hD hA hend ls hP hS hl
  obtain ⟨hx, hb, hml, hown, hts⟩ := id hF
  have hl : lv_has ls 3 [(0, .ref aR)] := hl
  have b_4 : ∀ (q : Nat), ∀ (H : Heap) (locs : List Loc) (ls : Array Slot) (x1 : Int32) (x2 : Int32), fn_X8_points_4 q r x1 x2 = some o → va_P D vwCl [(aR, .inl (cI 0, 79, .inl r))] H → va_S A s.heap H locs → lv_has ls 3 [(0, .ref aR), (1, .int x1), (2, .int x2)] → W p l e { frames := 3, cells := 0, slots := 0, locals := 67 } s m args below meth c H locs 0 0 Q (F0 m 4 ls []) := by
    intro q
    induction q with
    | zero =>
      intro H locs ls x1 x2
      intro hq
      cases hq
    | succ q ih =>
      intro H locs ls x1 x2
      intro hq hP hS hl
      refine lv_iload_n hx hb dX8_points_4 rfl (lv_at hl 2 rfl) ?_
      refine lv_bipush (v := 10) hx hb dX8_points_5 (by decide) ?_
      refine lv_icmp_ge (tgt := 24) hx hb dX8_points_7 (by decide) (fun c9 => ?_) (fun c9 => ?_)
      · have hq := kite_t c9 hq
        refine lv_iload_n hx hb dX8_points_24 rfl (lv_at hl 1 rfl) ?_
        have ho := Option.some.inj hq
        subst ho
        exact hend _ _ _ _ hP hS dX8_points_25
      · have hq := kite_f c9 hq
        refine lv_iload_n hx hb dX8_points_10 rfl (lv_at hl 1 rfl) ?_
        refine lv_aload_n hx hb dX8_points_11 rfl (lv_at hl 0 rfl) ?_
        refine lv_iload_n hx hb dX8_points_12 rfl (lv_at hl 2 rfl) ?_
        obtain ⟨o13, ho13, hq⟩ := kbind hq
        refine kc_Si (av := [.ref aR, .int x2]) (rest := [.int x1]) hF hK hG hA (mk_X8_pointsOf l D cI aR H.size r x2 o13 ho13) (va_cwS 2 hts gX8_points_X8_pointsOf rfl rfl rfl (by decide +kernel) ⟨Nat.le_of_ble_eq_true rfl, Nat.le_of_ble_eq_true rfl⟩) hP hD hS [0] (by decide) rfl rfl rfl hl.1 rfl (Nat.le_of_ble_eq_true rfl) ⟨Nat.zero_le _, Nat.zero_le _⟩ dX8_points_13 (fun H locs hP hD hS => ?_)
        have hP : va_P D vwCl [(aR, .inl (cI 0, 79, .inl r))] H := hP
        have hD : va_D A [(aR, .inl (cI 0, 79, .inl r))] := hD
        refine lv_iadd hx hb dX8_points_16 ?_
        refine lv_istore_n (lv' := [(1, .int (x1 + o13)), (0, .ref aR), (2, .int x2)]) hx hb dX8_points_17 rfl hl (by decide) rfl (fun ls hl => ?_)
        refine lv_iinc (v := (x2 + 1)) (lv' := [(2, .int (x2 + 1)), (1, .int (x1 + o13)), (0, .ref aR)]) hx hb dX8_points_18 hl (k := 2) rfl rfl (by decide) rfl (fun ls hl => ?_)
        refine lv_goto (tgt := 4) hx hb dX8_points_21 (by decide) ?_
        exact ih _ _ _ (x1 + o13) (x2 + 1) hq hP hS (lv_sub hl [2, 1, 0] rfl)
  refine lv_iconst (v := 0) hx hb dX8_points_0 (by decide) ?_
  refine lv_istore_n (lv' := [(1, .int (0 : Int32)), (0, .ref aR)]) hx hb dX8_points_1 rfl hl (by decide) rfl (fun ls hl => ?_)
  refine lv_iconst (v := 0) hx hb dX8_points_2 (by decide) ?_
  refine lv_istore_n (lv' := [(2, .int (0 : Int32)), (1, .int (0 : Int32)), (0, .ref aR)]) hx hb dX8_points_3 rfl hl (by decide) rfl (fun ls hl => ?_)
  exact b_4 4096 _ _ _ (0 : Int32) (0 : Int32) hq hP hS (lv_sub hl [2, 1, 0] rfl)

set_option maxHeartbeats 4000000 in
set_option maxRecDepth 100000 in
theorem mk_X8_goOn (l : Launch) (D : va_G) (cI : Nat → ClassId) (aR : Nat) (sz : Nat) (r : kF) (o : kF) (hq : fn_X8_goOn r = some o) : Met l yX8_goOn wsX8_goOn ({ frames := 2, cells := 0, slots := 0, locals := 43 }) (kPc D cI [(aR, .inl (cI 0, 79, .inl r))] sz [.ref aR]) (kQv D [(aR, .inl (cI 0, 79, .inl r))] [(aR, .inl (cI 0, 79, .inl o))] sz) 0 0 (va_A [(aR, .inl (cI 0, 79, .inl r))] sz) := by
  refine kM_v (cc := cX8_goOn) (maxL := 4) (by decide +kernel) rfl (Nat.le_of_ble_eq_true rfl) ?_
  intro p e s m args below meth c A Q hF hK hG hD hA hend ls hP hS hl
  obtain ⟨hx, hb, hml, hown, hts⟩ := id hF
  have hl : lv_has ls 4 [(0, .ref aR)] := hl
  have b_134 : ∀ (H : Heap) (locs : List Loc) (ls : Array Slot) (r : kF), fn_X8_goOn_134 r = some o → va_P D vwCl [(aR, .inl (cI 0, 79, .inl r))] H → va_D A [(aR, .inl (cI 0, 79, .inl r))] → va_S A s.heap H locs → lv_has ls 4 [] → W p l e { frames := 2, cells := 0, slots := 0, locals := 43 } s m args below meth c H locs 0 0 Q (F0 m 134 ls []) := by
    intro H locs ls r
    intro hq hP hD hS hl
    have ho := Option.some.inj hq
    subst ho
    exact hend _ _ _ _ hP hS dX8_goOn_134
  have b_83 : ∀ (H : Heap) (locs : List Loc) (ls : Array Slot) (r : kF), fn_X8_goOn_83 r = some o → va_P D vwCl [(aR, .inl (cI 0, 79, .inl r))] H → va_D A [(aR, .inl (cI 0, 79, .inl r))] → va_S A s.heap H locs → lv_has ls 4 [(0, .ref aR)] → W p l e { frames := 2, cells := 0, slots := 0, locals := 43 } s m args below meth c H locs 0 0 Q (F0 m 83 ls []) := by
    intro H locs ls r
    intro hq hP hD hS hl
    refine lv_aload_n hx hb dX8_goOn_83 rfl (lv_at hl 0 rfl) ?_
    refine lv_bipush (v := 52) hx hb dX8_goOn_84 (by decide) ?_
    refine lv_dup2_11 hx hb dX8_goOn_86 rfl rfl ?_
    refine k_iald (j := 52) hx hb hK.1 hP 0 0 rfl rfl (by decide) (by decide) dX8_goOn_87 ?_
    refine lv_iconst (v := 1) hx hb dX8_goOn_88 (by decide) ?_
    refine lv_iadd hx hb dX8_goOn_89 ?_
    refine k_iast (j := 52) hx hb hK.1 hP hD hS 0 0 rfl rfl (by decide) (by decide) dX8_goOn_90 (fun H locs hP hD hS => ?_)
    have hP : va_P D vwCl [(aR, .inl (cI 0, 79, .inl (upd r 52 ((r 52) + (1 : Int32)))))] H := hP
    have hD : va_D A [(aR, .inl (cI 0, 79, .inl (upd r 52 ((r 52) + (1 : Int32)))))] := hD
    refine lv_goto (tgt := 134) hx hb dX8_goOn_91 (by decide) ?_
    exact b_134  _ _ _ (upd r 52 ((r 52) + (1 : Int32))) hq hP hD hS (lv_sub hl [] rfl)
  have b_123 : ∀ (H : Heap) (locs : List Loc) (ls : Array Slot) (r : kF), fn_X8_goOn_123 r = some o → va_P D vwCl [(aR, .inl (cI 0, 79, .inl r))] H → va_D A [(aR, .inl (cI 0, 79, .inl r))] → va_S A s.heap H locs → lv_has ls 4 [(0, .ref aR)] → W p l e { frames := 2, cells := 0, slots := 0, locals := 43 } s m args below meth c H locs 0 0 Q (F0 m 123 ls []) := by
    intro H locs ls r
    intro hq hP hD hS hl
    refine lv_aload_n hx hb dX8_goOn_123 rfl (lv_at hl 0 rfl) ?_
    obtain ⟨o124, ho124, hq⟩ := kbind hq
    refine kc_Sv (av := [.ref aR]) (rest := []) hF hK hG hA (mk_X8_rack l D cI aR H.size r o124 ho124) (va_cwS 1 hts gX8_goOn_X8_rack rfl rfl rfl (by decide +kernel) ⟨Nat.le_of_ble_eq_true rfl, Nat.le_of_ble_eq_true rfl⟩) hP hD hS [0] (by decide) rfl rfl rfl hl.1 rfl (Nat.le_of_ble_eq_true rfl) ⟨Nat.zero_le _, Nat.zero_le _⟩ dX8_goOn_124 (fun H locs hP hD hS => ?_)
    have hP : va_P D vwCl [(aR, .inl (cI 0, 79, .inl o124))] H := hP
    have hD : va_D A [(aR, .inl (cI 0, 79, .inl o124))] := hD
    refine lv_goto (tgt := 134) hx hb dX8_goOn_127 (by decide) ?_
    exact b_134  _ _ _ o124 hq hP hD hS (lv_sub hl [] rfl)
  have b_130 : ∀ (H : Heap) (locs : List Loc) (ls : Array Slot) (r : kF), fn_X8_goOn_130 r = some o → va_P D vwCl [(aR, .inl (cI 0, 79, .inl r))] H → va_D A [(aR, .inl (cI 0, 79, .inl r))] → va_S A s.heap H locs → lv_has ls 4 [(0, .ref aR)] → W p l e { frames := 2, cells := 0, slots := 0, locals := 43 } s m args below meth c H locs 0 0 Q (F0 m 130 ls []) := by
    intro H locs ls r
    intro hq hP hD hS hl
    refine lv_aload_n hx hb dX8_goOn_130 rfl (lv_at hl 0 rfl) ?_
    obtain ⟨o131, ho131, hq⟩ := kbind hq
    refine kc_Sv (av := [.ref aR]) (rest := []) hF hK hG hA (mk_X8_setAgain l D cI aR H.size r o131 ho131) (va_cwS 1 hts gX8_goOn_X8_setAgain rfl rfl rfl (by decide +kernel) ⟨Nat.le_of_ble_eq_true rfl, Nat.le_of_ble_eq_true rfl⟩) hP hD hS [0] (by decide) rfl rfl rfl hl.1 rfl (Nat.le_of_ble_eq_true rfl) ⟨Nat.zero_le _, Nat.zero_le _⟩ dX8_goOn_131 (fun H locs hP hD hS => ?_)
    have hP : va_P D vwCl [(aR, .inl (cI 0, 79, .inl o131))] H := hP
    have hD : va_D A [(aR, .inl (cI 0, 79, .inl o131))] := hD
    exact b_134  _ _ _ o131 hq hP hD hS (lv_sub hl [] rfl)
  have b_94 : ∀ (H : Heap) (locs : List Loc) (ls : Array Slot) (r : kF) (x1 : Int32) (x2 : Int32) (x3 : Int32), fn_X8_goOn_94 r x1 x2 x3 = some o → va_P D vwCl [(aR, .inl (cI 0, 79, .inl r))] H → va_D A [(aR, .inl (cI 0, 79, .inl r))] → va_S A s.heap H locs → lv_has ls 4 [(0, .ref aR), (1, .int x1), (2, .int x2), (3, .int x3)] → W p l e { frames := 2, cells := 0, slots := 0, locals := 43 } s m args below meth c H locs 0 0 Q (F0 m 94 ls []) := by
    intro H locs ls r x1 x2 x3
    intro hq hP hD hS hl
    refine lv_iload_n hx hb dX8_goOn_94 rfl (lv_at hl 2 rfl) ?_
    refine lv_iconst (v := 1) hx hb dX8_goOn_95 (by decide) ?_
    refine lv_icmp_ne (tgt := 107) hx hb dX8_goOn_96 (by decide) (fun c9 => ?_) (fun c9 => ?_)
    · have hq := kite_f c9 hq
      refine lv_iload_n hx hb dX8_goOn_107 rfl (lv_at hl 3 rfl) ?_
      refine lv_iconst (v := 2) hx hb dX8_goOn_108 (by decide) ?_
      refine lv_icmp_eq (tgt := 123) hx hb dX8_goOn_109 (by decide) (fun c9 => ?_) (fun c9 => ?_)
      · have hq := kite_t c9 hq
        exact b_123  _ _ _ r hq hP hD hS (lv_sub hl [0] rfl)
      · have hq := kite_f c9 hq
        refine lv_aload_n hx hb dX8_goOn_112 rfl (lv_at hl 0 rfl) ?_
        refine lv_iload_n hx hb dX8_goOn_113 rfl (lv_at hl 1 rfl) ?_
        refine lv_iconst (v := 1) hx hb dX8_goOn_114 (by decide) ?_
        obtain ⟨o115, ho115, hq⟩ := kbind hq
        refine kc_Si (av := [.ref aR, .int x1, .int (1 : Int32)]) (rest := []) hF hK hG hA (mk_X8_rollOf l D cI aR H.size r x1 (1 : Int32) o115 ho115) (va_cwS 3 hts gX8_goOn_X8_rollOf rfl rfl rfl (by decide +kernel) ⟨Nat.le_of_ble_eq_true rfl, Nat.le_of_ble_eq_true rfl⟩) hP hD hS [0] (by decide) rfl rfl rfl hl.1 rfl (Nat.le_of_ble_eq_true rfl) ⟨Nat.zero_le _, Nat.zero_le _⟩ dX8_goOn_115 (fun H locs hP hD hS => ?_)
        have hP : va_P D vwCl [(aR, .inl (cI 0, 79, .inl r))] H := hP
        have hD : va_D A [(aR, .inl (cI 0, 79, .inl r))] := hD
        refine lv_bipush (v := 10) hx hb dX8_goOn_118 (by decide) ?_
        refine lv_icmp_ne (tgt := 130) hx hb dX8_goOn_120 (by decide) (fun c9 => ?_) (fun c9 => ?_)
        · have hq := kite_f c9 hq
          exact b_130  _ _ _ r hq hP hD hS (lv_sub hl [0] rfl)
        · have hq := kite_t c9 hq
          exact b_123  _ _ _ r hq hP hD hS (lv_sub hl [0] rfl)
    · have hq := kite_t c9 hq
      refine lv_iload_n hx hb dX8_goOn_99 rfl (lv_at hl 3 rfl) ?_
      refine lv_iconst (v := 1) hx hb dX8_goOn_100 (by decide) ?_
      refine lv_icmp_ne (tgt := 130) hx hb dX8_goOn_101 (by decide) (fun c9 => ?_) (fun c9 => ?_)
      · have hq := kite_f c9 hq
        exact b_130  _ _ _ r hq hP hD hS (lv_sub hl [0] rfl)
      · have hq := kite_t c9 hq
        refine lv_goto (tgt := 123) hx hb dX8_goOn_104 (by decide) ?_
        exact b_123  _ _ _ r hq hP hD hS (lv_sub hl [0] rfl)
  have b_34 : ∀ (H : Heap) (locs : List Loc) (ls : Array Slot) (r : kF), fn_X8_goOn_34 r = some o → va_P D vwCl [(aR, .inl (cI 0, 79, .inl r))] H → va_D A [(aR, .inl (cI 0, 79, .inl r))] → va_S A s.heap H locs → lv_has ls 4 [(0, .ref aR)] → W p l e { frames := 2, cells := 0, slots := 0, locals := 43 } s m args below meth c H locs 0 0 Q (F0 m 34 ls []) := by
    intro H locs ls r
    intro hq hP hD hS hl
    refine lv_aload_n hx hb dX8_goOn_34 rfl (lv_at hl 0 rfl) ?_
    refine lv_bipush (v := 52) hx hb dX8_goOn_35 (by decide) ?_
    refine lv_dup2_11 hx hb dX8_goOn_37 rfl rfl ?_
    refine k_iald (j := 52) hx hb hK.1 hP 0 0 rfl rfl (by decide) (by decide) dX8_goOn_38 ?_
    refine lv_iconst (v := 1) hx hb dX8_goOn_39 (by decide) ?_
    refine lv_iadd hx hb dX8_goOn_40 ?_
    refine k_iast (j := 52) hx hb hK.1 hP hD hS 0 0 rfl rfl (by decide) (by decide) dX8_goOn_41 (fun H locs hP hD hS => ?_)
    have hP : va_P D vwCl [(aR, .inl (cI 0, 79, .inl (upd r 52 ((r 52) + (1 : Int32)))))] H := hP
    have hD : va_D A [(aR, .inl (cI 0, 79, .inl (upd r 52 ((r 52) + (1 : Int32)))))] := hD
    refine lv_aload_n hx hb dX8_goOn_42 rfl (lv_at hl 0 rfl) ?_
    refine lv_bipush (v := 53) hx hb dX8_goOn_43 (by decide) ?_
    refine lv_aload_n hx hb dX8_goOn_45 rfl (lv_at hl 0 rfl) ?_
    refine lv_bipush (v := 52) hx hb dX8_goOn_46 (by decide) ?_
    refine k_iald (j := 52) hx hb hK.1 hP 0 0 rfl rfl (by decide) (by decide) dX8_goOn_48 ?_
    refine lv_iadd hx hb dX8_goOn_49 ?_
    refine lv_aload_n hx hb dX8_goOn_50 rfl (lv_at hl 0 rfl) ?_
    refine lv_bipush (v := 51) hx hb dX8_goOn_51 (by decide) ?_
    refine k_iald (j := 51) hx hb hK.1 hP 0 0 rfl rfl (by decide) (by decide) dX8_goOn_53 ?_
    obtain ⟨hz, hq⟩ := kite_n hq
    refine k_iast (j := (((53 : Int32) + ((upd r 52 ((r 52) + (1 : Int32))) 52)).toNatClampNeg)) hx hb hK.1 hP hD hS 0 0 rfl rfl hz rfl dX8_goOn_54 (fun H locs hP hD hS => ?_)
    have hP : va_P D vwCl [(aR, .inl (cI 0, 79, .inl (upd (upd r 52 ((r 52) + (1 : Int32))) (((53 : Int32) + ((upd r 52 ((r 52) + (1 : Int32))) 52)).toNatClampNeg) ((upd r 52 ((r 52) + (1 : Int32))) 51))))] H := hP
    have hD : va_D A [(aR, .inl (cI 0, 79, .inl (upd (upd r 52 ((r 52) + (1 : Int32))) (((53 : Int32) + ((upd r 52 ((r 52) + (1 : Int32))) 52)).toNatClampNeg) ((upd r 52 ((r 52) + (1 : Int32))) 51))))] := hD
    refine lv_aload_n hx hb dX8_goOn_55 rfl (lv_at hl 0 rfl) ?_
    obtain ⟨o56, ho56, hq⟩ := kbind hq
    refine kc_Sv (av := [.ref aR]) (rest := []) hF hK hG hA (mk_X8_rack l D cI aR H.size (upd (upd r 52 ((r 52) + (1 : Int32))) (((53 : Int32) + ((upd r 52 ((r 52) + (1 : Int32))) 52)).toNatClampNeg) ((upd r 52 ((r 52) + (1 : Int32))) 51)) o56 ho56) (va_cwS 1 hts gX8_goOn_X8_rack rfl rfl rfl (by decide +kernel) ⟨Nat.le_of_ble_eq_true rfl, Nat.le_of_ble_eq_true rfl⟩) hP hD hS [0] (by decide) rfl rfl rfl hl.1 rfl (Nat.le_of_ble_eq_true rfl) ⟨Nat.zero_le _, Nat.zero_le _⟩ dX8_goOn_56 (fun H locs hP hD hS => ?_)
    have hP : va_P D vwCl [(aR, .inl (cI 0, 79, .inl o56))] H := hP
    have hD : va_D A [(aR, .inl (cI 0, 79, .inl o56))] := hD
    refine lv_goto (tgt := 134) hx hb dX8_goOn_59 (by decide) ?_
    exact b_134  _ _ _ o56 hq hP hD hS (lv_sub hl [] rfl)
  refine lv_aload_n hx hb dX8_goOn_0 rfl (lv_at hl 0 rfl) ?_
  refine lv_bipush (v := 52) hx hb dX8_goOn_1 (by decide) ?_
  refine k_iald (j := 52) hx hb hK.1 hP 0 0 rfl rfl (by decide) (by decide) dX8_goOn_3 ?_
  refine lv_istore_n (lv' := [(1, .int (r 52)), (0, .ref aR)]) hx hb dX8_goOn_4 rfl hl (by decide) rfl (fun ls hl => ?_)
  refine lv_aload_n hx hb dX8_goOn_5 rfl (lv_at hl 1 rfl) ?_
  refine lv_bipush (v := 63) hx hb dX8_goOn_6 (by decide) ?_
  refine lv_iload_n hx hb dX8_goOn_8 rfl (lv_at hl 0 rfl) ?_
  refine lv_iadd hx hb dX8_goOn_9 ?_
  obtain ⟨hz, hq⟩ := kite_n hq
  refine k_iald (j := (((63 : Int32) + (r 52)).toNatClampNeg)) hx hb hK.1 hP 0 0 rfl rfl hz rfl dX8_goOn_10 ?_
  refine lv_istore_n (lv' := [(2, .int (r (((63 : Int32) + (r 52)).toNatClampNeg))), (1, .int (r 52)), (0, .ref aR)]) hx hb dX8_goOn_11 rfl hl (by decide) rfl (fun ls hl => ?_)
  refine lv_aload_n hx hb dX8_goOn_12 rfl (lv_at hl 2 rfl) ?_
  refine lv_iload_n hx hb dX8_goOn_13 rfl (lv_at hl 1 rfl) ?_
  obtain ⟨o14, ho14, hq⟩ := kbind hq
  refine kc_Si (av := [.ref aR, .int (r 52)]) (rest := []) hF hK hG hA (mk_X8_markOf l D cI aR s.heap.size r (r 52) o14 ho14) (va_cwS 2 hts gX8_goOn_X8_markOf rfl rfl rfl (by decide +kernel) ⟨Nat.le_of_ble_eq_true rfl, Nat.le_of_ble_eq_true rfl⟩) hP hD hS [0] (by decide) rfl rfl rfl hl.1 rfl (Nat.le_of_ble_eq_true rfl) ⟨Nat.zero_le _, Nat.zero_le _⟩ dX8_goOn_14 (fun H locs hP hD hS => ?_)
  have hP : va_P D vwCl [(aR, .inl (cI 0, 79, .inl r))] H := hP
  have hD : va_D A [(aR, .inl (cI 0, 79, .inl r))] := hD
  refine lv_istore_n (lv' := [(3, .int o14), (2, .int (r (((63 : Int32) + (r 52)).toNatClampNeg))), (1, .int (r 52)), (0, .ref aR)]) hx hb dX8_goOn_17 rfl hl (by decide) rfl (fun ls hl => ?_)
  refine lv_iload_n hx hb dX8_goOn_18 rfl (lv_at hl 2 rfl) ?_
  refine lv_bipush (v := 9) hx hb dX8_goOn_19 (by decide) ?_
  refine lv_icmp_ge (tgt := 69) hx hb dX8_goOn_21 (by decide) (fun c9 => ?_) (fun c9 => ?_)
  · have hq := kite_t c9 hq
    refine lv_iload_n hx hb dX8_goOn_69 rfl (lv_at hl 1 rfl) ?_
    refine lv_iconst (v := 3) hx hb dX8_goOn_70 (by decide) ?_
    refine lv_icmp_eq (tgt := 83) hx hb dX8_goOn_71 (by decide) (fun c9 => ?_) (fun c9 => ?_)
    · have hq := kite_t c9 hq
      exact b_83  _ _ _ r hq hP hD hS (lv_sub hl [3] rfl)
    · have hq := kite_f c9 hq
      refine lv_iload_n hx hb dX8_goOn_74 rfl (lv_at hl 1 rfl) ?_
      refine lv_iconst (v := 2) hx hb dX8_goOn_75 (by decide) ?_
      refine lv_icmp_ne (tgt := 94) hx hb dX8_goOn_76 (by decide) (fun c9 => ?_) (fun c9 => ?_)
      · have hq := kite_f c9 hq
        exact b_94  _ _ _ r (r 52) (r (((63 : Int32) + (r 52)).toNatClampNeg)) o14 hq hP hD hS (lv_sub hl [3, 2, 1, 0] rfl)
      · have hq := kite_t c9 hq
        refine lv_iload_n hx hb dX8_goOn_79 rfl (lv_at hl 0 rfl) ?_
        refine lv_if_ne (tgt := 94) hx hb dX8_goOn_80 (by decide) (fun c9 => ?_) (fun c9 => ?_)
        · have hq := kite_f c9 hq
          exact b_94  _ _ _ r (r 52) (r (((63 : Int32) + (r 52)).toNatClampNeg)) o14 hq hP hD hS (lv_sub hl [3, 2, 1, 0] rfl)
        · have hq := kite_t c9 hq
          exact b_83  _ _ _ r hq hP hD hS (lv_sub hl [3] rfl)
  · have hq := kite_f c9 hq
    refine lv_iload_n hx hb dX8_goOn_24 rfl (lv_at hl 1 rfl) ?_
    refine lv_iconst (v := 2) hx hb dX8_goOn_25 (by decide) ?_
    refine lv_icmp_eq (tgt := 34) hx hb dX8_goOn_26 (by decide) (fun c9 => ?_) (fun c9 => ?_)
    · have hq := kite_t c9 hq
      exact b_34  _ _ _ r hq hP hD hS (lv_sub hl [3] rfl)
    · have hq := kite_f c9 hq
      refine lv_iload_n hx hb dX8_goOn_29 rfl (lv_at hl 0 rfl) ?_
      refine lv_iconst (v := 1) hx hb dX8_goOn_30 (by decide) ?_
      refine lv_icmp_ne (tgt := 62) hx hb dX8_goOn_31 (by decide) (fun c9 => ?_) (fun c9 => ?_)
      · have hq := kite_f c9 hq
        refine lv_aload_n hx hb dX8_goOn_62 rfl (lv_at hl 3 rfl) ?_
        obtain ⟨o63, ho63, hq⟩ := kbind hq
        refine kc_Sv (av := [.ref aR]) (rest := []) hF hK hG hA (mk_X8_setAgain l D cI aR H.size r o63 ho63) (va_cwS 1 hts gX8_goOn_X8_setAgain rfl rfl rfl (by decide +kernel) ⟨Nat.le_of_ble_eq_true rfl, Nat.le_of_ble_eq_true rfl⟩) hP hD hS [0] (by decide) rfl rfl rfl hl.1 rfl (Nat.le_of_ble_eq_true rfl) ⟨Nat.zero_le _, Nat.zero_le _⟩ dX8_goOn_63 (fun H locs hP hD hS => ?_)
        have hP : va_P D vwCl [(aR, .inl (cI 0, 79, .inl o63))] H := hP
        have hD : va_D A [(aR, .inl (cI 0, 79, .inl o63))] := hD
        refine lv_goto (tgt := 134) hx hb dX8_goOn_66 (by decide) ?_
        exact b_134  _ _ _ o63 hq hP hD hS (lv_sub hl [] rfl)
      · have hq := kite_t c9 hq
        exact b_34  _ _ _ r hq hP hD hS (lv_sub hl [3] rfl)

theorem iw_X8_rollOn_X8 : ∀ w ∈ wsX80, w ∈ wsX8_rollOn := by decide +kernel
set_option maxHeartbeats 4000000 in
set_option maxRecDepth 100000 in
theorem mk_X8_rollOn (l : Launch) (D : va_G) (cI : Nat → ClassId) (aM aMtext aMnow aMtrial aMdiary aMkept aMisKept aMside aMwas aR : Nat) (sz : Nat) (mref : Int32) (msize : Int32) (macts : Int32) (mspot : Int32) (mout : Int32) (mside : kF) (mwas : kF) (r : kF) (x2 : Int32) (x3 : Int32) (x4 : Int32) (o : Int32 × kF × kF × kF) (hq : fn_X8_rollOn mside mwas r x2 x3 x4 = some o) : Met l yX8_rollOn wsX8_rollOn ({ frames := 4, cells := 0, slots := 0, locals := 94 }) (kPc D cI [(aM, .inr (7, [.int mref, .ref aMtext, .int msize, .ref aMnow, .ref aMtrial, .ref aMdiary, .int macts, .ref aMkept, .ref aMisKept, .ref aMside, .ref aMwas, .int mspot, .int mout])), (aMside, .inl (cI 0, 10, .inl mside)), (aMwas, .inl (cI 0, 30, .inl mwas)), (aR, .inl (cI 0, 79, .inl r))] sz [.ref aM, .ref aR, .int x2, .int x3, .int x4]) (kQi D [(aM, .inr (7, [.int mref, .ref aMtext, .int msize, .ref aMnow, .ref aMtrial, .ref aMdiary, .int macts, .ref aMkept, .ref aMisKept, .ref aMside, .ref aMwas, .int mspot, .int mout])), (aMside, .inl (cI 0, 10, .inl mside)), (aMwas, .inl (cI 0, 30, .inl mwas)), (aR, .inl (cI 0, 79, .inl r))] [(aM, .inr (7, [.int mref, .ref aMtext, .int msize, .ref aMnow, .ref aMtrial, .ref aMdiary, .int macts, .ref aMkept, .ref aMisKept, .ref aMside, .ref aMwas, .int mspot, .int mout])), (aMside, .inl (cI 0, 10, .inl o.2.1)), (aMwas, .inl (cI 0, 30, .inl o.2.2.1)), (aR, .inl (cI 0, 79, .inl o.2.2.2))] sz o.1) 0 0 (va_A [(aM, .inr (7, [.int mref, .ref aMtext, .int msize, .ref aMnow, .ref aMtrial, .ref aMdiary, .int macts, .ref aMkept, .ref aMisKept, .ref aMside, .ref aMwas, .int mspot, .int mout])), (aMside, .inl (cI 0, 10, .inl mside)), (aMwas, .inl (cI 0, 30, .inl mwas)), (aR, .inl (cI 0, 79, .inl r))] sz) := by
  refine kM_i (cc := cX8_rollOn) (maxL := 8) (by decide +kernel) rfl (Nat.le_of_ble_eq_true rfl) ?_
  intro p e s m args below meth c A Q hF hK hG hD hA hend ls hP hS hl
  obtain ⟨hx, hb, hml, hown, hts⟩ := id hF
  have hl : lv_has ls 8 [(0, .ref aM), (1, .ref aR), (2, .int x2), (3, .int x3), (4, .int x4)] := hl
  have b_130 : ∀ (H : Heap) (locs : List Loc) (ls : Array Slot) (mside : kF) (mwas : kF) (r : kF) (x6 : Int32), fn_X8_rollOn_130 mside mwas r x6 = some o → va_P D vwCl [(aM, .inr (7, [.int mref, .ref aMtext, .int msize, .ref aMnow, .ref aMtrial, .ref aMdiary, .int macts, .ref aMkept, .ref aMisKept, .ref aMside, .ref aMwas, .int mspot, .int mout])), (aMside, .inl (cI 0, 10, .inl mside)), (aMwas, .inl (cI 0, 30, .inl mwas)), (aR, .inl (cI 0, 79, .inl r))] H → va_D A [(aM, .inr (7, [.int mref, .ref aMtext, .int msize, .ref aMnow, .ref aMtrial, .ref aMdiary, .int macts, .ref aMkept, .ref aMisKept, .ref aMside, .ref aMwas, .int mspot, .int mout])), (aMside, .inl (cI 0, 10, .inl mside)), (aMwas, .inl (cI 0, 30, .inl mwas)), (aR, .inl (cI 0, 79, .inl r))] → va_S A s.heap H locs → lv_has ls 8 [(1, .ref aR), (6, .int x6)] → W p l e { frames := 4, cells := 0, slots := 0, locals := 94 } s m args below meth c H locs 0 0 Q (F0 m 130 ls []) := by
    intro H locs ls mside mwas r x6
    intro hq hP hD hS hl
    refine lv_aload_n hx hb dX8_rollOn_130 rfl (lv_at hl 0 rfl) ?_
    refine lv_bipush (v := 63) hx hb dX8_rollOn_131 (by decide) ?_
    refine lv_aload_n hx hb dX8_rollOn_133 rfl (lv_at hl 0 rfl) ?_
    refine lv_bipush (v := 52) hx hb dX8_rollOn_134 (by decide) ?_
    refine k_iald (j := 52) hx hb hK.1 hP 3 0 rfl rfl (by decide) (by decide) dX8_rollOn_136 ?_
    refine lv_iadd hx hb dX8_rollOn_137 ?_
    refine lv_dup2_11 hx hb dX8_rollOn_138 rfl rfl ?_
    obtain ⟨hz, hq⟩ := kite_n hq
    refine k_iald (j := (((63 : Int32) + (r 52)).toNatClampNeg)) hx hb hK.1 hP 3 0 rfl rfl hz rfl dX8_rollOn_139 ?_
    refine lv_iconst (v := 1) hx hb dX8_rollOn_140 (by decide) ?_
    refine lv_iadd hx hb dX8_rollOn_141 ?_
    obtain ⟨hz, hq⟩ := kite_n hq
    refine k_iast (j := (((63 : Int32) + (r 52)).toNatClampNeg)) hx hb hK.1 hP hD hS 3 0 rfl rfl hz rfl dX8_rollOn_142 (fun H locs hP hD hS => ?_)
    have hP : va_P D vwCl [(aM, .inr (7, [.int mref, .ref aMtext, .int msize, .ref aMnow, .ref aMtrial, .ref aMdiary, .int macts, .ref aMkept, .ref aMisKept, .ref aMside, .ref aMwas, .int mspot, .int mout])), (aMside, .inl (cI 0, 10, .inl mside)), (aMwas, .inl (cI 0, 30, .inl mwas)), (aR, .inl (cI 0, 79, .inl (upd r (((63 : Int32) + (r 52)).toNatClampNeg) ((r (((63 : Int32) + (r 52)).toNatClampNeg)) + (1 : Int32)))))] H := hP
    have hD : va_D A [(aM, .inr (7, [.int mref, .ref aMtext, .int msize, .ref aMnow, .ref aMtrial, .ref aMdiary, .int macts, .ref aMkept, .ref aMisKept, .ref aMside, .ref aMwas, .int mspot, .int mout])), (aMside, .inl (cI 0, 10, .inl mside)), (aMwas, .inl (cI 0, 30, .inl mwas)), (aR, .inl (cI 0, 79, .inl (upd r (((63 : Int32) + (r 52)).toNatClampNeg) ((r (((63 : Int32) + (r 52)).toNatClampNeg)) + (1 : Int32)))))] := hD
    refine lv_aload_n hx hb dX8_rollOn_143 rfl (lv_at hl 0 rfl) ?_
    obtain ⟨o144, ho144, hq⟩ := kbind hq
    refine kc_Sv (av := [.ref aR]) (rest := []) hF hK hG hA (mk_X8_goOn l D cI aR H.size (upd r (((63 : Int32) + (r 52)).toNatClampNeg) ((r (((63 : Int32) + (r 52)).toNatClampNeg)) + (1 : Int32))) o144 ho144) (va_cwS 1 hts gX8_rollOn_X8_goOn rfl rfl rfl (by decide +kernel) ⟨Nat.le_of_ble_eq_true rfl, Nat.le_of_ble_eq_true rfl⟩) hP hD hS [3] (by decide) rfl rfl rfl hl.1 rfl (Nat.le_of_ble_eq_true rfl) ⟨Nat.zero_le _, Nat.zero_le _⟩ dX8_rollOn_144 (fun H locs hP hD hS => ?_)
    have hP : va_P D vwCl [(aM, .inr (7, [.int mref, .ref aMtext, .int msize, .ref aMnow, .ref aMtrial, .ref aMdiary, .int macts, .ref aMkept, .ref aMisKept, .ref aMside, .ref aMwas, .int mspot, .int mout])), (aMside, .inl (cI 0, 10, .inl mside)), (aMwas, .inl (cI 0, 30, .inl mwas)), (aR, .inl (cI 0, 79, .inl o144))] H := hP
    have hD : va_D A [(aM, .inr (7, [.int mref, .ref aMtext, .int msize, .ref aMnow, .ref aMtrial, .ref aMdiary, .int macts, .ref aMkept, .ref aMisKept, .ref aMside, .ref aMwas, .int mspot, .int mout])), (aMside, .inl (cI 0, 10, .inl mside)), (aMwas, .inl (cI 0, 30, .inl mwas)), (aR, .inl (cI 0, 79, .inl o144))] := hD
    refine lv_iload hx hb dX8_rollOn_147 (lv_at hl 1 rfl) ?_
    have ho := Option.some.inj hq
    subst ho
    exact hend _ _ _ _ hP hS dX8_rollOn_149
  have b_109 : ∀ (H : Heap) (locs : List Loc) (ls : Array Slot) (mside : kF) (mwas : kF) (r : kF) (x6 : Int32) (k1 : Int32) (k2 : Int32) (k3 : Int32), fn_X8_rollOn_109 mside mwas r x6 k1 k2 k3 = some o → va_P D vwCl [(aM, .inr (7, [.int mref, .ref aMtext, .int msize, .ref aMnow, .ref aMtrial, .ref aMdiary, .int macts, .ref aMkept, .ref aMisKept, .ref aMside, .ref aMwas, .int mspot, .int mout])), (aMside, .inl (cI 0, 10, .inl mside)), (aMwas, .inl (cI 0, 30, .inl mwas)), (aR, .inl (cI 0, 79, .inl r))] H → va_D A [(aM, .inr (7, [.int mref, .ref aMtext, .int msize, .ref aMnow, .ref aMtrial, .ref aMdiary, .int macts, .ref aMkept, .ref aMisKept, .ref aMside, .ref aMwas, .int mspot, .int mout])), (aMside, .inl (cI 0, 10, .inl mside)), (aMwas, .inl (cI 0, 30, .inl mwas)), (aR, .inl (cI 0, 79, .inl r))] → va_S A s.heap H locs → lv_has ls 8 [(1, .ref aR), (6, .int x6)] → W p l e { frames := 4, cells := 0, slots := 0, locals := 94 } s m args below meth c H locs 0 0 Q (F0 m 109 ls [.int k3, .int k2, .int k1, .ref aR]) := by
    intro H locs ls mside mwas r x6 k1 k2 k3
    intro hq hP hD hS hl
    refine lv_iadd hx hb dX8_rollOn_109 ?_
    obtain ⟨hz, hq⟩ := kite_n hq
    refine k_iast (j := (k1.toNatClampNeg)) hx hb hK.1 hP hD hS 3 0 rfl rfl hz rfl dX8_rollOn_110 (fun H locs hP hD hS => ?_)
    have hP : va_P D vwCl [(aM, .inr (7, [.int mref, .ref aMtext, .int msize, .ref aMnow, .ref aMtrial, .ref aMdiary, .int macts, .ref aMkept, .ref aMisKept, .ref aMside, .ref aMwas, .int mspot, .int mout])), (aMside, .inl (cI 0, 10, .inl mside)), (aMwas, .inl (cI 0, 30, .inl mwas)), (aR, .inl (cI 0, 79, .inl (upd r (k1.toNatClampNeg) (k2 + k3))))] H := hP
    have hD : va_D A [(aM, .inr (7, [.int mref, .ref aMtext, .int msize, .ref aMnow, .ref aMtrial, .ref aMdiary, .int macts, .ref aMkept, .ref aMisKept, .ref aMside, .ref aMwas, .int mspot, .int mout])), (aMside, .inl (cI 0, 10, .inl mside)), (aMwas, .inl (cI 0, 30, .inl mwas)), (aR, .inl (cI 0, 79, .inl (upd r (k1.toNatClampNeg) (k2 + k3))))] := hD
    refine lv_aload_n hx hb dX8_rollOn_111 rfl (lv_at hl 0 rfl) ?_
    refine lv_bipush (v := 30) hx hb dX8_rollOn_112 (by decide) ?_
    refine lv_aload_n hx hb dX8_rollOn_114 rfl (lv_at hl 0 rfl) ?_
    refine lv_bipush (v := 51) hx hb dX8_rollOn_115 (by decide) ?_
    refine k_iald (j := 51) hx hb hK.1 hP 3 0 rfl rfl (by decide) (by decide) dX8_rollOn_117 ?_
    refine lv_iadd hx hb dX8_rollOn_118 ?_
    refine lv_iload hx hb dX8_rollOn_119 (lv_at hl 1 rfl) ?_
    obtain ⟨hz, hq⟩ := kite_n hq
    refine k_iast (j := (((30 : Int32) + ((upd r (k1.toNatClampNeg) (k2 + k3)) 51)).toNatClampNeg)) hx hb hK.1 hP hD hS 3 0 rfl rfl hz rfl dX8_rollOn_121 (fun H locs hP hD hS => ?_)
    have hP : va_P D vwCl [(aM, .inr (7, [.int mref, .ref aMtext, .int msize, .ref aMnow, .ref aMtrial, .ref aMdiary, .int macts, .ref aMkept, .ref aMisKept, .ref aMside, .ref aMwas, .int mspot, .int mout])), (aMside, .inl (cI 0, 10, .inl mside)), (aMwas, .inl (cI 0, 30, .inl mwas)), (aR, .inl (cI 0, 79, .inl (upd (upd r (k1.toNatClampNeg) (k2 + k3)) (((30 : Int32) + ((upd r (k1.toNatClampNeg) (k2 + k3)) 51)).toNatClampNeg) x6)))] H := hP
    have hD : va_D A [(aM, .inr (7, [.int mref, .ref aMtext, .int msize, .ref aMnow, .ref aMtrial, .ref aMdiary, .int macts, .ref aMkept, .ref aMisKept, .ref aMside, .ref aMwas, .int mspot, .int mout])), (aMside, .inl (cI 0, 10, .inl mside)), (aMwas, .inl (cI 0, 30, .inl mwas)), (aR, .inl (cI 0, 79, .inl (upd (upd r (k1.toNatClampNeg) (k2 + k3)) (((30 : Int32) + ((upd r (k1.toNatClampNeg) (k2 + k3)) 51)).toNatClampNeg) x6)))] := hD
    refine lv_aload_n hx hb dX8_rollOn_122 rfl (lv_at hl 0 rfl) ?_
    refine lv_bipush (v := 51) hx hb dX8_rollOn_123 (by decide) ?_
    refine lv_dup2_11 hx hb dX8_rollOn_125 rfl rfl ?_
    refine k_iald (j := 51) hx hb hK.1 hP 3 0 rfl rfl (by decide) (by decide) dX8_rollOn_126 ?_
    refine lv_iconst (v := 1) hx hb dX8_rollOn_127 (by decide) ?_
    refine lv_iadd hx hb dX8_rollOn_128 ?_
    refine k_iast (j := 51) hx hb hK.1 hP hD hS 3 0 rfl rfl (by decide) (by decide) dX8_rollOn_129 (fun H locs hP hD hS => ?_)
    have hP : va_P D vwCl [(aM, .inr (7, [.int mref, .ref aMtext, .int msize, .ref aMnow, .ref aMtrial, .ref aMdiary, .int macts, .ref aMkept, .ref aMisKept, .ref aMside, .ref aMwas, .int mspot, .int mout])), (aMside, .inl (cI 0, 10, .inl mside)), (aMwas, .inl (cI 0, 30, .inl mwas)), (aR, .inl (cI 0, 79, .inl (upd (upd (upd r (k1.toNatClampNeg) (k2 + k3)) (((30 : Int32) + ((upd r (k1.toNatClampNeg) (k2 + k3)) 51)).toNatClampNeg) x6) 51 (((upd (upd r (k1.toNatClampNeg) (k2 + k3)) (((30 : Int32) + ((upd r (k1.toNatClampNeg) (k2 + k3)) 51)).toNatClampNeg) x6) 51) + (1 : Int32)))))] H := hP
    have hD : va_D A [(aM, .inr (7, [.int mref, .ref aMtext, .int msize, .ref aMnow, .ref aMtrial, .ref aMdiary, .int macts, .ref aMkept, .ref aMisKept, .ref aMside, .ref aMwas, .int mspot, .int mout])), (aMside, .inl (cI 0, 10, .inl mside)), (aMwas, .inl (cI 0, 30, .inl mwas)), (aR, .inl (cI 0, 79, .inl (upd (upd (upd r (k1.toNatClampNeg) (k2 + k3)) (((30 : Int32) + ((upd r (k1.toNatClampNeg) (k2 + k3)) 51)).toNatClampNeg) x6) 51 (((upd (upd r (k1.toNatClampNeg) (k2 + k3)) (((30 : Int32) + ((upd r (k1.toNatClampNeg) (k2 + k3)) 51)).toNatClampNeg) x6) 51) + (1 : Int32)))))] := hD
    exact b_130  _ _ _ mside mwas (upd (upd (upd r (k1.toNatClampNeg) (k2 + k3)) (((30 : Int32) + ((upd r (k1.toNatClampNeg) (k2 + k3)) 51)).toNatClampNeg) x6) 51 (((upd (upd r (k1.toNatClampNeg) (k2 + k3)) (((30 : Int32) + ((upd r (k1.toNatClampNeg) (k2 + k3)) 51)).toNatClampNeg) x6) 51) + (1 : Int32))) x6 hq hP hD hS (lv_sub hl [0, 1] rfl)
  have b_94 : ∀ (H : Heap) (locs : List Loc) (ls : Array Slot) (mside : kF) (mwas : kF) (r : kF) (x4 : Int32) (x6 : Int32), fn_X8_rollOn_94 mside mwas r x4 x6 = some o → va_P D vwCl [(aM, .inr (7, [.int mref, .ref aMtext, .int msize, .ref aMnow, .ref aMtrial, .ref aMdiary, .int macts, .ref aMkept, .ref aMisKept, .ref aMside, .ref aMwas, .int mspot, .int mout])), (aMside, .inl (cI 0, 10, .inl mside)), (aMwas, .inl (cI 0, 30, .inl mwas)), (aR, .inl (cI 0, 79, .inl r))] H → va_D A [(aM, .inr (7, [.int mref, .ref aMtext, .int msize, .ref aMnow, .ref aMtrial, .ref aMdiary, .int macts, .ref aMkept, .ref aMisKept, .ref aMside, .ref aMwas, .int mspot, .int mout])), (aMside, .inl (cI 0, 10, .inl mside)), (aMwas, .inl (cI 0, 30, .inl mwas)), (aR, .inl (cI 0, 79, .inl r))] → va_S A s.heap H locs → lv_has ls 8 [(1, .ref aR), (4, .int x4), (6, .int x6)] → W p l e { frames := 4, cells := 0, slots := 0, locals := 94 } s m args below meth c H locs 0 0 Q (F0 m 94 ls []) := by
    intro H locs ls mside mwas r x4 x6
    intro hq hP hD hS hl
    refine lv_aload_n hx hb dX8_rollOn_94 rfl (lv_at hl 0 rfl) ?_
    refine lv_bipush (v := 75) hx hb dX8_rollOn_95 (by decide) ?_
    refine lv_dup2_11 hx hb dX8_rollOn_97 rfl rfl ?_
    refine k_iald (j := 75) hx hb hK.1 hP 3 0 rfl rfl (by decide) (by decide) dX8_rollOn_98 ?_
    refine lv_iload hx hb dX8_rollOn_99 (lv_at hl 1 rfl) ?_
    refine lv_if_eq (tgt := 108) hx hb dX8_rollOn_101 (by decide) (fun c9 => ?_) (fun c9 => ?_)
    · have hq := kite_t c9 hq
      refine lv_iconst (v := 0) hx hb dX8_rollOn_108 (by decide) ?_
      exact b_109  _ _ _ mside mwas r x6 (75 : Int32) (r 75) (0 : Int32) hq hP hD hS (lv_sub hl [0, 2] rfl)
    · have hq := kite_f c9 hq
      refine lv_iconst (v := 1) hx hb dX8_rollOn_104 (by decide) ?_
      refine lv_goto (tgt := 109) hx hb dX8_rollOn_105 (by decide) ?_
      exact b_109  _ _ _ mside mwas r x6 (75 : Int32) (r 75) (1 : Int32) hq hP hD hS (lv_sub hl [0, 2] rfl)
  have b_65 : ∀ (q : Nat), ∀ (H : Heap) (locs : List Loc) (ls : Array Slot) (mside : kF) (mwas : kF) (r : kF) (x4 : Int32) (x6 : Int32) (x7 : Int32), fn_X8_rollOn_65 q mside mwas r x4 x6 x7 = some o → va_P D vwCl [(aM, .inr (7, [.int mref, .ref aMtext, .int msize, .ref aMnow, .ref aMtrial, .ref aMdiary, .int macts, .ref aMkept, .ref aMisKept, .ref aMside, .ref aMwas, .int mspot, .int mout])), (aMside, .inl (cI 0, 10, .inl mside)), (aMwas, .inl (cI 0, 30, .inl mwas)), (aR, .inl (cI 0, 79, .inl r))] H → va_D A [(aM, .inr (7, [.int mref, .ref aMtext, .int msize, .ref aMnow, .ref aMtrial, .ref aMdiary, .int macts, .ref aMkept, .ref aMisKept, .ref aMside, .ref aMwas, .int mspot, .int mout])), (aMside, .inl (cI 0, 10, .inl mside)), (aMwas, .inl (cI 0, 30, .inl mwas)), (aR, .inl (cI 0, 79, .inl r))] → va_S A s.heap H locs → lv_has ls 8 [(0, .ref aM), (1, .ref aR), (4, .int x4), (6, .int x6), (7, .int x7)] → W p l e { frames := 4, cells := 0, slots := 0, locals := 94 } s m args below meth c H locs 0 0 Q (F0 m 65 ls []) := by
    intro q
    induction q with
    | zero =>
      intro H locs ls mside mwas r x4 x6 x7
      intro hq
      cases hq
    | succ q ih =>
      intro H locs ls mside mwas r x4 x6 x7
      intro hq hP hD hS hl
      refine lv_iload hx hb dX8_rollOn_65 (lv_at hl 4 rfl) ?_
      refine lv_bipush (v := 30) hx hb dX8_rollOn_67 (by decide) ?_
      refine lv_icmp_ge (tgt := 94) hx hb dX8_rollOn_69 (by decide) (fun c9 => ?_) (fun c9 => ?_)
      · have hq := kite_t c9 hq
        exact b_94  _ _ _ mside mwas r x4 x6 hq hP hD hS (lv_sub hl [1, 2, 3] rfl)
      · have hq := kite_f c9 hq
        refine lv_iload hx hb dX8_rollOn_72 (lv_at hl 2 rfl) ?_
        refine lv_if_eq (tgt := 94) hx hb dX8_rollOn_74 (by decide) (fun c9 => ?_) (fun c9 => ?_)
        · have hq := kite_t c9 hq
          exact b_94  _ _ _ mside mwas r x4 x6 hq hP hD hS (lv_sub hl [1, 2, 3] rfl)
        · have hq := kite_f c9 hq
          refine lv_aload_n hx hb dX8_rollOn_77 rfl (lv_at hl 1 rfl) ?_
          refine lv_iload hx hb dX8_rollOn_78 (lv_at hl 4 rfl) ?_
          refine lv_aload_n hx hb dX8_rollOn_80 rfl (lv_at hl 0 rfl) ?_
          refine va_get (D := D) (ci := 7) (v := .ref aMwas) (C := RX8) (T := TX8) (N := 13) hx hb hts iw_X8_rollOn_X8 hown hK.1 hP 0 rfl rfl 10 (by decide) (hts (.fieldLink RX8 32 "PinDeckModel" "was" "[I") (by decide +kernel)) (fun _ h9 => h9) rfl dX8_rollOn_81 ?_
          refine lv_iload hx hb dX8_rollOn_84 (lv_at hl 4 rfl) ?_
          obtain ⟨hz, hq⟩ := kite_n hq
          refine k_iald (j := (x7.toNatClampNeg)) hx hb hK.1 hP 2 0 rfl rfl hz rfl dX8_rollOn_86 ?_
          obtain ⟨hz, hq⟩ := kite_n hq
          refine k_iast (j := (x7.toNatClampNeg)) hx hb hK.1 hP hD hS 3 0 rfl rfl hz rfl dX8_rollOn_87 (fun H locs hP hD hS => ?_)
          have hP : va_P D vwCl [(aM, .inr (7, [.int mref, .ref aMtext, .int msize, .ref aMnow, .ref aMtrial, .ref aMdiary, .int macts, .ref aMkept, .ref aMisKept, .ref aMside, .ref aMwas, .int mspot, .int mout])), (aMside, .inl (cI 0, 10, .inl mside)), (aMwas, .inl (cI 0, 30, .inl mwas)), (aR, .inl (cI 0, 79, .inl (upd r (x7.toNatClampNeg) (mwas (x7.toNatClampNeg)))))] H := hP
          have hD : va_D A [(aM, .inr (7, [.int mref, .ref aMtext, .int msize, .ref aMnow, .ref aMtrial, .ref aMdiary, .int macts, .ref aMkept, .ref aMisKept, .ref aMside, .ref aMwas, .int mspot, .int mout])), (aMside, .inl (cI 0, 10, .inl mside)), (aMwas, .inl (cI 0, 30, .inl mwas)), (aR, .inl (cI 0, 79, .inl (upd r (x7.toNatClampNeg) (mwas (x7.toNatClampNeg)))))] := hD
          refine lv_iinc (v := (x7 + 1)) (lv' := [(7, .int (x7 + 1)), (0, .ref aM), (1, .ref aR), (4, .int x4), (6, .int x6)]) hx hb dX8_rollOn_88 hl (k := 4) rfl rfl (by decide) rfl (fun ls hl => ?_)
          refine lv_goto (tgt := 65) hx hb dX8_rollOn_91 (by decide) ?_
          exact ih _ _ _ mside mwas (upd r (x7.toNatClampNeg) (mwas (x7.toNatClampNeg))) x4 x6 (x7 + 1) hq hP hD hS (lv_sub hl [1, 2, 3, 4, 0] rfl)
  have b_60 : ∀ (H : Heap) (locs : List Loc) (ls : Array Slot) (mside : kF) (mwas : kF) (r : kF) (x4 : Int32) (k0 : Int32), fn_X8_rollOn_60 mside mwas r x4 k0 = some o → va_P D vwCl [(aM, .inr (7, [.int mref, .ref aMtext, .int msize, .ref aMnow, .ref aMtrial, .ref aMdiary, .int macts, .ref aMkept, .ref aMisKept, .ref aMside, .ref aMwas, .int mspot, .int mout])), (aMside, .inl (cI 0, 10, .inl mside)), (aMwas, .inl (cI 0, 30, .inl mwas)), (aR, .inl (cI 0, 79, .inl r))] H → va_D A [(aM, .inr (7, [.int mref, .ref aMtext, .int msize, .ref aMnow, .ref aMtrial, .ref aMdiary, .int macts, .ref aMkept, .ref aMisKept, .ref aMside, .ref aMwas, .int mspot, .int mout])), (aMside, .inl (cI 0, 10, .inl mside)), (aMwas, .inl (cI 0, 30, .inl mwas)), (aR, .inl (cI 0, 79, .inl r))] → va_S A s.heap H locs → lv_has ls 8 [(0, .ref aM), (1, .ref aR), (4, .int x4)] → W p l e { frames := 4, cells := 0, slots := 0, locals := 94 } s m args below meth c H locs 0 0 Q (F0 m 60 ls [.int k0]) := by
    intro H locs ls mside mwas r x4 k0
    intro hq hP hD hS hl
    refine lv_istore (lv' := [(6, .int k0), (0, .ref aM), (1, .ref aR), (4, .int x4)]) hx hb dX8_rollOn_60 hl (by decide) rfl (fun ls hl => ?_)
    refine lv_iconst (v := 0) hx hb dX8_rollOn_62 (by decide) ?_
    refine lv_istore (lv' := [(7, .int (0 : Int32)), (6, .int k0), (0, .ref aM), (1, .ref aR), (4, .int x4)]) hx hb dX8_rollOn_63 hl (by decide) rfl (fun ls hl => ?_)
    exact b_65 4096 _ _ _ mside mwas r x4 k0 (0 : Int32) hq hP hD hS (lv_sub hl [2, 3, 4, 1, 0] rfl)
  have b_9 : ∀ (q : Nat), ∀ (H : Heap) (locs : List Loc) (ls : Array Slot) (mside : kF) (mwas : kF) (r : kF) (x2 : Int32) (x3 : Int32) (x4 : Int32) (x5 : Int32) (x6 : Int32), fn_X8_rollOn_9 q mside mwas r x2 x3 x4 x5 x6 = some o → va_P D vwCl [(aM, .inr (7, [.int mref, .ref aMtext, .int msize, .ref aMnow, .ref aMtrial, .ref aMdiary, .int macts, .ref aMkept, .ref aMisKept, .ref aMside, .ref aMwas, .int mspot, .int mout])), (aMside, .inl (cI 0, 10, .inl mside)), (aMwas, .inl (cI 0, 30, .inl mwas)), (aR, .inl (cI 0, 79, .inl r))] H → va_D A [(aM, .inr (7, [.int mref, .ref aMtext, .int msize, .ref aMnow, .ref aMtrial, .ref aMdiary, .int macts, .ref aMkept, .ref aMisKept, .ref aMside, .ref aMwas, .int mspot, .int mout])), (aMside, .inl (cI 0, 10, .inl mside)), (aMwas, .inl (cI 0, 30, .inl mwas)), (aR, .inl (cI 0, 79, .inl r))] → va_S A s.heap H locs → lv_has ls 8 [(0, .ref aM), (1, .ref aR), (2, .int x2), (3, .int x3), (4, .int x4), (5, .int x5), (6, .int x6)] → W p l e { frames := 4, cells := 0, slots := 0, locals := 94 } s m args below meth c H locs 0 0 Q (F0 m 9 ls []) := by
    intro q
    induction q with
    | zero =>
      intro H locs ls mside mwas r x2 x3 x4 x5 x6
      intro hq
      cases hq
    | succ q ih =>
      intro H locs ls mside mwas r x2 x3 x4 x5 x6
      intro hq hP hD hS hl
      refine lv_iload hx hb dX8_rollOn_9 (lv_at hl 6 rfl) ?_
      refine lv_bipush (v := 30) hx hb dX8_rollOn_11 (by decide) ?_
      refine lv_icmp_ge (tgt := 33) hx hb dX8_rollOn_13 (by decide) (fun c9 => ?_) (fun c9 => ?_)
      · have hq := kite_t c9 hq
        refine lv_aload_n hx hb dX8_rollOn_33 rfl (lv_at hl 0 rfl) ?_
        refine lv_aload_n hx hb dX8_rollOn_34 rfl (lv_at hl 1 rfl) ?_
        refine lv_iload_n hx hb dX8_rollOn_35 rfl (lv_at hl 2 rfl) ?_
        refine lv_iload_n hx hb dX8_rollOn_36 rfl (lv_at hl 3 rfl) ?_
        obtain ⟨o37, ho37, hq⟩ := kbind hq
        refine kc_Vv (av := [.ref aR, .int x2, .int x3]) (rest := []) hF hK hG hA (mk_X8_ball l D cI aM aMtext aMnow aMtrial aMdiary aMkept aMisKept aMside aMwas aR H.size mref msize macts mspot mout mside r x2 x3 o37 ho37) (cwV 3 hts gX8_rollOn_X8_ball rfl rfl rfl (by decide +kernel) ⟨Nat.le_of_ble_eq_true rfl, Nat.le_of_ble_eq_true rfl⟩) hP hD hS [0, 1, 3] (by decide) rfl rfl 0 rfl rfl rfl hl.1 rfl (Nat.le_of_ble_eq_true rfl) ⟨Nat.zero_le _, Nat.zero_le _⟩ dX8_rollOn_37 (fun H locs hP hD hS => ?_)
        have hP : va_P D vwCl [(aM, .inr (7, [.int mref, .ref aMtext, .int msize, .ref aMnow, .ref aMtrial, .ref aMdiary, .int macts, .ref aMkept, .ref aMisKept, .ref aMside, .ref aMwas, .int mspot, .int mout])), (aMside, .inl (cI 0, 10, .inl o37.1)), (aMwas, .inl (cI 0, 30, .inl mwas)), (aR, .inl (cI 0, 79, .inl o37.2))] H := hP
        have hD : va_D A [(aM, .inr (7, [.int mref, .ref aMtext, .int msize, .ref aMnow, .ref aMtrial, .ref aMdiary, .int macts, .ref aMkept, .ref aMisKept, .ref aMside, .ref aMwas, .int mspot, .int mout])), (aMside, .inl (cI 0, 10, .inl o37.1)), (aMwas, .inl (cI 0, 30, .inl mwas)), (aR, .inl (cI 0, 79, .inl o37.2))] := hD
        refine lv_aload_n hx hb dX8_rollOn_40 rfl (lv_at hl 1 rfl) ?_
        obtain ⟨o41, ho41, hq⟩ := kbind hq
        refine kc_Sv (av := [.ref aR]) (rest := []) hF hK hG hA (mk_X8_tell l D cI aR H.size o37.2 o41 ho41) (va_cwS 1 hts gX8_rollOn_X8_tell rfl rfl rfl (by decide +kernel) ⟨Nat.le_of_ble_eq_true rfl, Nat.le_of_ble_eq_true rfl⟩) hP hD hS [3] (by decide) rfl rfl rfl hl.1 rfl (Nat.le_of_ble_eq_true rfl) ⟨Nat.zero_le _, Nat.zero_le _⟩ dX8_rollOn_41 (fun H locs hP hD hS => ?_)
        have hP : va_P D vwCl [(aM, .inr (7, [.int mref, .ref aMtext, .int msize, .ref aMnow, .ref aMtrial, .ref aMdiary, .int macts, .ref aMkept, .ref aMisKept, .ref aMside, .ref aMwas, .int mspot, .int mout])), (aMside, .inl (cI 0, 10, .inl o37.1)), (aMwas, .inl (cI 0, 30, .inl mwas)), (aR, .inl (cI 0, 79, .inl o41))] H := hP
        have hD : va_D A [(aM, .inr (7, [.int mref, .ref aMtext, .int msize, .ref aMnow, .ref aMtrial, .ref aMdiary, .int macts, .ref aMkept, .ref aMisKept, .ref aMside, .ref aMwas, .int mspot, .int mout])), (aMside, .inl (cI 0, 10, .inl o37.1)), (aMwas, .inl (cI 0, 30, .inl mwas)), (aR, .inl (cI 0, 79, .inl o41))] := hD
        refine lv_iload hx hb dX8_rollOn_44 (lv_at hl 4 rfl) ?_
        refine lv_if_eq (tgt := 53) hx hb dX8_rollOn_46 (by decide) (fun c9 => ?_) (fun c9 => ?_)
        · have hq := kite_t c9 hq
          refine lv_iload hx hb dX8_rollOn_53 (lv_at hl 5 rfl) ?_
          refine lv_aload_n hx hb dX8_rollOn_55 rfl (lv_at hl 1 rfl) ?_
          obtain ⟨o56, ho56, hq⟩ := kbind hq
          refine kc_Si (av := [.ref aR]) (rest := [.int x5]) hF hK hG hA (mk_X8_toldOf l D cI aR H.size o41 o56 ho56) (va_cwS 1 hts gX8_rollOn_X8_toldOf rfl rfl rfl (by decide +kernel) ⟨Nat.le_of_ble_eq_true rfl, Nat.le_of_ble_eq_true rfl⟩) hP hD hS [3] (by decide) rfl rfl rfl hl.1 rfl (Nat.le_of_ble_eq_true rfl) ⟨Nat.zero_le _, Nat.zero_le _⟩ dX8_rollOn_56 (fun H locs hP hD hS => ?_)
          have hP : va_P D vwCl [(aM, .inr (7, [.int mref, .ref aMtext, .int msize, .ref aMnow, .ref aMtrial, .ref aMdiary, .int macts, .ref aMkept, .ref aMisKept, .ref aMside, .ref aMwas, .int mspot, .int mout])), (aMside, .inl (cI 0, 10, .inl o37.1)), (aMwas, .inl (cI 0, 30, .inl mwas)), (aR, .inl (cI 0, 79, .inl o41))] H := hP
          have hD : va_D A [(aM, .inr (7, [.int mref, .ref aMtext, .int msize, .ref aMnow, .ref aMtrial, .ref aMdiary, .int macts, .ref aMkept, .ref aMisKept, .ref aMside, .ref aMwas, .int mspot, .int mout])), (aMside, .inl (cI 0, 10, .inl o37.1)), (aMwas, .inl (cI 0, 30, .inl mwas)), (aR, .inl (cI 0, 79, .inl o41))] := hD
          refine lv_isub hx hb dX8_rollOn_59 ?_
          exact b_60  _ _ _ o37.1 mwas o41 x4 (x5 - o56) hq hP hD hS (lv_sub hl [0, 1, 4] rfl)
        · have hq := kite_f c9 hq
          refine lv_iconst (v := 0) hx hb dX8_rollOn_49 (by decide) ?_
          refine lv_goto (tgt := 60) hx hb dX8_rollOn_50 (by decide) ?_
          exact b_60  _ _ _ o37.1 mwas o41 x4 (0 : Int32) hq hP hD hS (lv_sub hl [0, 1, 4] rfl)
      · have hq := kite_f c9 hq
        refine lv_aload_n hx hb dX8_rollOn_16 rfl (lv_at hl 0 rfl) ?_
        refine va_get (D := D) (ci := 7) (v := .ref aMwas) (C := RX8) (T := TX8) (N := 13) hx hb hts iw_X8_rollOn_X8 hown hK.1 hP 0 rfl rfl 10 (by decide) (hts (.fieldLink RX8 32 "PinDeckModel" "was" "[I") (by decide +kernel)) (fun _ h9 => h9) rfl dX8_rollOn_17 ?_
        refine lv_iload hx hb dX8_rollOn_20 (lv_at hl 6 rfl) ?_
        refine lv_aload_n hx hb dX8_rollOn_22 rfl (lv_at hl 1 rfl) ?_
        refine lv_iload hx hb dX8_rollOn_23 (lv_at hl 6 rfl) ?_
        obtain ⟨hz, hq⟩ := kite_n hq
        refine k_iald (j := (x6.toNatClampNeg)) hx hb hK.1 hP 3 0 rfl rfl hz rfl dX8_rollOn_25 ?_
        obtain ⟨hz, hq⟩ := kite_n hq
        refine k_iast (j := (x6.toNatClampNeg)) hx hb hK.1 hP hD hS 2 0 rfl rfl hz rfl dX8_rollOn_26 (fun H locs hP hD hS => ?_)
        have hP : va_P D vwCl [(aM, .inr (7, [.int mref, .ref aMtext, .int msize, .ref aMnow, .ref aMtrial, .ref aMdiary, .int macts, .ref aMkept, .ref aMisKept, .ref aMside, .ref aMwas, .int mspot, .int mout])), (aMside, .inl (cI 0, 10, .inl mside)), (aMwas, .inl (cI 0, 30, .inl (upd mwas (x6.toNatClampNeg) (r (x6.toNatClampNeg))))), (aR, .inl (cI 0, 79, .inl r))] H := hP
        have hD : va_D A [(aM, .inr (7, [.int mref, .ref aMtext, .int msize, .ref aMnow, .ref aMtrial, .ref aMdiary, .int macts, .ref aMkept, .ref aMisKept, .ref aMside, .ref aMwas, .int mspot, .int mout])), (aMside, .inl (cI 0, 10, .inl mside)), (aMwas, .inl (cI 0, 30, .inl (upd mwas (x6.toNatClampNeg) (r (x6.toNatClampNeg))))), (aR, .inl (cI 0, 79, .inl r))] := hD
        refine lv_iinc (v := (x6 + 1)) (lv' := [(6, .int (x6 + 1)), (0, .ref aM), (1, .ref aR), (2, .int x2), (3, .int x3), (4, .int x4), (5, .int x5)]) hx hb dX8_rollOn_27 hl (k := 6) rfl rfl (by decide) rfl (fun ls hl => ?_)
        refine lv_goto (tgt := 9) hx hb dX8_rollOn_30 (by decide) ?_
        exact ih _ _ _ mside (upd mwas (x6.toNatClampNeg) (r (x6.toNatClampNeg))) r x2 x3 x4 x5 (x6 + 1) hq hP hD hS (lv_sub hl [1, 2, 3, 4, 5, 6, 0] rfl)
  refine lv_aload_n hx hb dX8_rollOn_0 rfl (lv_at hl 1 rfl) ?_
  obtain ⟨o1, ho1, hq⟩ := kbind hq
  refine kc_Si (av := [.ref aR]) (rest := []) hF hK hG hA (mk_X8_toldOf l D cI aR s.heap.size r o1 ho1) (va_cwS 1 hts gX8_rollOn_X8_toldOf rfl rfl rfl (by decide +kernel) ⟨Nat.le_of_ble_eq_true rfl, Nat.le_of_ble_eq_true rfl⟩) hP hD hS [3] (by decide) rfl rfl rfl hl.1 rfl (Nat.le_of_ble_eq_true rfl) ⟨Nat.zero_le _, Nat.zero_le _⟩ dX8_rollOn_1 (fun H locs hP hD hS => ?_)
  have hP : va_P D vwCl [(aM, .inr (7, [.int mref, .ref aMtext, .int msize, .ref aMnow, .ref aMtrial, .ref aMdiary, .int macts, .ref aMkept, .ref aMisKept, .ref aMside, .ref aMwas, .int mspot, .int mout])), (aMside, .inl (cI 0, 10, .inl mside)), (aMwas, .inl (cI 0, 30, .inl mwas)), (aR, .inl (cI 0, 79, .inl r))] H := hP
  have hD : va_D A [(aM, .inr (7, [.int mref, .ref aMtext, .int msize, .ref aMnow, .ref aMtrial, .ref aMdiary, .int macts, .ref aMkept, .ref aMisKept, .ref aMside, .ref aMwas, .int mspot, .int mout])), (aMside, .inl (cI 0, 10, .inl mside)), (aMwas, .inl (cI 0, 30, .inl mwas)), (aR, .inl (cI 0, 79, .inl r))] := hD
  refine lv_istore (lv' := [(5, .int o1), (0, .ref aM), (1, .ref aR), (2, .int x2), (3, .int x3), (4, .int x4)]) hx hb dX8_rollOn_4 hl (by decide) rfl (fun ls hl => ?_)
  refine lv_iconst (v := 0) hx hb dX8_rollOn_6 (by decide) ?_
  refine lv_istore (lv' := [(6, .int (0 : Int32)), (5, .int o1), (0, .ref aM), (1, .ref aR), (2, .int x2), (3, .int x3), (4, .int x4)]) hx hb dX8_rollOn_7 hl (by decide) rfl (fun ls hl => ?_)
  exact b_9 4096 _ _ _ mside mwas r x2 x3 x4 o1 (0 : Int32) hq hP hD hS (lv_sub hl [2, 3, 4, 5, 6, 1, 0] rfl)

set_option maxHeartbeats 4000000 in
set_option maxRecDepth 100000 in
theorem mk_X8_isStopped (l : Launch) (D : va_G) (cI : Nat → ClassId) (aR : Nat) (sz : Nat) (r : kF) (x1 : Int32) (o : Int32) (hq : fn_X8_isStopped r x1 = some o) : Met l yX8_isStopped wsX8_isStopped ({ frames := 0, cells := 0, slots := 0, locals := 0 }) (kPc D cI [(aR, .inl (cI 0, 79, .inl r))] sz [.ref aR, .int x1]) (kQi D [(aR, .inl (cI 0, 79, .inl r))] [(aR, .inl (cI 0, 79, .inl r))] sz o) 0 0 (va_A [(aR, .inl (cI 0, 79, .inl r))] sz) := by
  refine kM_z (cc := cX8_isStopped) (maxL := 2) (by decide +kernel) rfl (Nat.le_of_ble_eq_true rfl) ?_
  intro p e s m args below meth c A Q hF hK hG hD hA hend ls hP hS hl
  obtain ⟨hx, hb, hml, hown, hts⟩ := id hF
  have hl : lv_has ls 2 [(0, .ref aR), (1, .int x1)] := hl
  have b_16 : ∀ (H : Heap) (locs : List Loc) (ls : Array Slot) (k0 : Int32), fn_X8_isStopped_16 r k0 = some o → va_P D vwCl [(aR, .inl (cI 0, 79, .inl r))] H → va_S A s.heap H locs → lv_has ls 2 [] → W p l e { frames := 0, cells := 0, slots := 0, locals := 0 } s m args below meth c H locs 0 0 Q (F0 m 16 ls [.int k0]) := by
    intro H locs ls k0
    intro hq hP hS hl
    obtain ⟨hz, hq⟩ := kite_b hq
    have ho := Option.some.inj hq
    subst ho
    exact hend _ _ _ _ hz hP hS dX8_isStopped_16
  refine lv_bipush (v := 90) hx hb dX8_isStopped_0 (by decide) ?_
  refine lv_iload_n hx hb dX8_isStopped_2 rfl (lv_at hl 1 rfl) ?_
  obtain ⟨hz, hq⟩ := kite_n hq
  refine lv_idiv hx hb dX8_isStopped_3 hz ?_
  refine lv_aload_n hx hb dX8_isStopped_4 rfl (lv_at hl 0 rfl) ?_
  refine lv_bipush (v := 76) hx hb dX8_isStopped_5 (by decide) ?_
  refine k_iald (j := 76) hx hb hK.1 hP 0 0 rfl rfl (by decide) (by decide) dX8_isStopped_7 ?_
  refine lv_icmp_le (tgt := 15) hx hb dX8_isStopped_8 (by decide) (fun c9 => ?_) (fun c9 => ?_)
  · have hq := kite_t c9 hq
    refine lv_iconst (v := 0) hx hb dX8_isStopped_15 (by decide) ?_
    exact b_16  _ _ _ (0 : Int32) hq hP hS (lv_sub hl [] rfl)
  · have hq := kite_f c9 hq
    refine lv_iconst (v := 1) hx hb dX8_isStopped_11 (by decide) ?_
    refine lv_goto (tgt := 16) hx hb dX8_isStopped_12 (by decide) ?_
    exact b_16  _ _ _ (1 : Int32) hq hP hS (lv_sub hl [] rfl)

set_option maxHeartbeats 4000000 in
set_option maxRecDepth 100000 in
theorem mk_X8_throwOn (l : Launch) (D : va_G) (cI : Nat → ClassId) (aM aMtext aMnow aMtrial aMdiary aMkept aMisKept aMside aMwas aR : Nat) (sz : Nat) (mref : Int32) (msize : Int32) (macts : Int32) (mspot : Int32) (mout : Int32) (mside : kF) (mwas : kF) (r : kF) (x2 : Int32) (x3 : Int32) (x4 : Int32) (x5 : Int32) (o : Int32 × kF × kF × kF) (hq : fn_X8_throwOn mside mwas r x2 x3 x4 x5 = some o) : Met l yX8_throwOn wsX8_throwOn ({ frames := 5, cells := 0, slots := 0, locals := 121 }) (kPc D cI [(aM, .inr (7, [.int mref, .ref aMtext, .int msize, .ref aMnow, .ref aMtrial, .ref aMdiary, .int macts, .ref aMkept, .ref aMisKept, .ref aMside, .ref aMwas, .int mspot, .int mout])), (aMside, .inl (cI 0, 10, .inl mside)), (aMwas, .inl (cI 0, 30, .inl mwas)), (aR, .inl (cI 0, 79, .inl r))] sz [.ref aM, .ref aR, .int x2, .int x3, .int x4, .int x5]) (kQi D [(aM, .inr (7, [.int mref, .ref aMtext, .int msize, .ref aMnow, .ref aMtrial, .ref aMdiary, .int macts, .ref aMkept, .ref aMisKept, .ref aMside, .ref aMwas, .int mspot, .int mout])), (aMside, .inl (cI 0, 10, .inl mside)), (aMwas, .inl (cI 0, 30, .inl mwas)), (aR, .inl (cI 0, 79, .inl r))] [(aM, .inr (7, [.int mref, .ref aMtext, .int msize, .ref aMnow, .ref aMtrial, .ref aMdiary, .int macts, .ref aMkept, .ref aMisKept, .ref aMside, .ref aMwas, .int mspot, .int mout])), (aMside, .inl (cI 0, 10, .inl o.2.1)), (aMwas, .inl (cI 0, 30, .inl o.2.2.1)), (aR, .inl (cI 0, 79, .inl o.2.2.2))] sz o.1) 0 0 (va_A [(aM, .inr (7, [.int mref, .ref aMtext, .int msize, .ref aMnow, .ref aMtrial, .ref aMdiary, .int macts, .ref aMkept, .ref aMisKept, .ref aMside, .ref aMwas, .int mspot, .int mout])), (aMside, .inl (cI 0, 10, .inl mside)), (aMwas, .inl (cI 0, 30, .inl mwas)), (aR, .inl (cI 0, 79, .inl r))] sz) := by
  refine kM_i (cc := cX8_throwOn) (maxL := 6) (by decide +kernel) rfl (Nat.le_of_ble_eq_true rfl) ?_
  intro p e s m args below meth c A Q hF hK hG hD hA hend ls hP hS hl
  obtain ⟨hx, hb, hml, hown, hts⟩ := id hF
  have hl : lv_has ls 6 [(0, .ref aM), (1, .ref aR), (2, .int x2), (3, .int x3), (4, .int x4), (5, .int x5)] := hl
  refine lv_aload_n hx hb dX8_throwOn_0 rfl (lv_at hl 1 rfl) ?_
  refine lv_iload hx hb dX8_throwOn_1 (lv_at hl 4 rfl) ?_
  obtain ⟨o3, ho3, hq⟩ := kbind hq
  refine kc_Si (av := [.ref aR, .int x4]) (rest := []) hF hK hG hA (mk_X8_isStopped l D cI aR s.heap.size r x4 o3 ho3) (va_cwS 2 hts gX8_throwOn_X8_isStopped rfl rfl rfl (by decide +kernel) ⟨Nat.le_of_ble_eq_true rfl, Nat.le_of_ble_eq_true rfl⟩) hP hD hS [3] (by decide) rfl rfl rfl hl.1 rfl (Nat.le_of_ble_eq_true rfl) ⟨Nat.zero_le _, Nat.zero_le _⟩ dX8_throwOn_3 (fun H locs hP hD hS => ?_)
  have hP : va_P D vwCl [(aM, .inr (7, [.int mref, .ref aMtext, .int msize, .ref aMnow, .ref aMtrial, .ref aMdiary, .int macts, .ref aMkept, .ref aMisKept, .ref aMside, .ref aMwas, .int mspot, .int mout])), (aMside, .inl (cI 0, 10, .inl mside)), (aMwas, .inl (cI 0, 30, .inl mwas)), (aR, .inl (cI 0, 79, .inl r))] H := hP
  have hD : va_D A [(aM, .inr (7, [.int mref, .ref aMtext, .int msize, .ref aMnow, .ref aMtrial, .ref aMdiary, .int macts, .ref aMkept, .ref aMisKept, .ref aMside, .ref aMwas, .int mspot, .int mout])), (aMside, .inl (cI 0, 10, .inl mside)), (aMwas, .inl (cI 0, 30, .inl mwas)), (aR, .inl (cI 0, 79, .inl r))] := hD
  refine lv_if_eq (tgt := 19) hx hb dX8_throwOn_6 (by decide) (fun c9 => ?_) (fun c9 => ?_)
  · have hq := kite_t c9 hq
    refine lv_aload_n hx hb dX8_throwOn_19 rfl (lv_at hl 0 rfl) ?_
    refine lv_aload_n hx hb dX8_throwOn_20 rfl (lv_at hl 1 rfl) ?_
    refine lv_iload_n hx hb dX8_throwOn_21 rfl (lv_at hl 2 rfl) ?_
    refine lv_iload_n hx hb dX8_throwOn_22 rfl (lv_at hl 3 rfl) ?_
    refine lv_iload hx hb dX8_throwOn_23 (lv_at hl 5 rfl) ?_
    obtain ⟨o25, ho25, hq⟩ := kbind hq
    refine kc_Vi (av := [.ref aR, .int x2, .int x3, .int x5]) (rest := []) hF hK hG hA (mk_X8_rollOn l D cI aM aMtext aMnow aMtrial aMdiary aMkept aMisKept aMside aMwas aR H.size mref msize macts mspot mout mside mwas r x2 x3 x5 o25 ho25) (cwV 4 hts gX8_throwOn_X8_rollOn rfl rfl rfl (by decide +kernel) ⟨Nat.le_of_ble_eq_true rfl, Nat.le_of_ble_eq_true rfl⟩) hP hD hS [0, 1, 2, 3] (by decide) rfl rfl 0 rfl rfl rfl hl.1 rfl (Nat.le_of_ble_eq_true rfl) ⟨Nat.zero_le _, Nat.zero_le _⟩ dX8_throwOn_25 (fun H locs hP hD hS => ?_)
    have hP : va_P D vwCl [(aM, .inr (7, [.int mref, .ref aMtext, .int msize, .ref aMnow, .ref aMtrial, .ref aMdiary, .int macts, .ref aMkept, .ref aMisKept, .ref aMside, .ref aMwas, .int mspot, .int mout])), (aMside, .inl (cI 0, 10, .inl o25.2.1)), (aMwas, .inl (cI 0, 30, .inl o25.2.2.1)), (aR, .inl (cI 0, 79, .inl o25.2.2.2))] H := hP
    have hD : va_D A [(aM, .inr (7, [.int mref, .ref aMtext, .int msize, .ref aMnow, .ref aMtrial, .ref aMdiary, .int macts, .ref aMkept, .ref aMisKept, .ref aMside, .ref aMwas, .int mspot, .int mout])), (aMside, .inl (cI 0, 10, .inl o25.2.1)), (aMwas, .inl (cI 0, 30, .inl o25.2.2.1)), (aR, .inl (cI 0, 79, .inl o25.2.2.2))] := hD
    have ho := Option.some.inj hq
    subst ho
    exact hend _ _ _ _ hP hS dX8_throwOn_28
  · have hq := kite_f c9 hq
    refine lv_aload_n hx hb dX8_throwOn_9 rfl (lv_at hl 1 rfl) ?_
    refine lv_bipush (v := 73) hx hb dX8_throwOn_10 (by decide) ?_
    refine lv_dup2_11 hx hb dX8_throwOn_12 rfl rfl ?_
    refine k_iald (j := 73) hx hb hK.1 hP 3 0 rfl rfl (by decide) (by decide) dX8_throwOn_13 ?_
    refine lv_iconst (v := 1) hx hb dX8_throwOn_14 (by decide) ?_
    refine lv_iadd hx hb dX8_throwOn_15 ?_
    refine k_iast (j := 73) hx hb hK.1 hP hD hS 3 0 rfl rfl (by decide) (by decide) dX8_throwOn_16 (fun H locs hP hD hS => ?_)
    have hP : va_P D vwCl [(aM, .inr (7, [.int mref, .ref aMtext, .int msize, .ref aMnow, .ref aMtrial, .ref aMdiary, .int macts, .ref aMkept, .ref aMisKept, .ref aMside, .ref aMwas, .int mspot, .int mout])), (aMside, .inl (cI 0, 10, .inl mside)), (aMwas, .inl (cI 0, 30, .inl mwas)), (aR, .inl (cI 0, 79, .inl (upd r 73 ((r 73) + (1 : Int32)))))] H := hP
    have hD : va_D A [(aM, .inr (7, [.int mref, .ref aMtext, .int msize, .ref aMnow, .ref aMtrial, .ref aMdiary, .int macts, .ref aMkept, .ref aMisKept, .ref aMside, .ref aMwas, .int mspot, .int mout])), (aMside, .inl (cI 0, 10, .inl mside)), (aMwas, .inl (cI 0, 30, .inl mwas)), (aR, .inl (cI 0, 79, .inl (upd r 73 ((r 73) + (1 : Int32)))))] := hD
    refine lv_iconst (v := (-1)) hx hb dX8_throwOn_17 (by decide) ?_
    have ho := Option.some.inj hq
    subst ho
    exact hend _ _ _ _ hP hS dX8_throwOn_18

set_option maxHeartbeats 4000000 in
set_option maxRecDepth 100000 in
theorem mk_X8_beginOn (l : Launch) (D : va_G) (cI : Nat → ClassId) (aR : Nat) (sz : Nat) (r : kF) (o : Int32 × kF) (hq : fn_X8_beginOn r = some o) : Met l yX8_beginOn wsX8_beginOn ({ frames := 4, cells := 0, slots := 0, locals := 89 }) (kPc D cI [(aR, .inl (cI 0, 79, .inl r))] sz [.ref aR]) (kQi D [(aR, .inl (cI 0, 79, .inl r))] [(aR, .inl (cI 0, 79, .inl o.2))] sz o.1) 0 0 (va_A [(aR, .inl (cI 0, 79, .inl r))] sz) := by
  refine kM_i (cc := cX8_beginOn) (maxL := 3) (by decide +kernel) rfl (Nat.le_of_ble_eq_true rfl) ?_
  intro p e s m args below meth c A Q hF hK hG hD hA hend ls hP hS hl
  obtain ⟨hx, hb, hml, hown, hts⟩ := id hF
  have hl : lv_has ls 3 [(0, .ref aR)] := hl
  have b_8 : ∀ (q : Nat), ∀ (H : Heap) (locs : List Loc) (ls : Array Slot) (r : kF) (x1 : Int32) (x2 : Int32), fn_X8_beginOn_8 q r x1 x2 = some o → va_P D vwCl [(aR, .inl (cI 0, 79, .inl r))] H → va_D A [(aR, .inl (cI 0, 79, .inl r))] → va_S A s.heap H locs → lv_has ls 3 [(0, .ref aR), (1, .int x1), (2, .int x2)] → W p l e { frames := 4, cells := 0, slots := 0, locals := 89 } s m args below meth c H locs 0 0 Q (F0 m 8 ls []) := by
    intro q
    induction q with
    | zero =>
      intro H locs ls r x1 x2
      intro hq
      cases hq
    | succ q ih =>
      intro H locs ls r x1 x2
      intro hq hP hD hS hl
      refine lv_iload_n hx hb dX8_beginOn_8 rfl (lv_at hl 2 rfl) ?_
      refine lv_bipush (v := 73) hx hb dX8_beginOn_9 (by decide) ?_
      refine lv_icmp_ge (tgt := 24) hx hb dX8_beginOn_11 (by decide) (fun c9 => ?_) (fun c9 => ?_)
      · have hq := kite_t c9 hq
        refine lv_aload_n hx hb dX8_beginOn_24 rfl (lv_at hl 0 rfl) ?_
        obtain ⟨o25, ho25, hq⟩ := kbind hq
        refine kc_Sv (av := [.ref aR]) (rest := []) hF hK hG hA (mk_X8_rack l D cI aR H.size r o25 ho25) (va_cwS 1 hts gX8_beginOn_X8_rack rfl rfl rfl (by decide +kernel) ⟨Nat.le_of_ble_eq_true rfl, Nat.le_of_ble_eq_true rfl⟩) hP hD hS [0] (by decide) rfl rfl rfl hl.1 rfl (Nat.le_of_ble_eq_true rfl) ⟨Nat.zero_le _, Nat.zero_le _⟩ dX8_beginOn_25 (fun H locs hP hD hS => ?_)
        have hP : va_P D vwCl [(aR, .inl (cI 0, 79, .inl o25))] H := hP
        have hD : va_D A [(aR, .inl (cI 0, 79, .inl o25))] := hD
        refine lv_iload_n hx hb dX8_beginOn_28 rfl (lv_at hl 1 rfl) ?_
        have ho := Option.some.inj hq
        subst ho
        exact hend _ _ _ _ hP hS dX8_beginOn_29
      · have hq := kite_f c9 hq
        refine lv_aload_n hx hb dX8_beginOn_14 rfl (lv_at hl 0 rfl) ?_
        refine lv_iload_n hx hb dX8_beginOn_15 rfl (lv_at hl 2 rfl) ?_
        refine lv_iconst (v := 0) hx hb dX8_beginOn_16 (by decide) ?_
        obtain ⟨hz, hq⟩ := kite_n hq
        refine k_iast (j := (x2.toNatClampNeg)) hx hb hK.1 hP hD hS 0 0 rfl rfl hz rfl dX8_beginOn_17 (fun H locs hP hD hS => ?_)
        have hP : va_P D vwCl [(aR, .inl (cI 0, 79, .inl (upd r (x2.toNatClampNeg) (0 : Int32))))] H := hP
        have hD : va_D A [(aR, .inl (cI 0, 79, .inl (upd r (x2.toNatClampNeg) (0 : Int32))))] := hD
        refine lv_iinc (v := (x2 + 1)) (lv' := [(2, .int (x2 + 1)), (0, .ref aR), (1, .int x1)]) hx hb dX8_beginOn_18 hl (k := 2) rfl rfl (by decide) rfl (fun ls hl => ?_)
        refine lv_goto (tgt := 8) hx hb dX8_beginOn_21 (by decide) ?_
        exact ih _ _ _ (upd r (x2.toNatClampNeg) (0 : Int32)) x1 (x2 + 1) hq hP hD hS (lv_sub hl [1, 2, 0] rfl)
  refine lv_aload_n hx hb dX8_beginOn_0 rfl (lv_at hl 0 rfl) ?_
  obtain ⟨o1, ho1, hq⟩ := kbind hq
  refine kc_Si (av := [.ref aR]) (rest := []) hF hK hG hA (mk_X8_points l D cI aR s.heap.size r o1 ho1) (va_cwS 1 hts gX8_beginOn_X8_points rfl rfl rfl (by decide +kernel) ⟨Nat.le_of_ble_eq_true rfl, Nat.le_of_ble_eq_true rfl⟩) hP hD hS [0] (by decide) rfl rfl rfl hl.1 rfl (Nat.le_of_ble_eq_true rfl) ⟨Nat.zero_le _, Nat.zero_le _⟩ dX8_beginOn_1 (fun H locs hP hD hS => ?_)
  have hP : va_P D vwCl [(aR, .inl (cI 0, 79, .inl r))] H := hP
  have hD : va_D A [(aR, .inl (cI 0, 79, .inl r))] := hD
  refine lv_istore_n (lv' := [(1, .int o1), (0, .ref aR)]) hx hb dX8_beginOn_4 rfl hl (by decide) rfl (fun ls hl => ?_)
  refine lv_bipush (v := 30) hx hb dX8_beginOn_5 (by decide) ?_
  refine lv_istore_n (lv' := [(2, .int (30 : Int32)), (1, .int o1), (0, .ref aR)]) hx hb dX8_beginOn_7 rfl hl (by decide) rfl (fun ls hl => ?_)
  exact b_8 4096 _ _ _ r o1 (30 : Int32) hq hP hD hS (lv_sub hl [2, 1, 0] rfl)

set_option maxHeartbeats 4000000 in
set_option maxRecDepth 100000 in
theorem mk_X8_isSetting (l : Launch) (D : va_G) (cI : Nat → ClassId) (sz : Nat) (x0 : Int32) (x1 : Int32) (o : Int32) (hq : fn_X8_isSetting x0 x1 = some o) : Met l yX8_isSetting wsX8_isSetting ({ frames := 1, cells := 0, slots := 0, locals := 25 }) (kPc D cI [] sz [.int x0, .int x1]) (kQi D [] [] sz o) 0 0 (va_A [] sz) := by
  refine kM_z (cc := cX8_isSetting) (maxL := 2) (by decide +kernel) rfl (Nat.le_of_ble_eq_true rfl) ?_
  intro p e s m args below meth c A Q hF hK hG hD hA hend ls hP hS hl
  obtain ⟨hx, hb, hml, hown, hts⟩ := id hF
  have hl : lv_has ls 2 [(0, .int x0), (1, .int x1)] := hl
  have b_45 : ∀ (H : Heap) (locs : List Loc) (ls : Array Slot) (k0 : Int32), fn_X8_isSetting_45 k0 = some o → va_P D vwCl [] H → va_S A s.heap H locs → lv_has ls 2 [] → W p l e { frames := 1, cells := 0, slots := 0, locals := 25 } s m args below meth c H locs 0 0 Q (F0 m 45 ls [.int k0]) := by
    intro H locs ls k0
    intro hq hP hS hl
    obtain ⟨hz, hq⟩ := kite_b hq
    have ho := Option.some.inj hq
    subst ho
    exact hend _ _ _ _ hz hP hS dX8_isSetting_45
  have b_44 : ∀ (H : Heap) (locs : List Loc) (ls : Array Slot), fn_X8_isSetting_44  = some o → va_P D vwCl [] H → va_S A s.heap H locs → lv_has ls 2 [] → W p l e { frames := 1, cells := 0, slots := 0, locals := 25 } s m args below meth c H locs 0 0 Q (F0 m 44 ls []) := by
    intro H locs ls 
    intro hq hP hS hl
    refine lv_iconst (v := 0) hx hb dX8_isSetting_44 (by decide) ?_
    exact b_45  _ _ _ (0 : Int32) hq hP hS (lv_sub hl [] rfl)
  have b_28 : ∀ (H : Heap) (locs : List Loc) (ls : Array Slot) (x1 : Int32), fn_X8_isSetting_28 x1 = some o → va_P D vwCl [] H → va_S A s.heap H locs → lv_has ls 2 [(1, .int x1)] → W p l e { frames := 1, cells := 0, slots := 0, locals := 25 } s m args below meth c H locs 0 0 Q (F0 m 28 ls []) := by
    intro H locs ls x1
    intro hq hP hS hl
    refine lv_iload_n hx hb dX8_isSetting_28 rfl (lv_at hl 0 rfl) ?_
    refine lv_i2l (v := (x1).toInt64) hx hb dX8_isSetting_29 rfl ?_
    refine lv_lconst (v := 0) hx hb dX8_isSetting_30 (by decide) ?_
    refine lv_ldc2 (v := 3) hx hb hown (hts (.constantLong RX8 71 (3 : Int64)) (by decide +kernel)) dX8_isSetting_31 ?_
    obtain ⟨o34, ho34, hq⟩ := kbind hq
    refine kc_Si (av := [.long ((x1).toInt64), .long (0 : Int64), .long (3 : Int64)]) (rest := []) hF hK hG hA (mk_X8_in l D cI H.size ((x1).toInt64) (0 : Int64) (3 : Int64) o34 ho34) (va_cwS 3 hts gX8_isSetting_X8_in rfl rfl rfl (by decide +kernel) ⟨Nat.le_of_ble_eq_true rfl, Nat.le_of_ble_eq_true rfl⟩) hP hD hS [] (by decide) rfl rfl rfl hl.1 rfl (Nat.le_of_ble_eq_true rfl) ⟨Nat.zero_le _, Nat.zero_le _⟩ dX8_isSetting_34 (fun H locs hP hD hS => ?_)
    have hP : va_P D vwCl [] H := hP
    have hD : va_D A [] := hD
    refine lv_if_eq (tgt := 44) hx hb dX8_isSetting_37 (by decide) (fun c9 => ?_) (fun c9 => ?_)
    · have hq := kite_t c9 hq
      exact b_44  _ _ _  hq hP hS (lv_sub hl [] rfl)
    · have hq := kite_f c9 hq
      refine lv_iconst (v := 1) hx hb dX8_isSetting_40 (by decide) ?_
      refine lv_goto (tgt := 45) hx hb dX8_isSetting_41 (by decide) ?_
      exact b_45  _ _ _ (1 : Int32) hq hP hS (lv_sub hl [] rfl)
  refine lv_iload_n hx hb dX8_isSetting_0 rfl (lv_at hl 0 rfl) ?_
  refine lv_if_ne (tgt := 18) hx hb dX8_isSetting_1 (by decide) (fun c9 => ?_) (fun c9 => ?_)
  · have hq := kite_f c9 hq
    refine lv_iload_n hx hb dX8_isSetting_18 rfl (lv_at hl 0 rfl) ?_
    refine lv_iconst (v := 1) hx hb dX8_isSetting_19 (by decide) ?_
    refine lv_icmp_eq (tgt := 28) hx hb dX8_isSetting_20 (by decide) (fun c9 => ?_) (fun c9 => ?_)
    · have hq := kite_t c9 hq
      exact b_28  _ _ _ x1 hq hP hS (lv_sub hl [1] rfl)
    · have hq := kite_f c9 hq
      refine lv_iload_n hx hb dX8_isSetting_23 rfl (lv_at hl 0 rfl) ?_
      refine lv_iconst (v := 2) hx hb dX8_isSetting_24 (by decide) ?_
      refine lv_icmp_ne (tgt := 44) hx hb dX8_isSetting_25 (by decide) (fun c9 => ?_) (fun c9 => ?_)
      · have hq := kite_f c9 hq
        exact b_44  _ _ _  hq hP hS (lv_sub hl [] rfl)
      · have hq := kite_t c9 hq
        exact b_28  _ _ _ x1 hq hP hS (lv_sub hl [1] rfl)
  · have hq := kite_t c9 hq
    refine lv_iload_n hx hb dX8_isSetting_4 rfl (lv_at hl 1 rfl) ?_
    refine lv_i2l (v := (x1).toInt64) hx hb dX8_isSetting_5 rfl ?_
    refine lv_ldc2 (v := 3) hx hb hown (hts (.constantLong RX8 71 (3 : Int64)) (by decide +kernel)) dX8_isSetting_6 ?_
    refine lv_ldc2 (v := 90) hx hb hown (hts (.constantLong RX8 128 (90 : Int64)) (by decide +kernel)) dX8_isSetting_9 ?_
    obtain ⟨o12, ho12, hq⟩ := kbind hq
    refine kc_Si (av := [.long ((x1).toInt64), .long (3 : Int64), .long (90 : Int64)]) (rest := []) hF hK hG hA (mk_X8_in l D cI s.heap.size ((x1).toInt64) (3 : Int64) (90 : Int64) o12 ho12) (va_cwS 3 hts gX8_isSetting_X8_in rfl rfl rfl (by decide +kernel) ⟨Nat.le_of_ble_eq_true rfl, Nat.le_of_ble_eq_true rfl⟩) hP hD hS [] (by decide) rfl rfl rfl hl.1 rfl (Nat.le_of_ble_eq_true rfl) ⟨Nat.zero_le _, Nat.zero_le _⟩ dX8_isSetting_12 (fun H locs hP hD hS => ?_)
    have hP : va_P D vwCl [] H := hP
    have hD : va_D A [] := hD
    refine lv_goto (tgt := 45) hx hb dX8_isSetting_15 (by decide) ?_
    exact b_45  _ _ _ o12 hq hP hS (lv_sub hl [] rfl)

theorem iw_X8_append_X8 : ∀ w ∈ wsX80, w ∈ wsX8_append := by decide +kernel
set_option maxHeartbeats 4000000 in
set_option maxRecDepth 100000 in
theorem mk_X8_append (l : Launch) (D : va_G) (cI : Nat → ClassId) (aM aMtext aMnow aMtrial aMdiary aMkept aMisKept aMside aMwas : Nat) (sz : Nat) (mref : Int32) (msize : Int32) (macts : Int32) (mspot : Int32) (mout : Int32) (mtext : kF) (x1 : Int32) (o : Int32 × Int32 × Int32 × kF) (hq : fn_X8_append mref msize mtext x1 = some o) : Met l yX8_append wsX8_append ({ frames := 1, cells := 0, slots := 0, locals := 25 }) (kPc D cI [(aM, .inr (7, [.int mref, .ref aMtext, .int msize, .ref aMnow, .ref aMtrial, .ref aMdiary, .int macts, .ref aMkept, .ref aMisKept, .ref aMside, .ref aMwas, .int mspot, .int mout])), (aMtext, .inl (cI 0, 120, .inl mtext))] sz [.ref aM, .int x1]) (kQi D [(aM, .inr (7, [.int mref, .ref aMtext, .int msize, .ref aMnow, .ref aMtrial, .ref aMdiary, .int macts, .ref aMkept, .ref aMisKept, .ref aMside, .ref aMwas, .int mspot, .int mout])), (aMtext, .inl (cI 0, 120, .inl mtext))] [(aM, .inr (7, [.int o.2.1, .ref aMtext, .int o.2.2.1, .ref aMnow, .ref aMtrial, .ref aMdiary, .int macts, .ref aMkept, .ref aMisKept, .ref aMside, .ref aMwas, .int mspot, .int mout])), (aMtext, .inl (cI 0, 120, .inl o.2.2.2))] sz o.1) 0 0 (va_A [(aM, .inr (7, [.int mref, .ref aMtext, .int msize, .ref aMnow, .ref aMtrial, .ref aMdiary, .int macts, .ref aMkept, .ref aMisKept, .ref aMside, .ref aMwas, .int mspot, .int mout])), (aMtext, .inl (cI 0, 120, .inl mtext))] sz) := by
  refine kM_i (cc := cX8_append) (maxL := 2) (by decide +kernel) rfl (Nat.le_of_ble_eq_true rfl) ?_
  intro p e s m args below meth c A Q hF hK hG hD hA hend ls hP hS hl
  obtain ⟨hx, hb, hml, hown, hts⟩ := id hF
  have hl : lv_has ls 2 [(0, .ref aM), (1, .int x1)] := hl
  have b_31 : ∀ (H : Heap) (locs : List Loc) (ls : Array Slot) (mref : Int32) (msize : Int32) (mtext : kF) (x1 : Int32) (k1 : Int32), fn_X8_append_31 mref msize mtext x1 k1 = some o → va_P D vwCl [(aM, .inr (7, [.int mref, .ref aMtext, .int msize, .ref aMnow, .ref aMtrial, .ref aMdiary, .int macts, .ref aMkept, .ref aMisKept, .ref aMside, .ref aMwas, .int mspot, .int mout])), (aMtext, .inl (cI 0, 120, .inl mtext))] H → va_D A [(aM, .inr (7, [.int mref, .ref aMtext, .int msize, .ref aMnow, .ref aMtrial, .ref aMdiary, .int macts, .ref aMkept, .ref aMisKept, .ref aMside, .ref aMwas, .int mspot, .int mout])), (aMtext, .inl (cI 0, 120, .inl mtext))] → va_S A s.heap H locs → lv_has ls 2 [(0, .ref aM), (1, .int x1)] → W p l e { frames := 1, cells := 0, slots := 0, locals := 25 } s m args below meth c H locs 0 0 Q (F0 m 31 ls [.int k1, .ref aM]) := by
    intro H locs ls mref msize mtext x1 k1
    intro hq hP hD hS hl
    obtain ⟨o31, ho31, hq⟩ := kbind hq
    refine kc_Vi (av := [.int k1]) (rest := []) hF hK hG hA (mk_X8_refused l D cI aM aMtext aMnow aMtrial aMdiary aMkept aMisKept aMside aMwas H.size mref msize macts mspot mout k1 o31 ho31) (cwV 1 hts gX8_append_X8_refused rfl rfl rfl (by decide +kernel) ⟨Nat.le_of_ble_eq_true rfl, Nat.le_of_ble_eq_true rfl⟩) hP hD hS [0] (by decide) rfl rfl 0 rfl rfl rfl hl.1 rfl (Nat.le_of_ble_eq_true rfl) ⟨Nat.zero_le _, Nat.zero_le _⟩ dX8_append_31 (fun H locs hP hD hS => ?_)
    have hP : va_P D vwCl [(aM, .inr (7, [.int o31.2, .ref aMtext, .int msize, .ref aMnow, .ref aMtrial, .ref aMdiary, .int macts, .ref aMkept, .ref aMisKept, .ref aMside, .ref aMwas, .int mspot, .int mout])), (aMtext, .inl (cI 0, 120, .inl mtext))] H := hP
    have hD : va_D A [(aM, .inr (7, [.int o31.2, .ref aMtext, .int msize, .ref aMnow, .ref aMtrial, .ref aMdiary, .int macts, .ref aMkept, .ref aMisKept, .ref aMside, .ref aMwas, .int mspot, .int mout])), (aMtext, .inl (cI 0, 120, .inl mtext))] := hD
    refine lv_if_eq (tgt := 39) hx hb dX8_append_34 (by decide) (fun c9 => ?_) (fun c9 => ?_)
    · have hq := kite_t c9 hq
      refine lv_aload_n hx hb dX8_append_39 rfl (lv_at hl 0 rfl) ?_
      refine va_get (D := D) (ci := 7) (v := .ref aMtext) (C := RX8) (T := TX8) (N := 13) hx hb hts iw_X8_append_X8 hown hK.1 hP 0 rfl rfl 1 (by decide) (hts (.fieldLink RX8 7 "PinDeckModel" "text" "[I") (by decide +kernel)) (fun _ h9 => h9) rfl dX8_append_40 ?_
      refine lv_aload_n hx hb dX8_append_43 rfl (lv_at hl 0 rfl) ?_
      refine va_get (D := D) (ci := 7) (v := .int msize) (C := RX8) (T := TX8) (N := 13) hx hb hts iw_X8_append_X8 hown hK.1 hP 0 rfl rfl 2 (by decide) (hts (.fieldLink RX8 132 "PinDeckModel" "size" "I") (by decide +kernel)) (fun _ h9 => h9) rfl dX8_append_44 ?_
      refine lv_iload_n hx hb dX8_append_47 rfl (lv_at hl 1 rfl) ?_
      obtain ⟨hz, hq⟩ := kite_n hq
      refine k_iast (j := (msize.toNatClampNeg)) hx hb hK.1 hP hD hS 1 0 rfl rfl hz rfl dX8_append_48 (fun H locs hP hD hS => ?_)
      have hP : va_P D vwCl [(aM, .inr (7, [.int o31.2, .ref aMtext, .int msize, .ref aMnow, .ref aMtrial, .ref aMdiary, .int macts, .ref aMkept, .ref aMisKept, .ref aMside, .ref aMwas, .int mspot, .int mout])), (aMtext, .inl (cI 0, 120, .inl (upd mtext (msize.toNatClampNeg) x1)))] H := hP
      have hD : va_D A [(aM, .inr (7, [.int o31.2, .ref aMtext, .int msize, .ref aMnow, .ref aMtrial, .ref aMdiary, .int macts, .ref aMkept, .ref aMisKept, .ref aMside, .ref aMwas, .int mspot, .int mout])), (aMtext, .inl (cI 0, 120, .inl (upd mtext (msize.toNatClampNeg) x1)))] := hD
      refine lv_aload_n hx hb dX8_append_49 rfl (lv_at hl 0 rfl) ?_
      refine lv_dup hx hb dX8_append_50 rfl ?_
      refine va_get (D := D) (ci := 7) (v := .int msize) (C := RX8) (T := TX8) (N := 13) hx hb hts iw_X8_append_X8 hown hK.1 hP 0 rfl rfl 2 (by decide) (hts (.fieldLink RX8 132 "PinDeckModel" "size" "I") (by decide +kernel)) (fun _ h9 => h9) rfl dX8_append_51 ?_
      refine lv_iconst (v := 1) hx hb dX8_append_54 (by decide) ?_
      refine lv_iadd hx hb dX8_append_55 ?_
      refine va_put (D := D) (ci := 7) (v := .int (msize + (1 : Int32))) (ty := .int) (C := RX8) (T := TX8) (N := 13) hx hb hts iw_X8_append_X8 tyX8 tyX8_ok nmX8 hown hK.1 hP hD hS 0 rfl rfl 2 (by decide) (hts (.fieldLink RX8 132 "PinDeckModel" "size" "I") (by decide +kernel)) (fun _ h9 => h9) rfl (by decide +kernel) rfl rfl (Nat.le_of_ble_eq_true rfl) dX8_append_56 (fun H locs hP hD hS => ?_)
      have hP : va_P D vwCl [(aM, .inr (7, [.int o31.2, .ref aMtext, .int (msize + (1 : Int32)), .ref aMnow, .ref aMtrial, .ref aMdiary, .int macts, .ref aMkept, .ref aMisKept, .ref aMside, .ref aMwas, .int mspot, .int mout])), (aMtext, .inl (cI 0, 120, .inl (upd mtext (msize.toNatClampNeg) x1)))] H := hP
      have hD : va_D A [(aM, .inr (7, [.int o31.2, .ref aMtext, .int (msize + (1 : Int32)), .ref aMnow, .ref aMtrial, .ref aMdiary, .int macts, .ref aMkept, .ref aMisKept, .ref aMside, .ref aMwas, .int mspot, .int mout])), (aMtext, .inl (cI 0, 120, .inl (upd mtext (msize.toNatClampNeg) x1)))] := hD
      refine lv_aload_n hx hb dX8_append_59 rfl (lv_at hl 0 rfl) ?_
      refine va_get (D := D) (ci := 7) (v := .int (msize + (1 : Int32))) (C := RX8) (T := TX8) (N := 13) hx hb hts iw_X8_append_X8 hown hK.1 hP 0 rfl rfl 2 (by decide) (hts (.fieldLink RX8 132 "PinDeckModel" "size" "I") (by decide +kernel)) (fun _ h9 => h9) rfl dX8_append_60 ?_
      have ho := Option.some.inj hq
      subst ho
      exact hend _ _ _ _ hP hS dX8_append_63
    · have hq := kite_f c9 hq
      refine lv_iconst (v := 0) hx hb dX8_append_37 (by decide) ?_
      have ho := Option.some.inj hq
      subst ho
      exact hend _ _ _ _ hP hS dX8_append_38
  refine lv_aload_n hx hb dX8_append_0 rfl (lv_at hl 0 rfl) ?_
  refine lv_iload_n hx hb dX8_append_1 rfl (lv_at hl 1 rfl) ?_
  refine lv_i2l (v := (x1).toInt64) hx hb dX8_append_2 rfl ?_
  refine lv_lconst (v := 0) hx hb dX8_append_3 (by decide) ?_
  refine lv_ldc2 (v := 255) hx hb hown (hts (.constantLong RX8 130 (255 : Int64)) (by decide +kernel)) dX8_append_4 ?_
  obtain ⟨o7, ho7, hq⟩ := kbind hq
  refine kc_Si (av := [.long ((x1).toInt64), .long (0 : Int64), .long (255 : Int64)]) (rest := [.ref aM]) hF hK hG hA (mk_X8_in l D cI s.heap.size ((x1).toInt64) (0 : Int64) (255 : Int64) o7 ho7) (va_cwS 3 hts gX8_append_X8_in rfl rfl rfl (by decide +kernel) ⟨Nat.le_of_ble_eq_true rfl, Nat.le_of_ble_eq_true rfl⟩) hP hD hS [] (by decide) rfl rfl rfl hl.1 rfl (Nat.le_of_ble_eq_true rfl) ⟨Nat.zero_le _, Nat.zero_le _⟩ dX8_append_7 (fun H locs hP hD hS => ?_)
  have hP : va_P D vwCl [(aM, .inr (7, [.int mref, .ref aMtext, .int msize, .ref aMnow, .ref aMtrial, .ref aMdiary, .int macts, .ref aMkept, .ref aMisKept, .ref aMside, .ref aMwas, .int mspot, .int mout])), (aMtext, .inl (cI 0, 120, .inl mtext))] H := hP
  have hD : va_D A [(aM, .inr (7, [.int mref, .ref aMtext, .int msize, .ref aMnow, .ref aMtrial, .ref aMdiary, .int macts, .ref aMkept, .ref aMisKept, .ref aMside, .ref aMwas, .int mspot, .int mout])), (aMtext, .inl (cI 0, 120, .inl mtext))] := hD
  refine lv_if_ne (tgt := 17) hx hb dX8_append_10 (by decide) (fun c9 => ?_) (fun c9 => ?_)
  · have hq := kite_f c9 hq
    refine lv_aload_n hx hb dX8_append_17 rfl (lv_at hl 0 rfl) ?_
    refine va_get (D := D) (ci := 7) (v := .int msize) (C := RX8) (T := TX8) (N := 13) hx hb hts iw_X8_append_X8 hown hK.1 hP 0 rfl rfl 2 (by decide) (hts (.fieldLink RX8 132 "PinDeckModel" "size" "I") (by decide +kernel)) (fun _ h9 => h9) rfl dX8_append_18 ?_
    refine lv_bipush (v := 120) hx hb dX8_append_21 (by decide) ?_
    refine lv_icmp_ne (tgt := 30) hx hb dX8_append_23 (by decide) (fun c9 => ?_) (fun c9 => ?_)
    · have hq := kite_f c9 hq
      refine lv_iconst (v := 0) hx hb dX8_append_30 (by decide) ?_
      exact b_31  _ _ _ mref msize mtext x1 (0 : Int32) hq hP hD hS (lv_sub hl [0, 1] rfl)
    · have hq := kite_t c9 hq
      refine lv_iconst (v := 2) hx hb dX8_append_26 (by decide) ?_
      refine lv_goto (tgt := 31) hx hb dX8_append_27 (by decide) ?_
      exact b_31  _ _ _ mref msize mtext x1 (2 : Int32) hq hP hD hS (lv_sub hl [0, 1] rfl)
  · have hq := kite_t c9 hq
    refine lv_iconst (v := 1) hx hb dX8_append_13 (by decide) ?_
    refine lv_goto (tgt := 31) hx hb dX8_append_14 (by decide) ?_
    exact b_31  _ _ _ mref msize mtext x1 (1 : Int32) hq hP hD hS (lv_sub hl [0, 1] rfl)

theorem iw_X8_clearText_X8 : ∀ w ∈ wsX80, w ∈ wsX8_clearText := by decide +kernel
set_option maxHeartbeats 4000000 in
set_option maxRecDepth 100000 in
theorem mk_X8_clearText (l : Launch) (D : va_G) (cI : Nat → ClassId) (aM aMtext aMnow aMtrial aMdiary aMkept aMisKept aMside aMwas : Nat) (sz : Nat) (mref : Int32) (msize : Int32) (macts : Int32) (mspot : Int32) (mout : Int32) (o : Int32 × Int32 × Int32) (hq : fn_X8_clearText mref msize = some o) : Met l yX8_clearText wsX8_clearText ({ frames := 0, cells := 0, slots := 0, locals := 0 }) (kPc D cI [(aM, .inr (7, [.int mref, .ref aMtext, .int msize, .ref aMnow, .ref aMtrial, .ref aMdiary, .int macts, .ref aMkept, .ref aMisKept, .ref aMside, .ref aMwas, .int mspot, .int mout]))] sz [.ref aM]) (kQi D [(aM, .inr (7, [.int mref, .ref aMtext, .int msize, .ref aMnow, .ref aMtrial, .ref aMdiary, .int macts, .ref aMkept, .ref aMisKept, .ref aMside, .ref aMwas, .int mspot, .int mout]))] [(aM, .inr (7, [.int o.2.1, .ref aMtext, .int o.2.2, .ref aMnow, .ref aMtrial, .ref aMdiary, .int macts, .ref aMkept, .ref aMisKept, .ref aMside, .ref aMwas, .int mspot, .int mout]))] sz o.1) 0 0 (va_A [(aM, .inr (7, [.int mref, .ref aMtext, .int msize, .ref aMnow, .ref aMtrial, .ref aMdiary, .int macts, .ref aMkept, .ref aMisKept, .ref aMside, .ref aMwas, .int mspot, .int mout]))] sz) := by
  refine kM_i (cc := cX8_clearText) (maxL := 2) (by decide +kernel) rfl (Nat.le_of_ble_eq_true rfl) ?_
  intro p e s m args below meth c A Q hF hK hG hD hA hend ls hP hS hl
  obtain ⟨hx, hb, hml, hown, hts⟩ := id hF
  have hl : lv_has ls 2 [(0, .ref aM)] := hl
  refine lv_aload_n hx hb dX8_clearText_0 rfl (lv_at hl 0 rfl) ?_
  refine lv_iconst (v := 0) hx hb dX8_clearText_1 (by decide) ?_
  refine va_put (D := D) (ci := 7) (v := .int (0 : Int32)) (ty := .int) (C := RX8) (T := TX8) (N := 13) hx hb hts iw_X8_clearText_X8 tyX8 tyX8_ok nmX8 hown hK.1 hP hD hS 0 rfl rfl 0 (by decide) (hts (.fieldLink RX8 39 "PinDeckModel" "refusal" "I") (by decide +kernel)) (fun _ h9 => h9) rfl (by decide +kernel) rfl rfl (Nat.le_of_ble_eq_true rfl) dX8_clearText_2 (fun H locs hP hD hS => ?_)
  have hP : va_P D vwCl [(aM, .inr (7, [.int (0 : Int32), .ref aMtext, .int msize, .ref aMnow, .ref aMtrial, .ref aMdiary, .int macts, .ref aMkept, .ref aMisKept, .ref aMside, .ref aMwas, .int mspot, .int mout]))] H := hP
  have hD : va_D A [(aM, .inr (7, [.int (0 : Int32), .ref aMtext, .int msize, .ref aMnow, .ref aMtrial, .ref aMdiary, .int macts, .ref aMkept, .ref aMisKept, .ref aMside, .ref aMwas, .int mspot, .int mout]))] := hD
  refine lv_aload_n hx hb dX8_clearText_5 rfl (lv_at hl 0 rfl) ?_
  refine va_get (D := D) (ci := 7) (v := .int msize) (C := RX8) (T := TX8) (N := 13) hx hb hts iw_X8_clearText_X8 hown hK.1 hP 0 rfl rfl 2 (by decide) (hts (.fieldLink RX8 132 "PinDeckModel" "size" "I") (by decide +kernel)) (fun _ h9 => h9) rfl dX8_clearText_6 ?_
  refine lv_istore_n (lv' := [(1, .int msize), (0, .ref aM)]) hx hb dX8_clearText_9 rfl hl (by decide) rfl (fun ls hl => ?_)
  refine lv_aload_n hx hb dX8_clearText_10 rfl (lv_at hl 1 rfl) ?_
  refine lv_iconst (v := 0) hx hb dX8_clearText_11 (by decide) ?_
  refine va_put (D := D) (ci := 7) (v := .int (0 : Int32)) (ty := .int) (C := RX8) (T := TX8) (N := 13) hx hb hts iw_X8_clearText_X8 tyX8 tyX8_ok nmX8 hown hK.1 hP hD hS 0 rfl rfl 2 (by decide) (hts (.fieldLink RX8 132 "PinDeckModel" "size" "I") (by decide +kernel)) (fun _ h9 => h9) rfl (by decide +kernel) rfl rfl (Nat.le_of_ble_eq_true rfl) dX8_clearText_12 (fun H locs hP hD hS => ?_)
  have hP : va_P D vwCl [(aM, .inr (7, [.int (0 : Int32), .ref aMtext, .int (0 : Int32), .ref aMnow, .ref aMtrial, .ref aMdiary, .int macts, .ref aMkept, .ref aMisKept, .ref aMside, .ref aMwas, .int mspot, .int mout]))] H := hP
  have hD : va_D A [(aM, .inr (7, [.int (0 : Int32), .ref aMtext, .int (0 : Int32), .ref aMnow, .ref aMtrial, .ref aMdiary, .int macts, .ref aMkept, .ref aMisKept, .ref aMside, .ref aMwas, .int mspot, .int mout]))] := hD
  refine lv_iload_n hx hb dX8_clearText_15 rfl (lv_at hl 0 rfl) ?_
  have ho := Option.some.inj hq
  subst ho
  exact hend _ _ _ _ hP hS dX8_clearText_16

theorem iw_X8_at_X8 : ∀ w ∈ wsX80, w ∈ wsX8_at := by decide +kernel
set_option maxHeartbeats 4000000 in
set_option maxRecDepth 100000 in
theorem mk_X8_at (l : Launch) (D : va_G) (cI : Nat → ClassId) (aM aMtext aMnow aMtrial aMdiary aMkept aMisKept aMside aMwas : Nat) (sz : Nat) (mref : Int32) (msize : Int32) (macts : Int32) (mspot : Int32) (mout : Int32) (mtext : kF) (x1 : Int32) (o : Int32) (hq : fn_X8_at msize mtext x1 = some o) : Met l yX8_at wsX8_at ({ frames := 0, cells := 0, slots := 0, locals := 0 }) (kPc D cI [(aM, .inr (7, [.int mref, .ref aMtext, .int msize, .ref aMnow, .ref aMtrial, .ref aMdiary, .int macts, .ref aMkept, .ref aMisKept, .ref aMside, .ref aMwas, .int mspot, .int mout])), (aMtext, .inl (cI 0, 120, .inl mtext))] sz [.ref aM, .int x1]) (kQi D [(aM, .inr (7, [.int mref, .ref aMtext, .int msize, .ref aMnow, .ref aMtrial, .ref aMdiary, .int macts, .ref aMkept, .ref aMisKept, .ref aMside, .ref aMwas, .int mspot, .int mout])), (aMtext, .inl (cI 0, 120, .inl mtext))] [(aM, .inr (7, [.int mref, .ref aMtext, .int msize, .ref aMnow, .ref aMtrial, .ref aMdiary, .int macts, .ref aMkept, .ref aMisKept, .ref aMside, .ref aMwas, .int mspot, .int mout])), (aMtext, .inl (cI 0, 120, .inl mtext))] sz o) 0 0 (va_A [(aM, .inr (7, [.int mref, .ref aMtext, .int msize, .ref aMnow, .ref aMtrial, .ref aMdiary, .int macts, .ref aMkept, .ref aMisKept, .ref aMside, .ref aMwas, .int mspot, .int mout])), (aMtext, .inl (cI 0, 120, .inl mtext))] sz) := by
  refine kM_i (cc := cX8_at) (maxL := 2) (by decide +kernel) rfl (Nat.le_of_ble_eq_true rfl) ?_
  intro p e s m args below meth c A Q hF hK hG hD hA hend ls hP hS hl
  obtain ⟨hx, hb, hml, hown, hts⟩ := id hF
  have hl : lv_has ls 2 [(0, .ref aM), (1, .int x1)] := hl
  have b_18 : ∀ (H : Heap) (locs : List Loc) (ls : Array Slot) (k0 : Int32), fn_X8_at_18 msize mtext k0 = some o → va_P D vwCl [(aM, .inr (7, [.int mref, .ref aMtext, .int msize, .ref aMnow, .ref aMtrial, .ref aMdiary, .int macts, .ref aMkept, .ref aMisKept, .ref aMside, .ref aMwas, .int mspot, .int mout])), (aMtext, .inl (cI 0, 120, .inl mtext))] H → va_S A s.heap H locs → lv_has ls 2 [] → W p l e { frames := 0, cells := 0, slots := 0, locals := 0 } s m args below meth c H locs 0 0 Q (F0 m 18 ls [.int k0]) := by
    intro H locs ls k0
    intro hq hP hS hl
    have ho := Option.some.inj hq
    subst ho
    exact hend _ _ _ _ hP hS dX8_at_18
  refine lv_iload_n hx hb dX8_at_0 rfl (lv_at hl 1 rfl) ?_
  refine lv_aload_n hx hb dX8_at_1 rfl (lv_at hl 0 rfl) ?_
  refine va_get (D := D) (ci := 7) (v := .int msize) (C := RX8) (T := TX8) (N := 13) hx hb hts iw_X8_at_X8 hown hK.1 hP 0 rfl rfl 2 (by decide) (hts (.fieldLink RX8 132 "PinDeckModel" "size" "I") (by decide +kernel)) (fun _ h9 => h9) rfl dX8_at_2 ?_
  refine lv_icmp_ge (tgt := 17) hx hb dX8_at_5 (by decide) (fun c9 => ?_) (fun c9 => ?_)
  · have hq := kite_t c9 hq
    refine lv_iconst (v := (-1)) hx hb dX8_at_17 (by decide) ?_
    exact b_18  _ _ _ (-1 : Int32) hq hP hS (lv_sub hl [] rfl)
  · have hq := kite_f c9 hq
    refine lv_aload_n hx hb dX8_at_8 rfl (lv_at hl 0 rfl) ?_
    refine va_get (D := D) (ci := 7) (v := .ref aMtext) (C := RX8) (T := TX8) (N := 13) hx hb hts iw_X8_at_X8 hown hK.1 hP 0 rfl rfl 1 (by decide) (hts (.fieldLink RX8 7 "PinDeckModel" "text" "[I") (by decide +kernel)) (fun _ h9 => h9) rfl dX8_at_9 ?_
    refine lv_iload_n hx hb dX8_at_12 rfl (lv_at hl 1 rfl) ?_
    obtain ⟨hz, hq⟩ := kite_n hq
    refine k_iald (j := (x1.toNatClampNeg)) hx hb hK.1 hP 1 0 rfl rfl hz rfl dX8_at_13 ?_
    refine lv_goto (tgt := 18) hx hb dX8_at_14 (by decide) ?_
    exact b_18  _ _ _ (mtext (x1.toNatClampNeg)) hq hP hS (lv_sub hl [] rfl)

theorem iw_X8_figures_X8 : ∀ w ∈ wsX80, w ∈ wsX8_figures := by decide +kernel
set_option maxHeartbeats 4000000 in
set_option maxRecDepth 100000 in
theorem mk_X8_figures (l : Launch) (D : va_G) (cI : Nat → ClassId) (aM aMtext aMnow aMtrial aMdiary aMkept aMisKept aMside aMwas : Nat) (sz : Nat) (mref : Int32) (msize : Int32) (macts : Int32) (mspot : Int32) (mout : Int32) (mtext : kF) (x1 : Int32) (x2 : Int32) (o : Int32 × Int32) (hq : fn_X8_figures msize mspot mtext x1 x2 = some o) : Met l yX8_figures wsX8_figures ({ frames := 1, cells := 0, slots := 0, locals := 25 }) (kPc D cI [(aM, .inr (7, [.int mref, .ref aMtext, .int msize, .ref aMnow, .ref aMtrial, .ref aMdiary, .int macts, .ref aMkept, .ref aMisKept, .ref aMside, .ref aMwas, .int mspot, .int mout])), (aMtext, .inl (cI 0, 120, .inl mtext))] sz [.ref aM, .int x1, .int x2]) (kQi D [(aM, .inr (7, [.int mref, .ref aMtext, .int msize, .ref aMnow, .ref aMtrial, .ref aMdiary, .int macts, .ref aMkept, .ref aMisKept, .ref aMside, .ref aMwas, .int mspot, .int mout])), (aMtext, .inl (cI 0, 120, .inl mtext))] [(aM, .inr (7, [.int mref, .ref aMtext, .int msize, .ref aMnow, .ref aMtrial, .ref aMdiary, .int macts, .ref aMkept, .ref aMisKept, .ref aMside, .ref aMwas, .int o.2, .int mout])), (aMtext, .inl (cI 0, 120, .inl mtext))] sz o.1) 0 0 (va_A [(aM, .inr (7, [.int mref, .ref aMtext, .int msize, .ref aMnow, .ref aMtrial, .ref aMdiary, .int macts, .ref aMkept, .ref aMisKept, .ref aMside, .ref aMwas, .int mspot, .int mout])), (aMtext, .inl (cI 0, 120, .inl mtext))] sz) := by
  refine kM_i (cc := cX8_figures) (maxL := 7) (by decide +kernel) rfl (Nat.le_of_ble_eq_true rfl) ?_
  intro p e s m args below meth c A Q hF hK hG hD hA hend ls hP hS hl
  obtain ⟨hx, hb, hml, hown, hts⟩ := id hF
  have hl : lv_has ls 7 [(0, .ref aM), (1, .int x1), (2, .int x2)] := hl
  have b_63 : ∀ (H : Heap) (locs : List Loc) (ls : Array Slot) (mspot : Int32), fn_X8_figures_63 msize mspot mtext = some o → va_P D vwCl [(aM, .inr (7, [.int mref, .ref aMtext, .int msize, .ref aMnow, .ref aMtrial, .ref aMdiary, .int macts, .ref aMkept, .ref aMisKept, .ref aMside, .ref aMwas, .int mspot, .int mout])), (aMtext, .inl (cI 0, 120, .inl mtext))] H → va_D A [(aM, .inr (7, [.int mref, .ref aMtext, .int msize, .ref aMnow, .ref aMtrial, .ref aMdiary, .int macts, .ref aMkept, .ref aMisKept, .ref aMside, .ref aMwas, .int mspot, .int mout])), (aMtext, .inl (cI 0, 120, .inl mtext))] → va_S A s.heap H locs → lv_has ls 7 [] → W p l e { frames := 1, cells := 0, slots := 0, locals := 25 } s m args below meth c H locs 0 0 Q (F0 m 63 ls []) := by
    intro H locs ls mspot
    intro hq hP hD hS hl
    refine lv_iconst (v := (-1)) hx hb dX8_figures_63 (by decide) ?_
    have ho := Option.some.inj hq
    subst ho
    exact hend _ _ _ _ hP hS dX8_figures_64
  have b_6 : ∀ (q : Nat), ∀ (H : Heap) (locs : List Loc) (ls : Array Slot) (mspot : Int32) (x1 : Int32) (x2 : Int32) (x3 : Int32) (x4 : Int32), fn_X8_figures_6 q msize mspot mtext x1 x2 x3 x4 = some o → va_P D vwCl [(aM, .inr (7, [.int mref, .ref aMtext, .int msize, .ref aMnow, .ref aMtrial, .ref aMdiary, .int macts, .ref aMkept, .ref aMisKept, .ref aMside, .ref aMwas, .int mspot, .int mout])), (aMtext, .inl (cI 0, 120, .inl mtext))] H → va_D A [(aM, .inr (7, [.int mref, .ref aMtext, .int msize, .ref aMnow, .ref aMtrial, .ref aMdiary, .int macts, .ref aMkept, .ref aMisKept, .ref aMside, .ref aMwas, .int mspot, .int mout])), (aMtext, .inl (cI 0, 120, .inl mtext))] → va_S A s.heap H locs → lv_has ls 7 [(0, .ref aM), (1, .int x1), (2, .int x2), (3, .int x3), (4, .int x4)] → W p l e { frames := 1, cells := 0, slots := 0, locals := 25 } s m args below meth c H locs 0 0 Q (F0 m 6 ls []) := by
    intro q
    induction q with
    | zero =>
      intro H locs ls mspot x1 x2 x3 x4
      intro hq
      cases hq
    | succ q ih =>
      intro H locs ls mspot x1 x2 x3 x4
      intro hq hP hD hS hl
      refine lv_iload hx hb dX8_figures_6 (lv_at hl 4 rfl) ?_
      refine lv_if_le (tgt := 88) hx hb dX8_figures_8 (by decide) (fun c9 => ?_) (fun c9 => ?_)
      · have hq := kite_t c9 hq
        refine lv_iload_n hx hb dX8_figures_88 rfl (lv_at hl 3 rfl) ?_
        have ho := Option.some.inj hq
        subst ho
        exact hend _ _ _ _ hP hS dX8_figures_89
      · have hq := kite_f c9 hq
        refine lv_aload_n hx hb dX8_figures_11 rfl (lv_at hl 0 rfl) ?_
        refine lv_aload_n hx hb dX8_figures_12 rfl (lv_at hl 0 rfl) ?_
        refine va_get (D := D) (ci := 7) (v := .int mspot) (C := RX8) (T := TX8) (N := 13) hx hb hts iw_X8_figures_X8 hown hK.1 hP 0 rfl rfl 11 (by decide) (hts (.fieldLink RX8 139 "PinDeckModel" "spot" "I") (by decide +kernel)) (fun _ h9 => h9) rfl dX8_figures_13 ?_
        obtain ⟨o16, ho16, hq⟩ := kbind hq
        refine kc_Vi (av := [.int mspot]) (rest := []) hF hK hG hA (mk_X8_at l D cI aM aMtext aMnow aMtrial aMdiary aMkept aMisKept aMside aMwas H.size mref msize macts mspot mout mtext mspot o16 ho16) (cwV 1 hts gX8_figures_X8_at rfl rfl rfl (by decide +kernel) ⟨Nat.le_of_ble_eq_true rfl, Nat.le_of_ble_eq_true rfl⟩) hP hD hS [0, 1] (by decide) rfl rfl 0 rfl rfl rfl hl.1 rfl (Nat.le_of_ble_eq_true rfl) ⟨Nat.zero_le _, Nat.zero_le _⟩ dX8_figures_16 (fun H locs hP hD hS => ?_)
        have hP : va_P D vwCl [(aM, .inr (7, [.int mref, .ref aMtext, .int msize, .ref aMnow, .ref aMtrial, .ref aMdiary, .int macts, .ref aMkept, .ref aMisKept, .ref aMside, .ref aMwas, .int mspot, .int mout])), (aMtext, .inl (cI 0, 120, .inl mtext))] H := hP
        have hD : va_D A [(aM, .inr (7, [.int mref, .ref aMtext, .int msize, .ref aMnow, .ref aMtrial, .ref aMdiary, .int macts, .ref aMkept, .ref aMisKept, .ref aMside, .ref aMwas, .int mspot, .int mout])), (aMtext, .inl (cI 0, 120, .inl mtext))] := hD
        refine lv_bipush (v := 48) hx hb dX8_figures_19 (by decide) ?_
        refine lv_isub hx hb dX8_figures_21 ?_
        refine lv_istore (lv' := [(5, .int (o16 - (48 : Int32))), (0, .ref aM), (1, .int x1), (2, .int x2), (3, .int x3), (4, .int x4)]) hx hb dX8_figures_22 hl (by decide) rfl (fun ls hl => ?_)
        refine lv_iload_n hx hb dX8_figures_24 rfl (lv_at hl 4 rfl) ?_
        refine lv_iload hx hb dX8_figures_25 (lv_at hl 0 rfl) ?_
        refine lv_iload hx hb dX8_figures_27 (lv_at hl 5 rfl) ?_
        refine lv_imul hx hb dX8_figures_29 ?_
        refine lv_iadd hx hb dX8_figures_30 ?_
        refine lv_istore (lv' := [(6, .int (x3 + ((o16 - (48 : Int32)) * x4))), (5, .int (o16 - (48 : Int32))), (0, .ref aM), (1, .int x1), (2, .int x2), (3, .int x3), (4, .int x4)]) hx hb dX8_figures_31 hl (by decide) rfl (fun ls hl => ?_)
        refine lv_iload hx hb dX8_figures_33 (lv_at hl 1 rfl) ?_
        refine lv_i2l (v := ((o16 - (48 : Int32))).toInt64) hx hb dX8_figures_35 rfl ?_
        refine lv_lconst (v := 0) hx hb dX8_figures_36 (by decide) ?_
        refine lv_ldc2 (v := 9) hx hb hown (hts (.constantLong RX8 46 (9 : Int64)) (by decide +kernel)) dX8_figures_37 ?_
        obtain ⟨o40, ho40, hq⟩ := kbind hq
        refine kc_Si (av := [.long (((o16 - (48 : Int32))).toInt64), .long (0 : Int64), .long (9 : Int64)]) (rest := []) hF hK hG hA (mk_X8_in l D cI H.size (((o16 - (48 : Int32))).toInt64) (0 : Int64) (9 : Int64) o40 ho40) (va_cwS 3 hts gX8_figures_X8_in rfl rfl rfl (by decide +kernel) ⟨Nat.le_of_ble_eq_true rfl, Nat.le_of_ble_eq_true rfl⟩) hP hD hS [] (by decide) rfl rfl rfl hl.1 rfl (Nat.le_of_ble_eq_true rfl) ⟨Nat.zero_le _, Nat.zero_le _⟩ dX8_figures_40 (fun H locs hP hD hS => ?_)
        have hP : va_P D vwCl [(aM, .inr (7, [.int mref, .ref aMtext, .int msize, .ref aMnow, .ref aMtrial, .ref aMdiary, .int macts, .ref aMkept, .ref aMisKept, .ref aMside, .ref aMwas, .int mspot, .int mout])), (aMtext, .inl (cI 0, 120, .inl mtext))] H := hP
        have hD : va_D A [(aM, .inr (7, [.int mref, .ref aMtext, .int msize, .ref aMnow, .ref aMtrial, .ref aMdiary, .int macts, .ref aMkept, .ref aMisKept, .ref aMside, .ref aMwas, .int mspot, .int mout])), (aMtext, .inl (cI 0, 120, .inl mtext))] := hD
        refine lv_if_eq (tgt := 63) hx hb dX8_figures_43 (by decide) (fun c9 => ?_) (fun c9 => ?_)
        · have hq := kite_t c9 hq
          exact b_63  _ _ _ mspot hq hP hD hS (lv_sub hl [] rfl)
        · have hq := kite_f c9 hq
          refine lv_iload hx hb dX8_figures_46 (lv_at hl 0 rfl) ?_
          refine lv_iload_n hx hb dX8_figures_48 rfl (lv_at hl 4 rfl) ?_
          refine lv_icmp_gt (tgt := 63) hx hb dX8_figures_49 (by decide) (fun c9 => ?_) (fun c9 => ?_)
          · have hq := kite_t c9 hq
            exact b_63  _ _ _ mspot hq hP hD hS (lv_sub hl [] rfl)
          · have hq := kite_f c9 hq
            refine lv_iload hx hb dX8_figures_52 (lv_at hl 0 rfl) ?_
            refine lv_iload hx hb dX8_figures_54 (lv_at hl 6 rfl) ?_
            refine lv_iadd hx hb dX8_figures_56 ?_
            refine lv_iconst (v := 1) hx hb dX8_figures_57 (by decide) ?_
            refine lv_isub hx hb dX8_figures_58 ?_
            refine lv_iload_n hx hb dX8_figures_59 rfl (lv_at hl 3 rfl) ?_
            refine lv_icmp_ge (tgt := 65) hx hb dX8_figures_60 (by decide) (fun c9 => ?_) (fun c9 => ?_)
            · have hq := kite_t c9 hq
              refine lv_iload hx hb dX8_figures_65 (lv_at hl 0 rfl) ?_
              refine lv_istore_n (lv' := [(3, .int (x3 + ((o16 - (48 : Int32)) * x4))), (6, .int (x3 + ((o16 - (48 : Int32)) * x4))), (5, .int (o16 - (48 : Int32))), (0, .ref aM), (1, .int x1), (2, .int x2), (4, .int x4)]) hx hb dX8_figures_67 rfl hl (by decide) rfl (fun ls hl => ?_)
              refine lv_aload_n hx hb dX8_figures_68 rfl (lv_at hl 3 rfl) ?_
              refine lv_dup hx hb dX8_figures_69 rfl ?_
              refine va_get (D := D) (ci := 7) (v := .int mspot) (C := RX8) (T := TX8) (N := 13) hx hb hts iw_X8_figures_X8 hown hK.1 hP 0 rfl rfl 11 (by decide) (hts (.fieldLink RX8 139 "PinDeckModel" "spot" "I") (by decide +kernel)) (fun _ h9 => h9) rfl dX8_figures_70 ?_
              refine lv_iconst (v := 1) hx hb dX8_figures_73 (by decide) ?_
              refine lv_iadd hx hb dX8_figures_74 ?_
              refine va_put (D := D) (ci := 7) (v := .int (mspot + (1 : Int32))) (ty := .int) (C := RX8) (T := TX8) (N := 13) hx hb hts iw_X8_figures_X8 tyX8 tyX8_ok nmX8 hown hK.1 hP hD hS 0 rfl rfl 11 (by decide) (hts (.fieldLink RX8 139 "PinDeckModel" "spot" "I") (by decide +kernel)) (fun _ h9 => h9) rfl (by decide +kernel) rfl rfl (Nat.le_of_ble_eq_true rfl) dX8_figures_75 (fun H locs hP hD hS => ?_)
              have hP : va_P D vwCl [(aM, .inr (7, [.int mref, .ref aMtext, .int msize, .ref aMnow, .ref aMtrial, .ref aMdiary, .int macts, .ref aMkept, .ref aMisKept, .ref aMside, .ref aMwas, .int (mspot + (1 : Int32)), .int mout])), (aMtext, .inl (cI 0, 120, .inl mtext))] H := hP
              have hD : va_D A [(aM, .inr (7, [.int mref, .ref aMtext, .int msize, .ref aMnow, .ref aMtrial, .ref aMdiary, .int macts, .ref aMkept, .ref aMisKept, .ref aMside, .ref aMwas, .int (mspot + (1 : Int32)), .int mout])), (aMtext, .inl (cI 0, 120, .inl mtext))] := hD
              refine lv_iload hx hb dX8_figures_78 (lv_at hl 6 rfl) ?_
              refine lv_bipush (v := 10) hx hb dX8_figures_80 (by decide) ?_
              refine lv_idiv hx hb dX8_figures_82 (by decide) ?_
              refine lv_istore (lv' := [(4, .int (x4 / (10 : Int32))), (3, .int (x3 + ((o16 - (48 : Int32)) * x4))), (6, .int (x3 + ((o16 - (48 : Int32)) * x4))), (5, .int (o16 - (48 : Int32))), (0, .ref aM), (1, .int x1), (2, .int x2)]) hx hb dX8_figures_83 hl (by decide) rfl (fun ls hl => ?_)
              refine lv_goto (tgt := 6) hx hb dX8_figures_85 (by decide) ?_
              exact ih _ _ _ (mspot + (1 : Int32)) x1 x2 (x3 + ((o16 - (48 : Int32)) * x4)) (x4 / (10 : Int32)) hq hP hD hS (lv_sub hl [4, 5, 6, 1, 0] rfl)
            · have hq := kite_f c9 hq
              exact b_63  _ _ _ mspot hq hP hD hS (lv_sub hl [] rfl)
  refine lv_iconst (v := 0) hx hb dX8_figures_0 (by decide) ?_
  refine lv_istore_n (lv' := [(3, .int (0 : Int32)), (0, .ref aM), (1, .int x1), (2, .int x2)]) hx hb dX8_figures_1 rfl hl (by decide) rfl (fun ls hl => ?_)
  refine lv_bipush (v := 10) hx hb dX8_figures_2 (by decide) ?_
  refine lv_istore (lv' := [(4, .int (10 : Int32)), (3, .int (0 : Int32)), (0, .ref aM), (1, .int x1), (2, .int x2)]) hx hb dX8_figures_4 hl (by decide) rfl (fun ls hl => ?_)
  exact b_6 4096 _ _ _ mspot x1 x2 (0 : Int32) (10 : Int32) hq hP hD hS (lv_sub hl [2, 3, 4, 1, 0] rfl)

theorem iw_X8_readRoll_X8 : ∀ w ∈ wsX80, w ∈ wsX8_readRoll := by decide +kernel
set_option maxHeartbeats 4000000 in
set_option maxRecDepth 100000 in
theorem mk_X8_readRoll (l : Launch) (D : va_G) (cI : Nat → ClassId) (aM aMtext aMnow aMtrial aMdiary aMkept aMisKept aMside aMwas aR : Nat) (sz : Nat) (mref : Int32) (msize : Int32) (macts : Int32) (mspot : Int32) (mout : Int32) (mtext : kF) (mside : kF) (mwas : kF) (r : kF) (o : Int32 × Int32 × Int32 × kF × kF × kF) (hq : fn_X8_readRoll msize mspot mout mtext mside mwas r = some o) : Met l yX8_readRoll wsX8_readRoll ({ frames := 6, cells := 0, slots := 0, locals := 146 }) (kPc D cI [(aM, .inr (7, [.int mref, .ref aMtext, .int msize, .ref aMnow, .ref aMtrial, .ref aMdiary, .int macts, .ref aMkept, .ref aMisKept, .ref aMside, .ref aMwas, .int mspot, .int mout])), (aMtext, .inl (cI 0, 120, .inl mtext)), (aMside, .inl (cI 0, 10, .inl mside)), (aMwas, .inl (cI 0, 30, .inl mwas)), (aR, .inl (cI 0, 79, .inl r))] sz [.ref aM, .ref aR]) (kQi D [(aM, .inr (7, [.int mref, .ref aMtext, .int msize, .ref aMnow, .ref aMtrial, .ref aMdiary, .int macts, .ref aMkept, .ref aMisKept, .ref aMside, .ref aMwas, .int mspot, .int mout])), (aMtext, .inl (cI 0, 120, .inl mtext)), (aMside, .inl (cI 0, 10, .inl mside)), (aMwas, .inl (cI 0, 30, .inl mwas)), (aR, .inl (cI 0, 79, .inl r))] [(aM, .inr (7, [.int mref, .ref aMtext, .int msize, .ref aMnow, .ref aMtrial, .ref aMdiary, .int macts, .ref aMkept, .ref aMisKept, .ref aMside, .ref aMwas, .int o.2.1, .int o.2.2.1])), (aMtext, .inl (cI 0, 120, .inl mtext)), (aMside, .inl (cI 0, 10, .inl o.2.2.2.1)), (aMwas, .inl (cI 0, 30, .inl o.2.2.2.2.1)), (aR, .inl (cI 0, 79, .inl o.2.2.2.2.2))] sz o.1) 0 0 (va_A [(aM, .inr (7, [.int mref, .ref aMtext, .int msize, .ref aMnow, .ref aMtrial, .ref aMdiary, .int macts, .ref aMkept, .ref aMisKept, .ref aMside, .ref aMwas, .int mspot, .int mout])), (aMtext, .inl (cI 0, 120, .inl mtext)), (aMside, .inl (cI 0, 10, .inl mside)), (aMwas, .inl (cI 0, 30, .inl mwas)), (aR, .inl (cI 0, 79, .inl r))] sz) := by
  refine kM_z (cc := cX8_readRoll) (maxL := 7) (by decide +kernel) rfl (Nat.le_of_ble_eq_true rfl) ?_
  intro p e s m args below meth c A Q hF hK hG hD hA hend ls hP hS hl
  obtain ⟨hx, hb, hml, hown, hts⟩ := id hF
  have hl : lv_has ls 7 [(0, .ref aM), (1, .ref aR)] := hl
  have b_187 : ∀ (H : Heap) (locs : List Loc) (ls : Array Slot) (mspot : Int32) (mout : Int32) (mside : kF) (mwas : kF) (r : kF), fn_X8_readRoll_187 msize mspot mout mtext mside mwas r = some o → va_P D vwCl [(aM, .inr (7, [.int mref, .ref aMtext, .int msize, .ref aMnow, .ref aMtrial, .ref aMdiary, .int macts, .ref aMkept, .ref aMisKept, .ref aMside, .ref aMwas, .int mspot, .int mout])), (aMtext, .inl (cI 0, 120, .inl mtext)), (aMside, .inl (cI 0, 10, .inl mside)), (aMwas, .inl (cI 0, 30, .inl mwas)), (aR, .inl (cI 0, 79, .inl r))] H → va_D A [(aM, .inr (7, [.int mref, .ref aMtext, .int msize, .ref aMnow, .ref aMtrial, .ref aMdiary, .int macts, .ref aMkept, .ref aMisKept, .ref aMside, .ref aMwas, .int mspot, .int mout])), (aMtext, .inl (cI 0, 120, .inl mtext)), (aMside, .inl (cI 0, 10, .inl mside)), (aMwas, .inl (cI 0, 30, .inl mwas)), (aR, .inl (cI 0, 79, .inl r))] → va_S A s.heap H locs → lv_has ls 7 [] → W p l e { frames := 6, cells := 0, slots := 0, locals := 146 } s m args below meth c H locs 0 0 Q (F0 m 187 ls []) := by
    intro H locs ls mspot mout mside mwas r
    intro hq hP hD hS hl
    refine lv_iconst (v := 1) hx hb dX8_readRoll_187 (by decide) ?_
    have ho := Option.some.inj hq
    subst ho
    exact hend _ _ _ _ (Or.inr rfl) hP hS dX8_readRoll_188
  have b_150 : ∀ (H : Heap) (locs : List Loc) (ls : Array Slot) (mspot : Int32) (mout : Int32) (mside : kF) (mwas : kF) (r : kF) (x2 : Int32) (x4 : Int32) (x5 : Int32) (x6 : Int32) (k1 : Int32) (k2 : Int32), fn_X8_readRoll_150 msize mspot mout mtext mside mwas r x2 x4 x5 x6 k1 k2 = some o → va_P D vwCl [(aM, .inr (7, [.int mref, .ref aMtext, .int msize, .ref aMnow, .ref aMtrial, .ref aMdiary, .int macts, .ref aMkept, .ref aMisKept, .ref aMside, .ref aMwas, .int mspot, .int mout])), (aMtext, .inl (cI 0, 120, .inl mtext)), (aMside, .inl (cI 0, 10, .inl mside)), (aMwas, .inl (cI 0, 30, .inl mwas)), (aR, .inl (cI 0, 79, .inl r))] H → va_D A [(aM, .inr (7, [.int mref, .ref aMtext, .int msize, .ref aMnow, .ref aMtrial, .ref aMdiary, .int macts, .ref aMkept, .ref aMisKept, .ref aMside, .ref aMwas, .int mspot, .int mout])), (aMtext, .inl (cI 0, 120, .inl mtext)), (aMside, .inl (cI 0, 10, .inl mside)), (aMwas, .inl (cI 0, 30, .inl mwas)), (aR, .inl (cI 0, 79, .inl r))] → va_S A s.heap H locs → lv_has ls 7 [(0, .ref aM), (1, .ref aR), (2, .int x2), (4, .int x4), (5, .int x5), (6, .int x6)] → W p l e { frames := 6, cells := 0, slots := 0, locals := 146 } s m args below meth c H locs 0 0 Q (F0 m 150 ls [.int k2, .int k1, .ref aM]) := by
    intro H locs ls mspot mout mside mwas r x2 x4 x5 x6 k1 k2
    intro hq hP hD hS hl
    refine lv_iadd hx hb dX8_readRoll_150 ?_
    refine va_put (D := D) (ci := 7) (v := .int (k1 + k2)) (ty := .int) (C := RX8) (T := TX8) (N := 13) hx hb hts iw_X8_readRoll_X8 tyX8 tyX8_ok nmX8 hown hK.1 hP hD hS 0 rfl rfl 11 (by decide) (hts (.fieldLink RX8 139 "PinDeckModel" "spot" "I") (by decide +kernel)) (fun _ h9 => h9) rfl (by decide +kernel) rfl rfl (Nat.le_of_ble_eq_true rfl) dX8_readRoll_151 (fun H locs hP hD hS => ?_)
    have hP : va_P D vwCl [(aM, .inr (7, [.int mref, .ref aMtext, .int msize, .ref aMnow, .ref aMtrial, .ref aMdiary, .int macts, .ref aMkept, .ref aMisKept, .ref aMside, .ref aMwas, .int (k1 + k2), .int mout])), (aMtext, .inl (cI 0, 120, .inl mtext)), (aMside, .inl (cI 0, 10, .inl mside)), (aMwas, .inl (cI 0, 30, .inl mwas)), (aR, .inl (cI 0, 79, .inl r))] H := hP
    have hD : va_D A [(aM, .inr (7, [.int mref, .ref aMtext, .int msize, .ref aMnow, .ref aMtrial, .ref aMdiary, .int macts, .ref aMkept, .ref aMisKept, .ref aMside, .ref aMwas, .int (k1 + k2), .int mout])), (aMtext, .inl (cI 0, 120, .inl mtext)), (aMside, .inl (cI 0, 10, .inl mside)), (aMwas, .inl (cI 0, 30, .inl mwas)), (aR, .inl (cI 0, 79, .inl r))] := hD
    refine lv_aload_n hx hb dX8_readRoll_154 rfl (lv_at hl 1 rfl) ?_
    obtain ⟨o155, ho155, hq⟩ := kbind hq
    refine kc_Si (av := [.ref aR]) (rest := []) hF hK hG hA (mk_X8_isOver l D cI aR H.size r o155 ho155) (va_cwS 1 hts gX8_readRoll_X8_isOver rfl rfl rfl (by decide +kernel) ⟨Nat.le_of_ble_eq_true rfl, Nat.le_of_ble_eq_true rfl⟩) hP hD hS [4] (by decide) rfl rfl rfl hl.1 rfl (Nat.le_of_ble_eq_true rfl) ⟨Nat.zero_le _, Nat.zero_le _⟩ dX8_readRoll_155 (fun H locs hP hD hS => ?_)
    have hP : va_P D vwCl [(aM, .inr (7, [.int mref, .ref aMtext, .int msize, .ref aMnow, .ref aMtrial, .ref aMdiary, .int macts, .ref aMkept, .ref aMisKept, .ref aMside, .ref aMwas, .int (k1 + k2), .int mout])), (aMtext, .inl (cI 0, 120, .inl mtext)), (aMside, .inl (cI 0, 10, .inl mside)), (aMwas, .inl (cI 0, 30, .inl mwas)), (aR, .inl (cI 0, 79, .inl r))] H := hP
    have hD : va_D A [(aM, .inr (7, [.int mref, .ref aMtext, .int msize, .ref aMnow, .ref aMtrial, .ref aMdiary, .int macts, .ref aMkept, .ref aMisKept, .ref aMside, .ref aMwas, .int (k1 + k2), .int mout])), (aMtext, .inl (cI 0, 120, .inl mtext)), (aMside, .inl (cI 0, 10, .inl mside)), (aMwas, .inl (cI 0, 30, .inl mwas)), (aR, .inl (cI 0, 79, .inl r))] := hD
    refine lv_if_eq (tgt := 174) hx hb dX8_readRoll_158 (by decide) (fun c9 => ?_) (fun c9 => ?_)
    · have hq := kite_t c9 hq
      refine lv_aload_n hx hb dX8_readRoll_174 rfl (lv_at hl 0 rfl) ?_
      refine lv_aload_n hx hb dX8_readRoll_175 rfl (lv_at hl 1 rfl) ?_
      refine lv_iload_n hx hb dX8_readRoll_176 rfl (lv_at hl 2 rfl) ?_
      refine lv_iload hx hb dX8_readRoll_177 (lv_at hl 3 rfl) ?_
      refine lv_iload hx hb dX8_readRoll_179 (lv_at hl 4 rfl) ?_
      refine lv_iload hx hb dX8_readRoll_181 (lv_at hl 5 rfl) ?_
      obtain ⟨o183, ho183, hq⟩ := kbind hq
      refine kc_Vi (av := [.ref aR, .int x2, .int x4, .int x5, .int x6]) (rest := []) hF hK hG hA (mk_X8_throwOn l D cI aM aMtext aMnow aMtrial aMdiary aMkept aMisKept aMside aMwas aR H.size mref msize macts (k1 + k2) mout mside mwas r x2 x4 x5 x6 o183 ho183) (cwV 5 hts gX8_readRoll_X8_throwOn rfl rfl rfl (by decide +kernel) ⟨Nat.le_of_ble_eq_true rfl, Nat.le_of_ble_eq_true rfl⟩) hP hD hS [0, 2, 3, 4] (by decide) rfl rfl 0 rfl rfl rfl hl.1 rfl (Nat.le_of_ble_eq_true rfl) ⟨Nat.zero_le _, Nat.zero_le _⟩ dX8_readRoll_183 (fun H locs hP hD hS => ?_)
      have hP : va_P D vwCl [(aM, .inr (7, [.int mref, .ref aMtext, .int msize, .ref aMnow, .ref aMtrial, .ref aMdiary, .int macts, .ref aMkept, .ref aMisKept, .ref aMside, .ref aMwas, .int (k1 + k2), .int mout])), (aMtext, .inl (cI 0, 120, .inl mtext)), (aMside, .inl (cI 0, 10, .inl o183.2.1)), (aMwas, .inl (cI 0, 30, .inl o183.2.2.1)), (aR, .inl (cI 0, 79, .inl o183.2.2.2))] H := hP
      have hD : va_D A [(aM, .inr (7, [.int mref, .ref aMtext, .int msize, .ref aMnow, .ref aMtrial, .ref aMdiary, .int macts, .ref aMkept, .ref aMisKept, .ref aMside, .ref aMwas, .int (k1 + k2), .int mout])), (aMtext, .inl (cI 0, 120, .inl mtext)), (aMside, .inl (cI 0, 10, .inl o183.2.1)), (aMwas, .inl (cI 0, 30, .inl o183.2.2.1)), (aR, .inl (cI 0, 79, .inl o183.2.2.2))] := hD
      refine lv_pop hx hb dX8_readRoll_186 rfl ?_
      exact b_187  _ _ _ (k1 + k2) mout o183.2.1 o183.2.2.1 o183.2.2.2 hq hP hD hS (lv_sub hl [] rfl)
    · have hq := kite_f c9 hq
      refine lv_aload_n hx hb dX8_readRoll_161 rfl (lv_at hl 0 rfl) ?_
      refine lv_dup hx hb dX8_readRoll_162 rfl ?_
      refine va_get (D := D) (ci := 7) (v := .int mout) (C := RX8) (T := TX8) (N := 13) hx hb hts iw_X8_readRoll_X8 hown hK.1 hP 0 rfl rfl 12 (by decide) (hts (.fieldLink RX8 153 "PinDeckModel" "out" "I") (by decide +kernel)) (fun _ h9 => h9) rfl dX8_readRoll_163 ?_
      refine lv_iconst (v := 1) hx hb dX8_readRoll_166 (by decide) ?_
      refine lv_iadd hx hb dX8_readRoll_167 ?_
      refine va_put (D := D) (ci := 7) (v := .int (mout + (1 : Int32))) (ty := .int) (C := RX8) (T := TX8) (N := 13) hx hb hts iw_X8_readRoll_X8 tyX8 tyX8_ok nmX8 hown hK.1 hP hD hS 0 rfl rfl 12 (by decide) (hts (.fieldLink RX8 153 "PinDeckModel" "out" "I") (by decide +kernel)) (fun _ h9 => h9) rfl (by decide +kernel) rfl rfl (Nat.le_of_ble_eq_true rfl) dX8_readRoll_168 (fun H locs hP hD hS => ?_)
      have hP : va_P D vwCl [(aM, .inr (7, [.int mref, .ref aMtext, .int msize, .ref aMnow, .ref aMtrial, .ref aMdiary, .int macts, .ref aMkept, .ref aMisKept, .ref aMside, .ref aMwas, .int (k1 + k2), .int (mout + (1 : Int32))])), (aMtext, .inl (cI 0, 120, .inl mtext)), (aMside, .inl (cI 0, 10, .inl mside)), (aMwas, .inl (cI 0, 30, .inl mwas)), (aR, .inl (cI 0, 79, .inl r))] H := hP
      have hD : va_D A [(aM, .inr (7, [.int mref, .ref aMtext, .int msize, .ref aMnow, .ref aMtrial, .ref aMdiary, .int macts, .ref aMkept, .ref aMisKept, .ref aMside, .ref aMwas, .int (k1 + k2), .int (mout + (1 : Int32))])), (aMtext, .inl (cI 0, 120, .inl mtext)), (aMside, .inl (cI 0, 10, .inl mside)), (aMwas, .inl (cI 0, 30, .inl mwas)), (aR, .inl (cI 0, 79, .inl r))] := hD
      refine lv_goto (tgt := 187) hx hb dX8_readRoll_171 (by decide) ?_
      exact b_187  _ _ _ (k1 + k2) (mout + (1 : Int32)) mside mwas r hq hP hD hS (lv_sub hl [] rfl)
  have b_133 : ∀ (H : Heap) (locs : List Loc) (ls : Array Slot) (mspot : Int32) (mout : Int32) (mside : kF) (mwas : kF) (r : kF) (x2 : Int32) (x4 : Int32) (x5 : Int32) (k0 : Int32), fn_X8_readRoll_133 msize mspot mout mtext mside mwas r x2 x4 x5 k0 = some o → va_P D vwCl [(aM, .inr (7, [.int mref, .ref aMtext, .int msize, .ref aMnow, .ref aMtrial, .ref aMdiary, .int macts, .ref aMkept, .ref aMisKept, .ref aMside, .ref aMwas, .int mspot, .int mout])), (aMtext, .inl (cI 0, 120, .inl mtext)), (aMside, .inl (cI 0, 10, .inl mside)), (aMwas, .inl (cI 0, 30, .inl mwas)), (aR, .inl (cI 0, 79, .inl r))] H → va_D A [(aM, .inr (7, [.int mref, .ref aMtext, .int msize, .ref aMnow, .ref aMtrial, .ref aMdiary, .int macts, .ref aMkept, .ref aMisKept, .ref aMside, .ref aMwas, .int mspot, .int mout])), (aMtext, .inl (cI 0, 120, .inl mtext)), (aMside, .inl (cI 0, 10, .inl mside)), (aMwas, .inl (cI 0, 30, .inl mwas)), (aR, .inl (cI 0, 79, .inl r))] → va_S A s.heap H locs → lv_has ls 7 [(0, .ref aM), (1, .ref aR), (2, .int x2), (4, .int x4), (5, .int x5)] → W p l e { frames := 6, cells := 0, slots := 0, locals := 146 } s m args below meth c H locs 0 0 Q (F0 m 133 ls [.int k0]) := by
    intro H locs ls mspot mout mside mwas r x2 x4 x5 k0
    intro hq hP hD hS hl
    refine lv_istore (lv' := [(6, .int k0), (0, .ref aM), (1, .ref aR), (2, .int x2), (4, .int x4), (5, .int x5)]) hx hb dX8_readRoll_133 hl (by decide) rfl (fun ls hl => ?_)
    refine lv_aload_n hx hb dX8_readRoll_135 rfl (lv_at hl 1 rfl) ?_
    refine lv_dup hx hb dX8_readRoll_136 rfl ?_
    refine va_get (D := D) (ci := 7) (v := .int mspot) (C := RX8) (T := TX8) (N := 13) hx hb hts iw_X8_readRoll_X8 hown hK.1 hP 0 rfl rfl 11 (by decide) (hts (.fieldLink RX8 139 "PinDeckModel" "spot" "I") (by decide +kernel)) (fun _ h9 => h9) rfl dX8_readRoll_137 ?_
    refine lv_iload hx hb dX8_readRoll_140 (lv_at hl 0 rfl) ?_
    refine lv_if_eq (tgt := 149) hx hb dX8_readRoll_142 (by decide) (fun c9 => ?_) (fun c9 => ?_)
    · have hq := kite_t c9 hq
      refine lv_iconst (v := 0) hx hb dX8_readRoll_149 (by decide) ?_
      exact b_150  _ _ _ mspot mout mside mwas r x2 x4 x5 k0 mspot (0 : Int32) hq hP hD hS (lv_sub hl [1, 2, 3, 4, 5, 0] rfl)
    · have hq := kite_f c9 hq
      refine lv_iconst (v := 1) hx hb dX8_readRoll_145 (by decide) ?_
      refine lv_goto (tgt := 150) hx hb dX8_readRoll_146 (by decide) ?_
      exact b_150  _ _ _ mspot mout mside mwas r x2 x4 x5 k0 mspot (1 : Int32) hq hP hD hS (lv_sub hl [1, 2, 3, 4, 5, 0] rfl)
  have b_77 : ∀ (H : Heap) (locs : List Loc) (ls : Array Slot) (mspot : Int32) (mout : Int32) (mside : kF) (mwas : kF) (r : kF) (x2 : Int32) (k0 : Int32), fn_X8_readRoll_77 msize mspot mout mtext mside mwas r x2 k0 = some o → va_P D vwCl [(aM, .inr (7, [.int mref, .ref aMtext, .int msize, .ref aMnow, .ref aMtrial, .ref aMdiary, .int macts, .ref aMkept, .ref aMisKept, .ref aMside, .ref aMwas, .int mspot, .int mout])), (aMtext, .inl (cI 0, 120, .inl mtext)), (aMside, .inl (cI 0, 10, .inl mside)), (aMwas, .inl (cI 0, 30, .inl mwas)), (aR, .inl (cI 0, 79, .inl r))] H → va_D A [(aM, .inr (7, [.int mref, .ref aMtext, .int msize, .ref aMnow, .ref aMtrial, .ref aMdiary, .int macts, .ref aMkept, .ref aMisKept, .ref aMside, .ref aMwas, .int mspot, .int mout])), (aMtext, .inl (cI 0, 120, .inl mtext)), (aMside, .inl (cI 0, 10, .inl mside)), (aMwas, .inl (cI 0, 30, .inl mwas)), (aR, .inl (cI 0, 79, .inl r))] → va_S A s.heap H locs → lv_has ls 7 [(0, .ref aM), (1, .ref aR), (2, .int x2)] → W p l e { frames := 6, cells := 0, slots := 0, locals := 146 } s m args below meth c H locs 0 0 Q (F0 m 77 ls [.int k0]) := by
    intro H locs ls mspot mout mside mwas r x2 k0
    intro hq hP hD hS hl
    refine lv_istore (lv' := [(4, .int k0), (0, .ref aM), (1, .ref aR), (2, .int x2)]) hx hb dX8_readRoll_77 hl (by decide) rfl (fun ls hl => ?_)
    refine lv_iload hx hb dX8_readRoll_79 (lv_at hl 0 rfl) ?_
    refine lv_bipush (v := 9) hx hb dX8_readRoll_81 (by decide) ?_
    refine lv_icmp_ne (tgt := 88) hx hb dX8_readRoll_83 (by decide) (fun c9 => ?_) (fun c9 => ?_)
    · have hq := kite_f c9 hq
      refine lv_aload_n hx hb dX8_readRoll_88 rfl (lv_at hl 1 rfl) ?_
      refine lv_dup hx hb dX8_readRoll_89 rfl ?_
      refine va_get (D := D) (ci := 7) (v := .int mspot) (C := RX8) (T := TX8) (N := 13) hx hb hts iw_X8_readRoll_X8 hown hK.1 hP 0 rfl rfl 11 (by decide) (hts (.fieldLink RX8 139 "PinDeckModel" "spot" "I") (by decide +kernel)) (fun _ h9 => h9) rfl dX8_readRoll_90 ?_
      refine lv_iconst (v := 1) hx hb dX8_readRoll_93 (by decide) ?_
      refine lv_iadd hx hb dX8_readRoll_94 ?_
      refine va_put (D := D) (ci := 7) (v := .int (mspot + (1 : Int32))) (ty := .int) (C := RX8) (T := TX8) (N := 13) hx hb hts iw_X8_readRoll_X8 tyX8 tyX8_ok nmX8 hown hK.1 hP hD hS 0 rfl rfl 11 (by decide) (hts (.fieldLink RX8 139 "PinDeckModel" "spot" "I") (by decide +kernel)) (fun _ h9 => h9) rfl (by decide +kernel) rfl rfl (Nat.le_of_ble_eq_true rfl) dX8_readRoll_95 (fun H locs hP hD hS => ?_)
      have hP : va_P D vwCl [(aM, .inr (7, [.int mref, .ref aMtext, .int msize, .ref aMnow, .ref aMtrial, .ref aMdiary, .int macts, .ref aMkept, .ref aMisKept, .ref aMside, .ref aMwas, .int (mspot + (1 : Int32)), .int mout])), (aMtext, .inl (cI 0, 120, .inl mtext)), (aMside, .inl (cI 0, 10, .inl mside)), (aMwas, .inl (cI 0, 30, .inl mwas)), (aR, .inl (cI 0, 79, .inl r))] H := hP
      have hD : va_D A [(aM, .inr (7, [.int mref, .ref aMtext, .int msize, .ref aMnow, .ref aMtrial, .ref aMdiary, .int macts, .ref aMkept, .ref aMisKept, .ref aMside, .ref aMwas, .int (mspot + (1 : Int32)), .int mout])), (aMtext, .inl (cI 0, 120, .inl mtext)), (aMside, .inl (cI 0, 10, .inl mside)), (aMwas, .inl (cI 0, 30, .inl mwas)), (aR, .inl (cI 0, 79, .inl r))] := hD
      refine lv_aload_n hx hb dX8_readRoll_98 rfl (lv_at hl 1 rfl) ?_
      refine lv_iconst (v := 1) hx hb dX8_readRoll_99 (by decide) ?_
      refine lv_bipush (v := 30) hx hb dX8_readRoll_100 (by decide) ?_
      obtain ⟨o102, ho102, hq⟩ := kbind hq
      refine kc_Vi (av := [.int (1 : Int32), .int (30 : Int32)]) (rest := []) hF hK hG hA (mk_X8_figures l D cI aM aMtext aMnow aMtrial aMdiary aMkept aMisKept aMside aMwas H.size mref msize macts (mspot + (1 : Int32)) mout mtext (1 : Int32) (30 : Int32) o102 ho102) (cwV 2 hts gX8_readRoll_X8_figures rfl rfl rfl (by decide +kernel) ⟨Nat.le_of_ble_eq_true rfl, Nat.le_of_ble_eq_true rfl⟩) hP hD hS [0, 1] (by decide) rfl rfl 0 rfl rfl rfl hl.1 rfl (Nat.le_of_ble_eq_true rfl) ⟨Nat.zero_le _, Nat.zero_le _⟩ dX8_readRoll_102 (fun H locs hP hD hS => ?_)
      have hP : va_P D vwCl [(aM, .inr (7, [.int mref, .ref aMtext, .int msize, .ref aMnow, .ref aMtrial, .ref aMdiary, .int macts, .ref aMkept, .ref aMisKept, .ref aMside, .ref aMwas, .int o102.2, .int mout])), (aMtext, .inl (cI 0, 120, .inl mtext)), (aMside, .inl (cI 0, 10, .inl mside)), (aMwas, .inl (cI 0, 30, .inl mwas)), (aR, .inl (cI 0, 79, .inl r))] H := hP
      have hD : va_D A [(aM, .inr (7, [.int mref, .ref aMtext, .int msize, .ref aMnow, .ref aMtrial, .ref aMdiary, .int macts, .ref aMkept, .ref aMisKept, .ref aMside, .ref aMwas, .int o102.2, .int mout])), (aMtext, .inl (cI 0, 120, .inl mtext)), (aMside, .inl (cI 0, 10, .inl mside)), (aMwas, .inl (cI 0, 30, .inl mwas)), (aR, .inl (cI 0, 79, .inl r))] := hD
      refine lv_istore (lv' := [(5, .int o102.1), (4, .int k0), (0, .ref aM), (1, .ref aR), (2, .int x2)]) hx hb dX8_readRoll_105 hl (by decide) rfl (fun ls hl => ?_)
      refine lv_iload hx hb dX8_readRoll_107 (lv_at hl 0 rfl) ?_
      refine lv_iconst (v := (-1)) hx hb dX8_readRoll_109 (by decide) ?_
      refine lv_icmp_ne (tgt := 115) hx hb dX8_readRoll_110 (by decide) (fun c9 => ?_) (fun c9 => ?_)
      · have hq := kite_f c9 hq
        refine lv_aload_n hx hb dX8_readRoll_115 rfl (lv_at hl 2 rfl) ?_
        refine lv_aload_n hx hb dX8_readRoll_116 rfl (lv_at hl 2 rfl) ?_
        refine va_get (D := D) (ci := 7) (v := .int o102.2) (C := RX8) (T := TX8) (N := 13) hx hb hts iw_X8_readRoll_X8 hown hK.1 hP 0 rfl rfl 11 (by decide) (hts (.fieldLink RX8 139 "PinDeckModel" "spot" "I") (by decide +kernel)) (fun _ h9 => h9) rfl dX8_readRoll_117 ?_
        obtain ⟨o120, ho120, hq⟩ := kbind hq
        refine kc_Vi (av := [.int o102.2]) (rest := []) hF hK hG hA (mk_X8_at l D cI aM aMtext aMnow aMtrial aMdiary aMkept aMisKept aMside aMwas H.size mref msize macts o102.2 mout mtext o102.2 o120 ho120) (cwV 1 hts gX8_readRoll_X8_at rfl rfl rfl (by decide +kernel) ⟨Nat.le_of_ble_eq_true rfl, Nat.le_of_ble_eq_true rfl⟩) hP hD hS [0, 1] (by decide) rfl rfl 0 rfl rfl rfl hl.1 rfl (Nat.le_of_ble_eq_true rfl) ⟨Nat.zero_le _, Nat.zero_le _⟩ dX8_readRoll_120 (fun H locs hP hD hS => ?_)
        have hP : va_P D vwCl [(aM, .inr (7, [.int mref, .ref aMtext, .int msize, .ref aMnow, .ref aMtrial, .ref aMdiary, .int macts, .ref aMkept, .ref aMisKept, .ref aMside, .ref aMwas, .int o102.2, .int mout])), (aMtext, .inl (cI 0, 120, .inl mtext)), (aMside, .inl (cI 0, 10, .inl mside)), (aMwas, .inl (cI 0, 30, .inl mwas)), (aR, .inl (cI 0, 79, .inl r))] H := hP
        have hD : va_D A [(aM, .inr (7, [.int mref, .ref aMtext, .int msize, .ref aMnow, .ref aMtrial, .ref aMdiary, .int macts, .ref aMkept, .ref aMisKept, .ref aMside, .ref aMwas, .int o102.2, .int mout])), (aMtext, .inl (cI 0, 120, .inl mtext)), (aMside, .inl (cI 0, 10, .inl mside)), (aMwas, .inl (cI 0, 30, .inl mwas)), (aR, .inl (cI 0, 79, .inl r))] := hD
        refine lv_bipush (v := 102) hx hb dX8_readRoll_123 (by decide) ?_
        refine lv_icmp_ne (tgt := 132) hx hb dX8_readRoll_125 (by decide) (fun c9 => ?_) (fun c9 => ?_)
        · have hq := kite_f c9 hq
          refine lv_iconst (v := 0) hx hb dX8_readRoll_132 (by decide) ?_
          exact b_133  _ _ _ o102.2 mout mside mwas r x2 k0 o102.1 (0 : Int32) hq hP hD hS (lv_sub hl [2, 3, 4, 1, 0] rfl)
        · have hq := kite_t c9 hq
          refine lv_iconst (v := 1) hx hb dX8_readRoll_128 (by decide) ?_
          refine lv_goto (tgt := 133) hx hb dX8_readRoll_129 (by decide) ?_
          exact b_133  _ _ _ o102.2 mout mside mwas r x2 k0 o102.1 (1 : Int32) hq hP hD hS (lv_sub hl [2, 3, 4, 1, 0] rfl)
      · have hq := kite_t c9 hq
        refine lv_iconst (v := 0) hx hb dX8_readRoll_113 (by decide) ?_
        have ho := Option.some.inj hq
        subst ho
        exact hend _ _ _ _ (Or.inl rfl) hP hS dX8_readRoll_114
    · have hq := kite_t c9 hq
      refine lv_iconst (v := 0) hx hb dX8_readRoll_86 (by decide) ?_
      have ho := Option.some.inj hq
      subst ho
      exact hend _ _ _ _ (Or.inl rfl) hP hS dX8_readRoll_87
  refine lv_aload_n hx hb dX8_readRoll_0 rfl (lv_at hl 0 rfl) ?_
  refine lv_iconst (v := 0) hx hb dX8_readRoll_1 (by decide) ?_
  refine lv_bipush (v := 40) hx hb dX8_readRoll_2 (by decide) ?_
  obtain ⟨o4, ho4, hq⟩ := kbind hq
  refine kc_Vi (av := [.int (0 : Int32), .int (40 : Int32)]) (rest := []) hF hK hG hA (mk_X8_figures l D cI aM aMtext aMnow aMtrial aMdiary aMkept aMisKept aMside aMwas s.heap.size mref msize macts mspot mout mtext (0 : Int32) (40 : Int32) o4 ho4) (cwV 2 hts gX8_readRoll_X8_figures rfl rfl rfl (by decide +kernel) ⟨Nat.le_of_ble_eq_true rfl, Nat.le_of_ble_eq_true rfl⟩) hP hD hS [0, 1] (by decide) rfl rfl 0 rfl rfl rfl hl.1 rfl (Nat.le_of_ble_eq_true rfl) ⟨Nat.zero_le _, Nat.zero_le _⟩ dX8_readRoll_4 (fun H locs hP hD hS => ?_)
  have hP : va_P D vwCl [(aM, .inr (7, [.int mref, .ref aMtext, .int msize, .ref aMnow, .ref aMtrial, .ref aMdiary, .int macts, .ref aMkept, .ref aMisKept, .ref aMside, .ref aMwas, .int o4.2, .int mout])), (aMtext, .inl (cI 0, 120, .inl mtext)), (aMside, .inl (cI 0, 10, .inl mside)), (aMwas, .inl (cI 0, 30, .inl mwas)), (aR, .inl (cI 0, 79, .inl r))] H := hP
  have hD : va_D A [(aM, .inr (7, [.int mref, .ref aMtext, .int msize, .ref aMnow, .ref aMtrial, .ref aMdiary, .int macts, .ref aMkept, .ref aMisKept, .ref aMside, .ref aMwas, .int o4.2, .int mout])), (aMtext, .inl (cI 0, 120, .inl mtext)), (aMside, .inl (cI 0, 10, .inl mside)), (aMwas, .inl (cI 0, 30, .inl mwas)), (aR, .inl (cI 0, 79, .inl r))] := hD
  refine lv_istore_n (lv' := [(2, .int o4.1), (0, .ref aM), (1, .ref aR)]) hx hb dX8_readRoll_7 rfl hl (by decide) rfl (fun ls hl => ?_)
  refine lv_iload_n hx hb dX8_readRoll_8 rfl (lv_at hl 0 rfl) ?_
  refine lv_iconst (v := (-1)) hx hb dX8_readRoll_9 (by decide) ?_
  refine lv_icmp_ne (tgt := 15) hx hb dX8_readRoll_10 (by decide) (fun c9 => ?_) (fun c9 => ?_)
  · have hq := kite_f c9 hq
    refine lv_aload_n hx hb dX8_readRoll_15 rfl (lv_at hl 1 rfl) ?_
    refine lv_aload_n hx hb dX8_readRoll_16 rfl (lv_at hl 1 rfl) ?_
    refine va_get (D := D) (ci := 7) (v := .int o4.2) (C := RX8) (T := TX8) (N := 13) hx hb hts iw_X8_readRoll_X8 hown hK.1 hP 0 rfl rfl 11 (by decide) (hts (.fieldLink RX8 139 "PinDeckModel" "spot" "I") (by decide +kernel)) (fun _ h9 => h9) rfl dX8_readRoll_17 ?_
    obtain ⟨o20, ho20, hq⟩ := kbind hq
    refine kc_Vi (av := [.int o4.2]) (rest := []) hF hK hG hA (mk_X8_at l D cI aM aMtext aMnow aMtrial aMdiary aMkept aMisKept aMside aMwas H.size mref msize macts o4.2 mout mtext o4.2 o20 ho20) (cwV 1 hts gX8_readRoll_X8_at rfl rfl rfl (by decide +kernel) ⟨Nat.le_of_ble_eq_true rfl, Nat.le_of_ble_eq_true rfl⟩) hP hD hS [0, 1] (by decide) rfl rfl 0 rfl rfl rfl hl.1 rfl (Nat.le_of_ble_eq_true rfl) ⟨Nat.zero_le _, Nat.zero_le _⟩ dX8_readRoll_20 (fun H locs hP hD hS => ?_)
    have hP : va_P D vwCl [(aM, .inr (7, [.int mref, .ref aMtext, .int msize, .ref aMnow, .ref aMtrial, .ref aMdiary, .int macts, .ref aMkept, .ref aMisKept, .ref aMside, .ref aMwas, .int o4.2, .int mout])), (aMtext, .inl (cI 0, 120, .inl mtext)), (aMside, .inl (cI 0, 10, .inl mside)), (aMwas, .inl (cI 0, 30, .inl mwas)), (aR, .inl (cI 0, 79, .inl r))] H := hP
    have hD : va_D A [(aM, .inr (7, [.int mref, .ref aMtext, .int msize, .ref aMnow, .ref aMtrial, .ref aMdiary, .int macts, .ref aMkept, .ref aMisKept, .ref aMside, .ref aMwas, .int o4.2, .int mout])), (aMtext, .inl (cI 0, 120, .inl mtext)), (aMside, .inl (cI 0, 10, .inl mside)), (aMwas, .inl (cI 0, 30, .inl mwas)), (aR, .inl (cI 0, 79, .inl r))] := hD
    refine lv_istore_n (lv' := [(3, .int o20), (2, .int o4.1), (0, .ref aM), (1, .ref aR)]) hx hb dX8_readRoll_23 rfl hl (by decide) rfl (fun ls hl => ?_)
    refine lv_iload_n hx hb dX8_readRoll_24 rfl (lv_at hl 0 rfl) ?_
    refine lv_bipush (v := 108) hx hb dX8_readRoll_25 (by decide) ?_
    refine lv_icmp_ne (tgt := 35) hx hb dX8_readRoll_27 (by decide) (fun c9 => ?_) (fun c9 => ?_)
    · have hq := kite_f c9 hq
      refine lv_iload_n hx hb dX8_readRoll_35 rfl (lv_at hl 0 rfl) ?_
      refine lv_bipush (v := 107) hx hb dX8_readRoll_36 (by decide) ?_
      refine lv_icmp_ne (tgt := 45) hx hb dX8_readRoll_38 (by decide) (fun c9 => ?_) (fun c9 => ?_)
      · have hq := kite_f c9 hq
        refine lv_iload_n hx hb dX8_readRoll_45 rfl (lv_at hl 0 rfl) ?_
        refine lv_bipush (v := 109) hx hb dX8_readRoll_46 (by decide) ?_
        refine lv_icmp_ne (tgt := 55) hx hb dX8_readRoll_48 (by decide) (fun c9 => ?_) (fun c9 => ?_)
        · have hq := kite_f c9 hq
          refine lv_iload_n hx hb dX8_readRoll_55 rfl (lv_at hl 0 rfl) ?_
          refine lv_bipush (v := 114) hx hb dX8_readRoll_56 (by decide) ?_
          refine lv_icmp_ne (tgt := 65) hx hb dX8_readRoll_58 (by decide) (fun c9 => ?_) (fun c9 => ?_)
          · have hq := kite_f c9 hq
            refine lv_iload_n hx hb dX8_readRoll_65 rfl (lv_at hl 0 rfl) ?_
            refine lv_bipush (v := 115) hx hb dX8_readRoll_66 (by decide) ?_
            refine lv_icmp_ne (tgt := 75) hx hb dX8_readRoll_68 (by decide) (fun c9 => ?_) (fun c9 => ?_)
            · have hq := kite_f c9 hq
              refine lv_bipush (v := 9) hx hb dX8_readRoll_75 (by decide) ?_
              exact b_77  _ _ _ o4.2 mout mside mwas r o4.1 (9 : Int32) hq hP hD hS (lv_sub hl [2, 3, 1] rfl)
            · have hq := kite_t c9 hq
              refine lv_iconst (v := 2) hx hb dX8_readRoll_71 (by decide) ?_
              refine lv_goto (tgt := 77) hx hb dX8_readRoll_72 (by decide) ?_
              exact b_77  _ _ _ o4.2 mout mside mwas r o4.1 (2 : Int32) hq hP hD hS (lv_sub hl [2, 3, 1] rfl)
          · have hq := kite_t c9 hq
            refine lv_iconst (v := 1) hx hb dX8_readRoll_61 (by decide) ?_
            refine lv_goto (tgt := 77) hx hb dX8_readRoll_62 (by decide) ?_
            exact b_77  _ _ _ o4.2 mout mside mwas r o4.1 (1 : Int32) hq hP hD hS (lv_sub hl [2, 3, 1] rfl)
        · have hq := kite_t c9 hq
          refine lv_iconst (v := 0) hx hb dX8_readRoll_51 (by decide) ?_
          refine lv_goto (tgt := 77) hx hb dX8_readRoll_52 (by decide) ?_
          exact b_77  _ _ _ o4.2 mout mside mwas r o4.1 (0 : Int32) hq hP hD hS (lv_sub hl [2, 3, 1] rfl)
      · have hq := kite_t c9 hq
        refine lv_iconst (v := (-1)) hx hb dX8_readRoll_41 (by decide) ?_
        refine lv_goto (tgt := 77) hx hb dX8_readRoll_42 (by decide) ?_
        exact b_77  _ _ _ o4.2 mout mside mwas r o4.1 (-1 : Int32) hq hP hD hS (lv_sub hl [2, 3, 1] rfl)
    · have hq := kite_t c9 hq
      refine lv_bipush (v := (-2)) hx hb dX8_readRoll_30 (by decide) ?_
      refine lv_goto (tgt := 77) hx hb dX8_readRoll_32 (by decide) ?_
      exact b_77  _ _ _ o4.2 mout mside mwas r o4.1 (-2 : Int32) hq hP hD hS (lv_sub hl [2, 3, 1] rfl)
  · have hq := kite_t c9 hq
    refine lv_iconst (v := 0) hx hb dX8_readRoll_13 (by decide) ?_
    have ho := Option.some.inj hq
    subst ho
    exact hend _ _ _ _ (Or.inl rfl) hP hS dX8_readRoll_14

theorem iw_X8_readText_X8 : ∀ w ∈ wsX80, w ∈ wsX8_readText := by decide +kernel
set_option maxHeartbeats 4000000 in
set_option maxRecDepth 100000 in
theorem mk_X8_readText (l : Launch) (D : va_G) (cI : Nat → ClassId) (aM aMtext aMnow aMtrial aMdiary aMkept aMisKept aMside aMwas aR : Nat) (sz : Nat) (mref : Int32) (msize : Int32) (macts : Int32) (mspot : Int32) (mout : Int32) (mtext : kF) (mside : kF) (mwas : kF) (r : kF) (o : Int32 × Int32 × Int32 × kF × kF × kF) (hq : fn_X8_readText msize mspot mout mtext mside mwas r = some o) : Met l yX8_readText wsX8_readText ({ frames := 7, cells := 0, slots := 0, locals := 172 }) (kPc D cI [(aM, .inr (7, [.int mref, .ref aMtext, .int msize, .ref aMnow, .ref aMtrial, .ref aMdiary, .int macts, .ref aMkept, .ref aMisKept, .ref aMside, .ref aMwas, .int mspot, .int mout])), (aMtext, .inl (cI 0, 120, .inl mtext)), (aMside, .inl (cI 0, 10, .inl mside)), (aMwas, .inl (cI 0, 30, .inl mwas)), (aR, .inl (cI 0, 79, .inl r))] sz [.ref aM, .ref aR]) (kQi D [(aM, .inr (7, [.int mref, .ref aMtext, .int msize, .ref aMnow, .ref aMtrial, .ref aMdiary, .int macts, .ref aMkept, .ref aMisKept, .ref aMside, .ref aMwas, .int mspot, .int mout])), (aMtext, .inl (cI 0, 120, .inl mtext)), (aMside, .inl (cI 0, 10, .inl mside)), (aMwas, .inl (cI 0, 30, .inl mwas)), (aR, .inl (cI 0, 79, .inl r))] [(aM, .inr (7, [.int mref, .ref aMtext, .int msize, .ref aMnow, .ref aMtrial, .ref aMdiary, .int macts, .ref aMkept, .ref aMisKept, .ref aMside, .ref aMwas, .int o.2.1, .int o.2.2.1])), (aMtext, .inl (cI 0, 120, .inl mtext)), (aMside, .inl (cI 0, 10, .inl o.2.2.2.1)), (aMwas, .inl (cI 0, 30, .inl o.2.2.2.2.1)), (aR, .inl (cI 0, 79, .inl o.2.2.2.2.2))] sz o.1) 0 0 (va_A [(aM, .inr (7, [.int mref, .ref aMtext, .int msize, .ref aMnow, .ref aMtrial, .ref aMdiary, .int macts, .ref aMkept, .ref aMisKept, .ref aMside, .ref aMwas, .int mspot, .int mout])), (aMtext, .inl (cI 0, 120, .inl mtext)), (aMside, .inl (cI 0, 10, .inl mside)), (aMwas, .inl (cI 0, 30, .inl mwas)), (aR, .inl (cI 0, 79, .inl r))] sz) := by
  refine kM_i (cc := cX8_readText) (maxL := 2) (by decide +kernel) rfl (Nat.le_of_ble_eq_true rfl) ?_
  intro p e s m args below meth c A Q hF hK hG hD hA hend ls hP hS hl
  obtain ⟨hx, hb, hml, hown, hts⟩ := id hF
  have hl : lv_has ls 2 [(0, .ref aM), (1, .ref aR)] := hl
  have b_31 : ∀ (q : Nat), ∀ (H : Heap) (locs : List Loc) (ls : Array Slot) (mspot : Int32) (mout : Int32) (mside : kF) (mwas : kF) (r : kF), fn_X8_readText_31 q msize mspot mout mtext mside mwas r = some o → va_P D vwCl [(aM, .inr (7, [.int mref, .ref aMtext, .int msize, .ref aMnow, .ref aMtrial, .ref aMdiary, .int macts, .ref aMkept, .ref aMisKept, .ref aMside, .ref aMwas, .int mspot, .int mout])), (aMtext, .inl (cI 0, 120, .inl mtext)), (aMside, .inl (cI 0, 10, .inl mside)), (aMwas, .inl (cI 0, 30, .inl mwas)), (aR, .inl (cI 0, 79, .inl r))] H → va_D A [(aM, .inr (7, [.int mref, .ref aMtext, .int msize, .ref aMnow, .ref aMtrial, .ref aMdiary, .int macts, .ref aMkept, .ref aMisKept, .ref aMside, .ref aMwas, .int mspot, .int mout])), (aMtext, .inl (cI 0, 120, .inl mtext)), (aMside, .inl (cI 0, 10, .inl mside)), (aMwas, .inl (cI 0, 30, .inl mwas)), (aR, .inl (cI 0, 79, .inl r))] → va_S A s.heap H locs → lv_has ls 2 [(0, .ref aM), (1, .ref aR)] → W p l e { frames := 7, cells := 0, slots := 0, locals := 172 } s m args below meth c H locs 0 0 Q (F0 m 31 ls []) := by
    intro q
    induction q with
    | zero =>
      intro H locs ls mspot mout mside mwas r
      intro hq
      cases hq
    | succ q ih =>
      intro H locs ls mspot mout mside mwas r
      intro hq hP hD hS hl
      refine lv_aload_n hx hb dX8_readText_31 rfl (lv_at hl 0 rfl) ?_
      refine va_get (D := D) (ci := 7) (v := .int mspot) (C := RX8) (T := TX8) (N := 13) hx hb hts iw_X8_readText_X8 hown hK.1 hP 0 rfl rfl 11 (by decide) (hts (.fieldLink RX8 139 "PinDeckModel" "spot" "I") (by decide +kernel)) (fun _ h9 => h9) rfl dX8_readText_32 ?_
      refine lv_aload_n hx hb dX8_readText_35 rfl (lv_at hl 0 rfl) ?_
      refine va_get (D := D) (ci := 7) (v := .int msize) (C := RX8) (T := TX8) (N := 13) hx hb hts iw_X8_readText_X8 hown hK.1 hP 0 rfl rfl 2 (by decide) (hts (.fieldLink RX8 132 "PinDeckModel" "size" "I") (by decide +kernel)) (fun _ h9 => h9) rfl dX8_readText_36 ?_
      refine lv_icmp_ge (tgt := 55) hx hb dX8_readText_39 (by decide) (fun c9 => ?_) (fun c9 => ?_)
      · have hq := kite_t c9 hq
        refine lv_iconst (v := (-1)) hx hb dX8_readText_55 (by decide) ?_
        have ho := Option.some.inj hq
        subst ho
        exact hend _ _ _ _ hP hS dX8_readText_56
      · have hq := kite_f c9 hq
        refine lv_aload_n hx hb dX8_readText_42 rfl (lv_at hl 0 rfl) ?_
        refine lv_aload_n hx hb dX8_readText_43 rfl (lv_at hl 1 rfl) ?_
        obtain ⟨o44, ho44, hq⟩ := kbind hq
        refine kc_Vi (av := [.ref aR]) (rest := []) hF hK hG hA (mk_X8_readRoll l D cI aM aMtext aMnow aMtrial aMdiary aMkept aMisKept aMside aMwas aR H.size mref msize macts mspot mout mtext mside mwas r o44 ho44) (cwV 1 hts gX8_readText_X8_readRoll rfl rfl rfl (by decide +kernel) ⟨Nat.le_of_ble_eq_true rfl, Nat.le_of_ble_eq_true rfl⟩) hP hD hS [0, 1, 2, 3, 4] (by decide) rfl rfl 0 rfl rfl rfl hl.1 rfl (Nat.le_of_ble_eq_true rfl) ⟨Nat.zero_le _, Nat.zero_le _⟩ dX8_readText_44 (fun H locs hP hD hS => ?_)
        have hP : va_P D vwCl [(aM, .inr (7, [.int mref, .ref aMtext, .int msize, .ref aMnow, .ref aMtrial, .ref aMdiary, .int macts, .ref aMkept, .ref aMisKept, .ref aMside, .ref aMwas, .int o44.2.1, .int o44.2.2.1])), (aMtext, .inl (cI 0, 120, .inl mtext)), (aMside, .inl (cI 0, 10, .inl o44.2.2.2.1)), (aMwas, .inl (cI 0, 30, .inl o44.2.2.2.2.1)), (aR, .inl (cI 0, 79, .inl o44.2.2.2.2.2))] H := hP
        have hD : va_D A [(aM, .inr (7, [.int mref, .ref aMtext, .int msize, .ref aMnow, .ref aMtrial, .ref aMdiary, .int macts, .ref aMkept, .ref aMisKept, .ref aMside, .ref aMwas, .int o44.2.1, .int o44.2.2.1])), (aMtext, .inl (cI 0, 120, .inl mtext)), (aMside, .inl (cI 0, 10, .inl o44.2.2.2.1)), (aMwas, .inl (cI 0, 30, .inl o44.2.2.2.2.1)), (aR, .inl (cI 0, 79, .inl o44.2.2.2.2.2))] := hD
        refine lv_if_ne (tgt := 31) hx hb dX8_readText_47 (by decide) (fun c9 => ?_) (fun c9 => ?_)
        · have hq := kite_f c9 hq
          exact ih _ _ _ o44.2.1 o44.2.2.1 o44.2.2.2.1 o44.2.2.2.2.1 o44.2.2.2.2.2 hq hP hD hS (lv_sub hl [0, 1] rfl)
        · have hq := kite_t c9 hq
          refine lv_aload_n hx hb dX8_readText_50 rfl (lv_at hl 0 rfl) ?_
          refine va_get (D := D) (ci := 7) (v := .int o44.2.1) (C := RX8) (T := TX8) (N := 13) hx hb hts iw_X8_readText_X8 hown hK.1 hP 0 rfl rfl 11 (by decide) (hts (.fieldLink RX8 139 "PinDeckModel" "spot" "I") (by decide +kernel)) (fun _ h9 => h9) rfl dX8_readText_51 ?_
          have ho := Option.some.inj hq
          subst ho
          exact hend _ _ _ _ hP hS dX8_readText_54
  refine lv_aload_n hx hb dX8_readText_0 rfl (lv_at hl 1 rfl) ?_
  obtain ⟨o1, ho1, hq⟩ := kbind hq
  refine kc_Sv (av := [.ref aR]) (rest := []) hF hK hG hA (mk_X8_clear l D cI aR s.heap.size r o1 ho1) (va_cwS 1 hts gX8_readText_X8_clear rfl rfl rfl (by decide +kernel) ⟨Nat.le_of_ble_eq_true rfl, Nat.le_of_ble_eq_true rfl⟩) hP hD hS [4] (by decide) rfl rfl rfl hl.1 rfl (Nat.le_of_ble_eq_true rfl) ⟨Nat.zero_le _, Nat.zero_le _⟩ dX8_readText_1 (fun H locs hP hD hS => ?_)
  have hP : va_P D vwCl [(aM, .inr (7, [.int mref, .ref aMtext, .int msize, .ref aMnow, .ref aMtrial, .ref aMdiary, .int macts, .ref aMkept, .ref aMisKept, .ref aMside, .ref aMwas, .int mspot, .int mout])), (aMtext, .inl (cI 0, 120, .inl mtext)), (aMside, .inl (cI 0, 10, .inl mside)), (aMwas, .inl (cI 0, 30, .inl mwas)), (aR, .inl (cI 0, 79, .inl o1))] H := hP
  have hD : va_D A [(aM, .inr (7, [.int mref, .ref aMtext, .int msize, .ref aMnow, .ref aMtrial, .ref aMdiary, .int macts, .ref aMkept, .ref aMisKept, .ref aMside, .ref aMwas, .int mspot, .int mout])), (aMtext, .inl (cI 0, 120, .inl mtext)), (aMside, .inl (cI 0, 10, .inl mside)), (aMwas, .inl (cI 0, 30, .inl mwas)), (aR, .inl (cI 0, 79, .inl o1))] := hD
  refine lv_aload_n hx hb dX8_readText_4 rfl (lv_at hl 0 rfl) ?_
  refine lv_iconst (v := 0) hx hb dX8_readText_5 (by decide) ?_
  refine va_put (D := D) (ci := 7) (v := .int (0 : Int32)) (ty := .int) (C := RX8) (T := TX8) (N := 13) hx hb hts iw_X8_readText_X8 tyX8 tyX8_ok nmX8 hown hK.1 hP hD hS 0 rfl rfl 12 (by decide) (hts (.fieldLink RX8 153 "PinDeckModel" "out" "I") (by decide +kernel)) (fun _ h9 => h9) rfl (by decide +kernel) rfl rfl (Nat.le_of_ble_eq_true rfl) dX8_readText_6 (fun H locs hP hD hS => ?_)
  have hP : va_P D vwCl [(aM, .inr (7, [.int mref, .ref aMtext, .int msize, .ref aMnow, .ref aMtrial, .ref aMdiary, .int macts, .ref aMkept, .ref aMisKept, .ref aMside, .ref aMwas, .int mspot, .int (0 : Int32)])), (aMtext, .inl (cI 0, 120, .inl mtext)), (aMside, .inl (cI 0, 10, .inl mside)), (aMwas, .inl (cI 0, 30, .inl mwas)), (aR, .inl (cI 0, 79, .inl o1))] H := hP
  have hD : va_D A [(aM, .inr (7, [.int mref, .ref aMtext, .int msize, .ref aMnow, .ref aMtrial, .ref aMdiary, .int macts, .ref aMkept, .ref aMisKept, .ref aMside, .ref aMwas, .int mspot, .int (0 : Int32)])), (aMtext, .inl (cI 0, 120, .inl mtext)), (aMside, .inl (cI 0, 10, .inl mside)), (aMwas, .inl (cI 0, 30, .inl mwas)), (aR, .inl (cI 0, 79, .inl o1))] := hD
  refine lv_aload_n hx hb dX8_readText_9 rfl (lv_at hl 0 rfl) ?_
  refine lv_iconst (v := 0) hx hb dX8_readText_10 (by decide) ?_
  refine va_put (D := D) (ci := 7) (v := .int (0 : Int32)) (ty := .int) (C := RX8) (T := TX8) (N := 13) hx hb hts iw_X8_readText_X8 tyX8 tyX8_ok nmX8 hown hK.1 hP hD hS 0 rfl rfl 11 (by decide) (hts (.fieldLink RX8 139 "PinDeckModel" "spot" "I") (by decide +kernel)) (fun _ h9 => h9) rfl (by decide +kernel) rfl rfl (Nat.le_of_ble_eq_true rfl) dX8_readText_11 (fun H locs hP hD hS => ?_)
  have hP : va_P D vwCl [(aM, .inr (7, [.int mref, .ref aMtext, .int msize, .ref aMnow, .ref aMtrial, .ref aMdiary, .int macts, .ref aMkept, .ref aMisKept, .ref aMside, .ref aMwas, .int (0 : Int32), .int (0 : Int32)])), (aMtext, .inl (cI 0, 120, .inl mtext)), (aMside, .inl (cI 0, 10, .inl mside)), (aMwas, .inl (cI 0, 30, .inl mwas)), (aR, .inl (cI 0, 79, .inl o1))] H := hP
  have hD : va_D A [(aM, .inr (7, [.int mref, .ref aMtext, .int msize, .ref aMnow, .ref aMtrial, .ref aMdiary, .int macts, .ref aMkept, .ref aMisKept, .ref aMside, .ref aMwas, .int (0 : Int32), .int (0 : Int32)])), (aMtext, .inl (cI 0, 120, .inl mtext)), (aMside, .inl (cI 0, 10, .inl mside)), (aMwas, .inl (cI 0, 30, .inl mwas)), (aR, .inl (cI 0, 79, .inl o1))] := hD
  refine lv_aload_n hx hb dX8_readText_14 rfl (lv_at hl 0 rfl) ?_
  refine lv_iconst (v := 0) hx hb dX8_readText_15 (by decide) ?_
  obtain ⟨o16, ho16, hq⟩ := kbind hq
  refine kc_Vi (av := [.int (0 : Int32)]) (rest := []) hF hK hG hA (mk_X8_at l D cI aM aMtext aMnow aMtrial aMdiary aMkept aMisKept aMside aMwas H.size mref msize macts (0 : Int32) (0 : Int32) mtext (0 : Int32) o16 ho16) (cwV 1 hts gX8_readText_X8_at rfl rfl rfl (by decide +kernel) ⟨Nat.le_of_ble_eq_true rfl, Nat.le_of_ble_eq_true rfl⟩) hP hD hS [0, 1] (by decide) rfl rfl 0 rfl rfl rfl hl.1 rfl (Nat.le_of_ble_eq_true rfl) ⟨Nat.zero_le _, Nat.zero_le _⟩ dX8_readText_16 (fun H locs hP hD hS => ?_)
  have hP : va_P D vwCl [(aM, .inr (7, [.int mref, .ref aMtext, .int msize, .ref aMnow, .ref aMtrial, .ref aMdiary, .int macts, .ref aMkept, .ref aMisKept, .ref aMside, .ref aMwas, .int (0 : Int32), .int (0 : Int32)])), (aMtext, .inl (cI 0, 120, .inl mtext)), (aMside, .inl (cI 0, 10, .inl mside)), (aMwas, .inl (cI 0, 30, .inl mwas)), (aR, .inl (cI 0, 79, .inl o1))] H := hP
  have hD : va_D A [(aM, .inr (7, [.int mref, .ref aMtext, .int msize, .ref aMnow, .ref aMtrial, .ref aMdiary, .int macts, .ref aMkept, .ref aMisKept, .ref aMside, .ref aMwas, .int (0 : Int32), .int (0 : Int32)])), (aMtext, .inl (cI 0, 120, .inl mtext)), (aMside, .inl (cI 0, 10, .inl mside)), (aMwas, .inl (cI 0, 30, .inl mwas)), (aR, .inl (cI 0, 79, .inl o1))] := hD
  refine lv_bipush (v := 80) hx hb dX8_readText_19 (by decide) ?_
  refine lv_icmp_eq (tgt := 26) hx hb dX8_readText_21 (by decide) (fun c9 => ?_) (fun c9 => ?_)
  · have hq := kite_t c9 hq
    refine lv_aload_n hx hb dX8_readText_26 rfl (lv_at hl 0 rfl) ?_
    refine lv_iconst (v := 1) hx hb dX8_readText_27 (by decide) ?_
    refine va_put (D := D) (ci := 7) (v := .int (1 : Int32)) (ty := .int) (C := RX8) (T := TX8) (N := 13) hx hb hts iw_X8_readText_X8 tyX8 tyX8_ok nmX8 hown hK.1 hP hD hS 0 rfl rfl 11 (by decide) (hts (.fieldLink RX8 139 "PinDeckModel" "spot" "I") (by decide +kernel)) (fun _ h9 => h9) rfl (by decide +kernel) rfl rfl (Nat.le_of_ble_eq_true rfl) dX8_readText_28 (fun H locs hP hD hS => ?_)
    have hP : va_P D vwCl [(aM, .inr (7, [.int mref, .ref aMtext, .int msize, .ref aMnow, .ref aMtrial, .ref aMdiary, .int macts, .ref aMkept, .ref aMisKept, .ref aMside, .ref aMwas, .int (1 : Int32), .int (0 : Int32)])), (aMtext, .inl (cI 0, 120, .inl mtext)), (aMside, .inl (cI 0, 10, .inl mside)), (aMwas, .inl (cI 0, 30, .inl mwas)), (aR, .inl (cI 0, 79, .inl o1))] H := hP
    have hD : va_D A [(aM, .inr (7, [.int mref, .ref aMtext, .int msize, .ref aMnow, .ref aMtrial, .ref aMdiary, .int macts, .ref aMkept, .ref aMisKept, .ref aMside, .ref aMwas, .int (1 : Int32), .int (0 : Int32)])), (aMtext, .inl (cI 0, 120, .inl mtext)), (aMside, .inl (cI 0, 10, .inl mside)), (aMwas, .inl (cI 0, 30, .inl mwas)), (aR, .inl (cI 0, 79, .inl o1))] := hD
    exact b_31 4096 _ _ _ (1 : Int32) (0 : Int32) mside mwas o1 hq hP hD hS (lv_sub hl [0, 1] rfl)
  · have hq := kite_f c9 hq
    refine lv_iconst (v := 0) hx hb dX8_readText_24 (by decide) ?_
    have ho := Option.some.inj hq
    subst ho
    exact hend _ _ _ _ hP hS dX8_readText_25

theorem iw_X8_errorPosition_X8 : ∀ w ∈ wsX80, w ∈ wsX8_errorPosition := by decide +kernel
set_option maxHeartbeats 4000000 in
set_option maxRecDepth 100000 in
theorem mk_X8_errorPosition (l : Launch) (D : va_G) (cI : Nat → ClassId) (aM aMtext aMnow aMtrial aMdiary aMkept aMisKept aMside aMwas : Nat) (sz : Nat) (mref : Int32) (msize : Int32) (macts : Int32) (mspot : Int32) (mout : Int32) (mtext : kF) (mtrial : kF) (mside : kF) (mwas : kF) (o : Int32 × Int32 × Int32 × Int32 × kF × kF × kF) (hq : fn_X8_errorPosition mref msize mspot mout mtext mtrial mside mwas = some o) : Met l yX8_errorPosition wsX8_errorPosition ({ frames := 8, cells := 0, slots := 0, locals := 193 }) (kPc D cI [(aM, .inr (7, [.int mref, .ref aMtext, .int msize, .ref aMnow, .ref aMtrial, .ref aMdiary, .int macts, .ref aMkept, .ref aMisKept, .ref aMside, .ref aMwas, .int mspot, .int mout])), (aMtext, .inl (cI 0, 120, .inl mtext)), (aMtrial, .inl (cI 0, 79, .inl mtrial)), (aMside, .inl (cI 0, 10, .inl mside)), (aMwas, .inl (cI 0, 30, .inl mwas))] sz [.ref aM]) (kQi D [(aM, .inr (7, [.int mref, .ref aMtext, .int msize, .ref aMnow, .ref aMtrial, .ref aMdiary, .int macts, .ref aMkept, .ref aMisKept, .ref aMside, .ref aMwas, .int mspot, .int mout])), (aMtext, .inl (cI 0, 120, .inl mtext)), (aMtrial, .inl (cI 0, 79, .inl mtrial)), (aMside, .inl (cI 0, 10, .inl mside)), (aMwas, .inl (cI 0, 30, .inl mwas))] [(aM, .inr (7, [.int o.2.1, .ref aMtext, .int msize, .ref aMnow, .ref aMtrial, .ref aMdiary, .int macts, .ref aMkept, .ref aMisKept, .ref aMside, .ref aMwas, .int o.2.2.1, .int o.2.2.2.1])), (aMtext, .inl (cI 0, 120, .inl mtext)), (aMtrial, .inl (cI 0, 79, .inl o.2.2.2.2.1)), (aMside, .inl (cI 0, 10, .inl o.2.2.2.2.2.1)), (aMwas, .inl (cI 0, 30, .inl o.2.2.2.2.2.2))] sz o.1) 0 0 (va_A [(aM, .inr (7, [.int mref, .ref aMtext, .int msize, .ref aMnow, .ref aMtrial, .ref aMdiary, .int macts, .ref aMkept, .ref aMisKept, .ref aMside, .ref aMwas, .int mspot, .int mout])), (aMtext, .inl (cI 0, 120, .inl mtext)), (aMtrial, .inl (cI 0, 79, .inl mtrial)), (aMside, .inl (cI 0, 10, .inl mside)), (aMwas, .inl (cI 0, 30, .inl mwas))] sz) := by
  refine kM_i (cc := cX8_errorPosition) (maxL := 1) (by decide +kernel) rfl (Nat.le_of_ble_eq_true rfl) ?_
  intro p e s m args below meth c A Q hF hK hG hD hA hend ls hP hS hl
  obtain ⟨hx, hb, hml, hown, hts⟩ := id hF
  have hl : lv_has ls 1 [(0, .ref aM)] := hl
  refine lv_aload_n hx hb dX8_errorPosition_0 rfl (lv_at hl 0 rfl) ?_
  refine lv_iconst (v := 0) hx hb dX8_errorPosition_1 (by decide) ?_
  refine va_put (D := D) (ci := 7) (v := .int (0 : Int32)) (ty := .int) (C := RX8) (T := TX8) (N := 13) hx hb hts iw_X8_errorPosition_X8 tyX8 tyX8_ok nmX8 hown hK.1 hP hD hS 0 rfl rfl 0 (by decide) (hts (.fieldLink RX8 39 "PinDeckModel" "refusal" "I") (by decide +kernel)) (fun _ h9 => h9) rfl (by decide +kernel) rfl rfl (Nat.le_of_ble_eq_true rfl) dX8_errorPosition_2 (fun H locs hP hD hS => ?_)
  have hP : va_P D vwCl [(aM, .inr (7, [.int (0 : Int32), .ref aMtext, .int msize, .ref aMnow, .ref aMtrial, .ref aMdiary, .int macts, .ref aMkept, .ref aMisKept, .ref aMside, .ref aMwas, .int mspot, .int mout])), (aMtext, .inl (cI 0, 120, .inl mtext)), (aMtrial, .inl (cI 0, 79, .inl mtrial)), (aMside, .inl (cI 0, 10, .inl mside)), (aMwas, .inl (cI 0, 30, .inl mwas))] H := hP
  have hD : va_D A [(aM, .inr (7, [.int (0 : Int32), .ref aMtext, .int msize, .ref aMnow, .ref aMtrial, .ref aMdiary, .int macts, .ref aMkept, .ref aMisKept, .ref aMside, .ref aMwas, .int mspot, .int mout])), (aMtext, .inl (cI 0, 120, .inl mtext)), (aMtrial, .inl (cI 0, 79, .inl mtrial)), (aMside, .inl (cI 0, 10, .inl mside)), (aMwas, .inl (cI 0, 30, .inl mwas))] := hD
  refine lv_aload_n hx hb dX8_errorPosition_5 rfl (lv_at hl 0 rfl) ?_
  refine lv_aload_n hx hb dX8_errorPosition_6 rfl (lv_at hl 0 rfl) ?_
  refine va_get (D := D) (ci := 7) (v := .ref aMtrial) (C := RX8) (T := TX8) (N := 13) hx hb hts iw_X8_errorPosition_X8 hown hK.1 hP 0 rfl rfl 4 (by decide) (hts (.fieldLink RX8 16 "PinDeckModel" "trial" "[I") (by decide +kernel)) (fun _ h9 => h9) rfl dX8_errorPosition_7 ?_
  obtain ⟨o10, ho10, hq⟩ := kbind hq
  refine kc_Vi (av := [.ref aMtrial]) (rest := []) hF hK hG hA (mk_X8_readText l D cI aM aMtext aMnow aMtrial aMdiary aMkept aMisKept aMside aMwas aMtrial H.size (0 : Int32) msize macts mspot mout mtext mside mwas mtrial o10 ho10) (cwV 1 hts gX8_errorPosition_X8_readText rfl rfl rfl (by decide +kernel) ⟨Nat.le_of_ble_eq_true rfl, Nat.le_of_ble_eq_true rfl⟩) hP hD hS [0, 1, 3, 4, 2] (by decide) rfl rfl 0 rfl rfl rfl hl.1 rfl (Nat.le_of_ble_eq_true rfl) ⟨Nat.zero_le _, Nat.zero_le _⟩ dX8_errorPosition_10 (fun H locs hP hD hS => ?_)
  have hP : va_P D vwCl [(aM, .inr (7, [.int (0 : Int32), .ref aMtext, .int msize, .ref aMnow, .ref aMtrial, .ref aMdiary, .int macts, .ref aMkept, .ref aMisKept, .ref aMside, .ref aMwas, .int o10.2.1, .int o10.2.2.1])), (aMtext, .inl (cI 0, 120, .inl mtext)), (aMtrial, .inl (cI 0, 79, .inl o10.2.2.2.2.2)), (aMside, .inl (cI 0, 10, .inl o10.2.2.2.1)), (aMwas, .inl (cI 0, 30, .inl o10.2.2.2.2.1))] H := hP
  have hD : va_D A [(aM, .inr (7, [.int (0 : Int32), .ref aMtext, .int msize, .ref aMnow, .ref aMtrial, .ref aMdiary, .int macts, .ref aMkept, .ref aMisKept, .ref aMside, .ref aMwas, .int o10.2.1, .int o10.2.2.1])), (aMtext, .inl (cI 0, 120, .inl mtext)), (aMtrial, .inl (cI 0, 79, .inl o10.2.2.2.2.2)), (aMside, .inl (cI 0, 10, .inl o10.2.2.2.1)), (aMwas, .inl (cI 0, 30, .inl o10.2.2.2.2.1))] := hD
  have ho := Option.some.inj hq
  subst ho
  exact hend _ _ _ _ hP hS dX8_errorPosition_13

theorem iw_X8_load_X8 : ∀ w ∈ wsX80, w ∈ wsX8_load := by decide +kernel
set_option maxHeartbeats 4000000 in
set_option maxRecDepth 100000 in
theorem mk_X8_load (l : Launch) (D : va_G) (cI : Nat → ClassId) (aM aMtext aMnow aMtrial aMdiary aMkept aMisKept aMside aMwas : Nat) (sz : Nat) (mref : Int32) (msize : Int32) (macts : Int32) (mspot : Int32) (mout : Int32) (mtext : kF) (mnow : kF) (mtrial : kF) (misk : kF) (mside : kF) (mwas : kF) (o : Int32 × Int32 × Int32 × Int32 × Int32 × kF × kF × kF × kF × kF) (hq : fn_X8_load mref msize macts mspot mout mtext mnow mtrial misk mside mwas = some o) : Met l yX8_load wsX8_load ({ frames := 8, cells := 0, slots := 0, locals := 193 }) (kPc D cI [(aM, .inr (7, [.int mref, .ref aMtext, .int msize, .ref aMnow, .ref aMtrial, .ref aMdiary, .int macts, .ref aMkept, .ref aMisKept, .ref aMside, .ref aMwas, .int mspot, .int mout])), (aMtext, .inl (cI 0, 120, .inl mtext)), (aMnow, .inl (cI 0, 79, .inl mnow)), (aMtrial, .inl (cI 0, 79, .inl mtrial)), (aMisKept, .inl (cI 1, 2, .inl misk)), (aMside, .inl (cI 0, 10, .inl mside)), (aMwas, .inl (cI 0, 30, .inl mwas))] sz [.ref aM]) (kQi D [(aM, .inr (7, [.int mref, .ref aMtext, .int msize, .ref aMnow, .ref aMtrial, .ref aMdiary, .int macts, .ref aMkept, .ref aMisKept, .ref aMside, .ref aMwas, .int mspot, .int mout])), (aMtext, .inl (cI 0, 120, .inl mtext)), (aMnow, .inl (cI 0, 79, .inl mnow)), (aMtrial, .inl (cI 0, 79, .inl mtrial)), (aMisKept, .inl (cI 1, 2, .inl misk)), (aMside, .inl (cI 0, 10, .inl mside)), (aMwas, .inl (cI 0, 30, .inl mwas))] [(aM, .inr (7, [.int o.2.1, .ref aMtext, .int msize, .ref aMnow, .ref aMtrial, .ref aMdiary, .int o.2.2.1, .ref aMkept, .ref aMisKept, .ref aMside, .ref aMwas, .int o.2.2.2.1, .int o.2.2.2.2.1])), (aMtext, .inl (cI 0, 120, .inl mtext)), (aMnow, .inl (cI 0, 79, .inl o.2.2.2.2.2.1)), (aMtrial, .inl (cI 0, 79, .inl o.2.2.2.2.2.2.1)), (aMisKept, .inl (cI 1, 2, .inl o.2.2.2.2.2.2.2.1)), (aMside, .inl (cI 0, 10, .inl o.2.2.2.2.2.2.2.2.1)), (aMwas, .inl (cI 0, 30, .inl o.2.2.2.2.2.2.2.2.2))] sz o.1) 0 0 (va_A [(aM, .inr (7, [.int mref, .ref aMtext, .int msize, .ref aMnow, .ref aMtrial, .ref aMdiary, .int macts, .ref aMkept, .ref aMisKept, .ref aMside, .ref aMwas, .int mspot, .int mout])), (aMtext, .inl (cI 0, 120, .inl mtext)), (aMnow, .inl (cI 0, 79, .inl mnow)), (aMtrial, .inl (cI 0, 79, .inl mtrial)), (aMisKept, .inl (cI 1, 2, .inl misk)), (aMside, .inl (cI 0, 10, .inl mside)), (aMwas, .inl (cI 0, 30, .inl mwas))] sz) := by
  refine kM_i (cc := cX8_load) (maxL := 1) (by decide +kernel) rfl (Nat.le_of_ble_eq_true rfl) ?_
  intro p e s m args below meth c A Q hF hK hG hD hA hend ls hP hS hl
  obtain ⟨hx, hb, hml, hown, hts⟩ := id hF
  have hl : lv_has ls 1 [(0, .ref aM)] := hl
  have b_18 : ∀ (H : Heap) (locs : List Loc) (ls : Array Slot) (mref : Int32) (macts : Int32) (mspot : Int32) (mout : Int32) (mnow : kF) (mtrial : kF) (misk : kF) (mside : kF) (mwas : kF) (k1 : Int32), fn_X8_load_18 mref msize macts mspot mout mtext mnow mtrial misk mside mwas k1 = some o → va_P D vwCl [(aM, .inr (7, [.int mref, .ref aMtext, .int msize, .ref aMnow, .ref aMtrial, .ref aMdiary, .int macts, .ref aMkept, .ref aMisKept, .ref aMside, .ref aMwas, .int mspot, .int mout])), (aMtext, .inl (cI 0, 120, .inl mtext)), (aMnow, .inl (cI 0, 79, .inl mnow)), (aMtrial, .inl (cI 0, 79, .inl mtrial)), (aMisKept, .inl (cI 1, 2, .inl misk)), (aMside, .inl (cI 0, 10, .inl mside)), (aMwas, .inl (cI 0, 30, .inl mwas))] H → va_D A [(aM, .inr (7, [.int mref, .ref aMtext, .int msize, .ref aMnow, .ref aMtrial, .ref aMdiary, .int macts, .ref aMkept, .ref aMisKept, .ref aMside, .ref aMwas, .int mspot, .int mout])), (aMtext, .inl (cI 0, 120, .inl mtext)), (aMnow, .inl (cI 0, 79, .inl mnow)), (aMtrial, .inl (cI 0, 79, .inl mtrial)), (aMisKept, .inl (cI 1, 2, .inl misk)), (aMside, .inl (cI 0, 10, .inl mside)), (aMwas, .inl (cI 0, 30, .inl mwas))] → va_S A s.heap H locs → lv_has ls 1 [(0, .ref aM)] → W p l e { frames := 8, cells := 0, slots := 0, locals := 193 } s m args below meth c H locs 0 0 Q (F0 m 18 ls [.int k1, .ref aM]) := by
    intro H locs ls mref macts mspot mout mnow mtrial misk mside mwas k1
    intro hq hP hD hS hl
    obtain ⟨o18, ho18, hq⟩ := kbind hq
    refine kc_Vi (av := [.int k1]) (rest := []) hF hK hG hA (mk_X8_refused l D cI aM aMtext aMnow aMtrial aMdiary aMkept aMisKept aMside aMwas H.size mref msize macts mspot mout k1 o18 ho18) (cwV 1 hts gX8_load_X8_refused rfl rfl rfl (by decide +kernel) ⟨Nat.le_of_ble_eq_true rfl, Nat.le_of_ble_eq_true rfl⟩) hP hD hS [0] (by decide) rfl rfl 0 rfl rfl rfl hl.1 rfl (Nat.le_of_ble_eq_true rfl) ⟨Nat.zero_le _, Nat.zero_le _⟩ dX8_load_18 (fun H locs hP hD hS => ?_)
    have hP : va_P D vwCl [(aM, .inr (7, [.int o18.2, .ref aMtext, .int msize, .ref aMnow, .ref aMtrial, .ref aMdiary, .int macts, .ref aMkept, .ref aMisKept, .ref aMside, .ref aMwas, .int mspot, .int mout])), (aMtext, .inl (cI 0, 120, .inl mtext)), (aMnow, .inl (cI 0, 79, .inl mnow)), (aMtrial, .inl (cI 0, 79, .inl mtrial)), (aMisKept, .inl (cI 1, 2, .inl misk)), (aMside, .inl (cI 0, 10, .inl mside)), (aMwas, .inl (cI 0, 30, .inl mwas))] H := hP
    have hD : va_D A [(aM, .inr (7, [.int o18.2, .ref aMtext, .int msize, .ref aMnow, .ref aMtrial, .ref aMdiary, .int macts, .ref aMkept, .ref aMisKept, .ref aMside, .ref aMwas, .int mspot, .int mout])), (aMtext, .inl (cI 0, 120, .inl mtext)), (aMnow, .inl (cI 0, 79, .inl mnow)), (aMtrial, .inl (cI 0, 79, .inl mtrial)), (aMisKept, .inl (cI 1, 2, .inl misk)), (aMside, .inl (cI 0, 10, .inl mside)), (aMwas, .inl (cI 0, 30, .inl mwas))] := hD
    refine lv_if_eq (tgt := 26) hx hb dX8_load_21 (by decide) (fun c9 => ?_) (fun c9 => ?_)
    · have hq := kite_t c9 hq
      refine lv_aload_n hx hb dX8_load_26 rfl (lv_at hl 0 rfl) ?_
      refine va_get (D := D) (ci := 7) (v := .ref aMtrial) (C := RX8) (T := TX8) (N := 13) hx hb hts iw_X8_load_X8 hown hK.1 hP 0 rfl rfl 4 (by decide) (hts (.fieldLink RX8 16 "PinDeckModel" "trial" "[I") (by decide +kernel)) (fun _ h9 => h9) rfl dX8_load_27 ?_
      refine lv_iconst (v := 0) hx hb dX8_load_30 (by decide) ?_
      refine lv_aload_n hx hb dX8_load_31 rfl (lv_at hl 0 rfl) ?_
      refine va_get (D := D) (ci := 7) (v := .ref aMnow) (C := RX8) (T := TX8) (N := 13) hx hb hts iw_X8_load_X8 hown hK.1 hP 0 rfl rfl 3 (by decide) (hts (.fieldLink RX8 13 "PinDeckModel" "now" "[I") (by decide +kernel)) (fun _ h9 => h9) rfl dX8_load_32 ?_
      refine lv_iconst (v := 0) hx hb dX8_load_35 (by decide) ?_
      obtain ⟨o36, ho36, hq⟩ := kbind hq
      refine kc_Sv (av := [.ref aMtrial, .int (0 : Int32), .ref aMnow, .int (0 : Int32)]) (rest := []) hF hK hG hA (mk_X8_copyState l D cI 79 79 aMtrial aMnow H.size mtrial mnow (0 : Int32) (0 : Int32) o36 ho36) (va_cwS 4 hts gX8_load_X8_copyState rfl rfl rfl (by decide +kernel) ⟨Nat.le_of_ble_eq_true rfl, Nat.le_of_ble_eq_true rfl⟩) hP hD hS [3, 2] (by decide) rfl rfl rfl hl.1 rfl (Nat.le_of_ble_eq_true rfl) ⟨Nat.zero_le _, Nat.zero_le _⟩ dX8_load_36 (fun H locs hP hD hS => ?_)
      have hP : va_P D vwCl [(aM, .inr (7, [.int o18.2, .ref aMtext, .int msize, .ref aMnow, .ref aMtrial, .ref aMdiary, .int macts, .ref aMkept, .ref aMisKept, .ref aMside, .ref aMwas, .int mspot, .int mout])), (aMtext, .inl (cI 0, 120, .inl mtext)), (aMnow, .inl (cI 0, 79, .inl o36)), (aMtrial, .inl (cI 0, 79, .inl mtrial)), (aMisKept, .inl (cI 1, 2, .inl misk)), (aMside, .inl (cI 0, 10, .inl mside)), (aMwas, .inl (cI 0, 30, .inl mwas))] H := hP
      have hD : va_D A [(aM, .inr (7, [.int o18.2, .ref aMtext, .int msize, .ref aMnow, .ref aMtrial, .ref aMdiary, .int macts, .ref aMkept, .ref aMisKept, .ref aMside, .ref aMwas, .int mspot, .int mout])), (aMtext, .inl (cI 0, 120, .inl mtext)), (aMnow, .inl (cI 0, 79, .inl o36)), (aMtrial, .inl (cI 0, 79, .inl mtrial)), (aMisKept, .inl (cI 1, 2, .inl misk)), (aMside, .inl (cI 0, 10, .inl mside)), (aMwas, .inl (cI 0, 30, .inl mwas))] := hD
      refine lv_aload_n hx hb dX8_load_39 rfl (lv_at hl 0 rfl) ?_
      refine lv_iconst (v := 0) hx hb dX8_load_40 (by decide) ?_
      refine va_put (D := D) (ci := 7) (v := .int (0 : Int32)) (ty := .int) (C := RX8) (T := TX8) (N := 13) hx hb hts iw_X8_load_X8 tyX8 tyX8_ok nmX8 hown hK.1 hP hD hS 0 rfl rfl 6 (by decide) (hts (.fieldLink RX8 170 "PinDeckModel" "acts" "I") (by decide +kernel)) (fun _ h9 => h9) rfl (by decide +kernel) rfl rfl (Nat.le_of_ble_eq_true rfl) dX8_load_41 (fun H locs hP hD hS => ?_)
      have hP : va_P D vwCl [(aM, .inr (7, [.int o18.2, .ref aMtext, .int msize, .ref aMnow, .ref aMtrial, .ref aMdiary, .int (0 : Int32), .ref aMkept, .ref aMisKept, .ref aMside, .ref aMwas, .int mspot, .int mout])), (aMtext, .inl (cI 0, 120, .inl mtext)), (aMnow, .inl (cI 0, 79, .inl o36)), (aMtrial, .inl (cI 0, 79, .inl mtrial)), (aMisKept, .inl (cI 1, 2, .inl misk)), (aMside, .inl (cI 0, 10, .inl mside)), (aMwas, .inl (cI 0, 30, .inl mwas))] H := hP
      have hD : va_D A [(aM, .inr (7, [.int o18.2, .ref aMtext, .int msize, .ref aMnow, .ref aMtrial, .ref aMdiary, .int (0 : Int32), .ref aMkept, .ref aMisKept, .ref aMside, .ref aMwas, .int mspot, .int mout])), (aMtext, .inl (cI 0, 120, .inl mtext)), (aMnow, .inl (cI 0, 79, .inl o36)), (aMtrial, .inl (cI 0, 79, .inl mtrial)), (aMisKept, .inl (cI 1, 2, .inl misk)), (aMside, .inl (cI 0, 10, .inl mside)), (aMwas, .inl (cI 0, 30, .inl mwas))] := hD
      refine lv_aload_n hx hb dX8_load_44 rfl (lv_at hl 0 rfl) ?_
      refine va_get (D := D) (ci := 7) (v := .ref aMisKept) (C := RX8) (T := TX8) (N := 13) hx hb hts iw_X8_load_X8 hown hK.1 hP 0 rfl rfl 8 (by decide) (hts (.fieldLink RX8 25 "PinDeckModel" "isKept" "[Z") (by decide +kernel)) (fun _ h9 => h9) rfl dX8_load_45 ?_
      refine lv_iconst (v := 0) hx hb dX8_load_48 (by decide) ?_
      refine lv_iconst (v := 0) hx hb dX8_load_49 (by decide) ?_
      refine k_zast (j := 0) hx hb hK.1 hP hD hS 4 1 rfl rfl (by decide) (by decide) dX8_load_50 (fun H locs hP hD hS => ?_)
      have hP : va_P D vwCl [(aM, .inr (7, [.int o18.2, .ref aMtext, .int msize, .ref aMnow, .ref aMtrial, .ref aMdiary, .int (0 : Int32), .ref aMkept, .ref aMisKept, .ref aMside, .ref aMwas, .int mspot, .int mout])), (aMtext, .inl (cI 0, 120, .inl mtext)), (aMnow, .inl (cI 0, 79, .inl o36)), (aMtrial, .inl (cI 0, 79, .inl mtrial)), (aMisKept, .inl (cI 1, 2, .inl (upd misk 0 (vp_nar .boolean (0 : Int32))))), (aMside, .inl (cI 0, 10, .inl mside)), (aMwas, .inl (cI 0, 30, .inl mwas))] H := hP
      have hD : va_D A [(aM, .inr (7, [.int o18.2, .ref aMtext, .int msize, .ref aMnow, .ref aMtrial, .ref aMdiary, .int (0 : Int32), .ref aMkept, .ref aMisKept, .ref aMside, .ref aMwas, .int mspot, .int mout])), (aMtext, .inl (cI 0, 120, .inl mtext)), (aMnow, .inl (cI 0, 79, .inl o36)), (aMtrial, .inl (cI 0, 79, .inl mtrial)), (aMisKept, .inl (cI 1, 2, .inl (upd misk 0 (vp_nar .boolean (0 : Int32))))), (aMside, .inl (cI 0, 10, .inl mside)), (aMwas, .inl (cI 0, 30, .inl mwas))] := hD
      refine lv_aload_n hx hb dX8_load_51 rfl (lv_at hl 0 rfl) ?_
      refine va_get (D := D) (ci := 7) (v := .ref aMisKept) (C := RX8) (T := TX8) (N := 13) hx hb hts iw_X8_load_X8 hown hK.1 hP 0 rfl rfl 8 (by decide) (hts (.fieldLink RX8 25 "PinDeckModel" "isKept" "[Z") (by decide +kernel)) (fun _ h9 => h9) rfl dX8_load_52 ?_
      refine lv_iconst (v := 1) hx hb dX8_load_55 (by decide) ?_
      refine lv_iconst (v := 0) hx hb dX8_load_56 (by decide) ?_
      refine k_zast (j := 1) hx hb hK.1 hP hD hS 4 1 rfl rfl (by decide) (by decide) dX8_load_57 (fun H locs hP hD hS => ?_)
      have hP : va_P D vwCl [(aM, .inr (7, [.int o18.2, .ref aMtext, .int msize, .ref aMnow, .ref aMtrial, .ref aMdiary, .int (0 : Int32), .ref aMkept, .ref aMisKept, .ref aMside, .ref aMwas, .int mspot, .int mout])), (aMtext, .inl (cI 0, 120, .inl mtext)), (aMnow, .inl (cI 0, 79, .inl o36)), (aMtrial, .inl (cI 0, 79, .inl mtrial)), (aMisKept, .inl (cI 1, 2, .inl (upd (upd misk 0 (vp_nar .boolean (0 : Int32))) 1 (vp_nar .boolean (0 : Int32))))), (aMside, .inl (cI 0, 10, .inl mside)), (aMwas, .inl (cI 0, 30, .inl mwas))] H := hP
      have hD : va_D A [(aM, .inr (7, [.int o18.2, .ref aMtext, .int msize, .ref aMnow, .ref aMtrial, .ref aMdiary, .int (0 : Int32), .ref aMkept, .ref aMisKept, .ref aMside, .ref aMwas, .int mspot, .int mout])), (aMtext, .inl (cI 0, 120, .inl mtext)), (aMnow, .inl (cI 0, 79, .inl o36)), (aMtrial, .inl (cI 0, 79, .inl mtrial)), (aMisKept, .inl (cI 1, 2, .inl (upd (upd misk 0 (vp_nar .boolean (0 : Int32))) 1 (vp_nar .boolean (0 : Int32))))), (aMside, .inl (cI 0, 10, .inl mside)), (aMwas, .inl (cI 0, 30, .inl mwas))] := hD
      refine lv_aload_n hx hb dX8_load_58 rfl (lv_at hl 0 rfl) ?_
      refine va_get (D := D) (ci := 7) (v := .int mout) (C := RX8) (T := TX8) (N := 13) hx hb hts iw_X8_load_X8 hown hK.1 hP 0 rfl rfl 12 (by decide) (hts (.fieldLink RX8 153 "PinDeckModel" "out" "I") (by decide +kernel)) (fun _ h9 => h9) rfl dX8_load_59 ?_
      have ho := Option.some.inj hq
      subst ho
      exact hend _ _ _ _ hP hS dX8_load_62
    · have hq := kite_f c9 hq
      refine lv_iconst (v := 0) hx hb dX8_load_24 (by decide) ?_
      have ho := Option.some.inj hq
      subst ho
      exact hend _ _ _ _ hP hS dX8_load_25
  refine lv_aload_n hx hb dX8_load_0 rfl (lv_at hl 0 rfl) ?_
  refine lv_aload_n hx hb dX8_load_1 rfl (lv_at hl 0 rfl) ?_
  refine lv_aload_n hx hb dX8_load_2 rfl (lv_at hl 0 rfl) ?_
  refine va_get (D := D) (ci := 7) (v := .ref aMtrial) (C := RX8) (T := TX8) (N := 13) hx hb hts iw_X8_load_X8 hown hK.1 hP 0 rfl rfl 4 (by decide) (hts (.fieldLink RX8 16 "PinDeckModel" "trial" "[I") (by decide +kernel)) (fun _ h9 => h9) rfl dX8_load_3 ?_
  obtain ⟨o6, ho6, hq⟩ := kbind hq
  refine kc_Vi (av := [.ref aMtrial]) (rest := [.ref aM]) hF hK hG hA (mk_X8_readText l D cI aM aMtext aMnow aMtrial aMdiary aMkept aMisKept aMside aMwas aMtrial s.heap.size mref msize macts mspot mout mtext mside mwas mtrial o6 ho6) (cwV 1 hts gX8_load_X8_readText rfl rfl rfl (by decide +kernel) ⟨Nat.le_of_ble_eq_true rfl, Nat.le_of_ble_eq_true rfl⟩) hP hD hS [0, 1, 5, 6, 3] (by decide) rfl rfl 0 rfl rfl rfl hl.1 rfl (Nat.le_of_ble_eq_true rfl) ⟨Nat.zero_le _, Nat.zero_le _⟩ dX8_load_6 (fun H locs hP hD hS => ?_)
  have hP : va_P D vwCl [(aM, .inr (7, [.int mref, .ref aMtext, .int msize, .ref aMnow, .ref aMtrial, .ref aMdiary, .int macts, .ref aMkept, .ref aMisKept, .ref aMside, .ref aMwas, .int o6.2.1, .int o6.2.2.1])), (aMtext, .inl (cI 0, 120, .inl mtext)), (aMnow, .inl (cI 0, 79, .inl mnow)), (aMtrial, .inl (cI 0, 79, .inl o6.2.2.2.2.2)), (aMisKept, .inl (cI 1, 2, .inl misk)), (aMside, .inl (cI 0, 10, .inl o6.2.2.2.1)), (aMwas, .inl (cI 0, 30, .inl o6.2.2.2.2.1))] H := hP
  have hD : va_D A [(aM, .inr (7, [.int mref, .ref aMtext, .int msize, .ref aMnow, .ref aMtrial, .ref aMdiary, .int macts, .ref aMkept, .ref aMisKept, .ref aMside, .ref aMwas, .int o6.2.1, .int o6.2.2.1])), (aMtext, .inl (cI 0, 120, .inl mtext)), (aMnow, .inl (cI 0, 79, .inl mnow)), (aMtrial, .inl (cI 0, 79, .inl o6.2.2.2.2.2)), (aMisKept, .inl (cI 1, 2, .inl misk)), (aMside, .inl (cI 0, 10, .inl o6.2.2.2.1)), (aMwas, .inl (cI 0, 30, .inl o6.2.2.2.2.1))] := hD
  refine lv_iconst (v := (-1)) hx hb dX8_load_9 (by decide) ?_
  refine lv_icmp_ne (tgt := 17) hx hb dX8_load_10 (by decide) (fun c9 => ?_) (fun c9 => ?_)
  · have hq := kite_f c9 hq
    refine lv_iconst (v := 1) hx hb dX8_load_17 (by decide) ?_
    exact b_18  _ _ _ mref macts o6.2.1 o6.2.2.1 mnow o6.2.2.2.2.2 misk o6.2.2.2.1 o6.2.2.2.2.1 (1 : Int32) hq hP hD hS (lv_sub hl [0] rfl)
  · have hq := kite_t c9 hq
    refine lv_iconst (v := 0) hx hb dX8_load_13 (by decide) ?_
    refine lv_goto (tgt := 18) hx hb dX8_load_14 (by decide) ?_
    exact b_18  _ _ _ mref macts o6.2.1 o6.2.2.1 mnow o6.2.2.2.2.2 misk o6.2.2.2.1 o6.2.2.2.2.1 (0 : Int32) hq hP hD hS (lv_sub hl [0] rfl)

theorem iw_X8_about_X8 : ∀ w ∈ wsX80, w ∈ wsX8_about := by decide +kernel
set_option maxHeartbeats 4000000 in
set_option maxRecDepth 100000 in
theorem mk_X8_about (l : Launch) (D : va_G) (cI : Nat → ClassId) (aM aMtext aMnow aMtrial aMdiary aMkept aMisKept aMside aMwas : Nat) (sz : Nat) (mref : Int32) (msize : Int32) (macts : Int32) (mspot : Int32) (mout : Int32) (mnow : kF) (x1 : Int32) (o : Int32 × Int32) (hq : fn_X8_about mref mnow x1 = some o) : Met l yX8_about wsX8_about ({ frames := 4, cells := 0, slots := 0, locals := 89 }) (kPc D cI [(aM, .inr (7, [.int mref, .ref aMtext, .int msize, .ref aMnow, .ref aMtrial, .ref aMdiary, .int macts, .ref aMkept, .ref aMisKept, .ref aMside, .ref aMwas, .int mspot, .int mout])), (aMnow, .inl (cI 0, 79, .inl mnow))] sz [.ref aM, .int x1]) (kQi D [(aM, .inr (7, [.int mref, .ref aMtext, .int msize, .ref aMnow, .ref aMtrial, .ref aMdiary, .int macts, .ref aMkept, .ref aMisKept, .ref aMside, .ref aMwas, .int mspot, .int mout])), (aMnow, .inl (cI 0, 79, .inl mnow))] [(aM, .inr (7, [.int o.2, .ref aMtext, .int msize, .ref aMnow, .ref aMtrial, .ref aMdiary, .int macts, .ref aMkept, .ref aMisKept, .ref aMside, .ref aMwas, .int mspot, .int mout])), (aMnow, .inl (cI 0, 79, .inl mnow))] sz o.1) 0 0 (va_A [(aM, .inr (7, [.int mref, .ref aMtext, .int msize, .ref aMnow, .ref aMtrial, .ref aMdiary, .int macts, .ref aMkept, .ref aMisKept, .ref aMside, .ref aMwas, .int mspot, .int mout])), (aMnow, .inl (cI 0, 79, .inl mnow))] sz) := by
  refine kM_i (cc := cX8_about) (maxL := 2) (by decide +kernel) rfl (Nat.le_of_ble_eq_true rfl) ?_
  intro p e s m args below meth c A Q hF hK hG hD hA hend ls hP hS hl
  obtain ⟨hx, hb, hml, hown, hts⟩ := id hF
  have hl : lv_has ls 2 [(0, .ref aM), (1, .int x1)] := hl
  have b_117 : ∀ (H : Heap) (locs : List Loc) (ls : Array Slot) (mref : Int32) (k0 : Int32), fn_X8_about_117 mref mnow k0 = some o → va_P D vwCl [(aM, .inr (7, [.int mref, .ref aMtext, .int msize, .ref aMnow, .ref aMtrial, .ref aMdiary, .int macts, .ref aMkept, .ref aMisKept, .ref aMside, .ref aMwas, .int mspot, .int mout])), (aMnow, .inl (cI 0, 79, .inl mnow))] H → va_D A [(aM, .inr (7, [.int mref, .ref aMtext, .int msize, .ref aMnow, .ref aMtrial, .ref aMdiary, .int macts, .ref aMkept, .ref aMisKept, .ref aMside, .ref aMwas, .int mspot, .int mout])), (aMnow, .inl (cI 0, 79, .inl mnow))] → va_S A s.heap H locs → lv_has ls 2 [] → W p l e { frames := 4, cells := 0, slots := 0, locals := 89 } s m args below meth c H locs 0 0 Q (F0 m 117 ls [.int k0]) := by
    intro H locs ls mref k0
    intro hq hP hD hS hl
    have ho := Option.some.inj hq
    subst ho
    exact hend _ _ _ _ hP hS dX8_about_117
  have b_165 : ∀ (H : Heap) (locs : List Loc) (ls : Array Slot) (mref : Int32) (k0 : Int32), fn_X8_about_165 mref mnow k0 = some o → va_P D vwCl [(aM, .inr (7, [.int mref, .ref aMtext, .int msize, .ref aMnow, .ref aMtrial, .ref aMdiary, .int macts, .ref aMkept, .ref aMisKept, .ref aMside, .ref aMwas, .int mspot, .int mout])), (aMnow, .inl (cI 0, 79, .inl mnow))] H → va_D A [(aM, .inr (7, [.int mref, .ref aMtext, .int msize, .ref aMnow, .ref aMtrial, .ref aMdiary, .int macts, .ref aMkept, .ref aMisKept, .ref aMside, .ref aMwas, .int mspot, .int mout])), (aMnow, .inl (cI 0, 79, .inl mnow))] → va_S A s.heap H locs → lv_has ls 2 [] → W p l e { frames := 4, cells := 0, slots := 0, locals := 89 } s m args below meth c H locs 0 0 Q (F0 m 165 ls [.int k0]) := by
    intro H locs ls mref k0
    intro hq hP hD hS hl
    have ho := Option.some.inj hq
    subst ho
    exact hend _ _ _ _ hP hS dX8_about_165
  have b_18 : ∀ (H : Heap) (locs : List Loc) (ls : Array Slot) (mref : Int32) (x1 : Int32) (k1 : Int32), fn_X8_about_18 mref mnow x1 k1 = some o → va_P D vwCl [(aM, .inr (7, [.int mref, .ref aMtext, .int msize, .ref aMnow, .ref aMtrial, .ref aMdiary, .int macts, .ref aMkept, .ref aMisKept, .ref aMside, .ref aMwas, .int mspot, .int mout])), (aMnow, .inl (cI 0, 79, .inl mnow))] H → va_D A [(aM, .inr (7, [.int mref, .ref aMtext, .int msize, .ref aMnow, .ref aMtrial, .ref aMdiary, .int macts, .ref aMkept, .ref aMisKept, .ref aMside, .ref aMwas, .int mspot, .int mout])), (aMnow, .inl (cI 0, 79, .inl mnow))] → va_S A s.heap H locs → lv_has ls 2 [(0, .ref aM), (1, .int x1)] → W p l e { frames := 4, cells := 0, slots := 0, locals := 89 } s m args below meth c H locs 0 0 Q (F0 m 18 ls [.int k1, .ref aM]) := by
    intro H locs ls mref x1 k1
    intro hq hP hD hS hl
    obtain ⟨o18, ho18, hq⟩ := kbind hq
    refine kc_Vi (av := [.int k1]) (rest := []) hF hK hG hA (mk_X8_refused l D cI aM aMtext aMnow aMtrial aMdiary aMkept aMisKept aMside aMwas H.size mref msize macts mspot mout k1 o18 ho18) (cwV 1 hts gX8_about_X8_refused rfl rfl rfl (by decide +kernel) ⟨Nat.le_of_ble_eq_true rfl, Nat.le_of_ble_eq_true rfl⟩) hP hD hS [0] (by decide) rfl rfl 0 rfl rfl rfl hl.1 rfl (Nat.le_of_ble_eq_true rfl) ⟨Nat.zero_le _, Nat.zero_le _⟩ dX8_about_18 (fun H locs hP hD hS => ?_)
    have hP : va_P D vwCl [(aM, .inr (7, [.int o18.2, .ref aMtext, .int msize, .ref aMnow, .ref aMtrial, .ref aMdiary, .int macts, .ref aMkept, .ref aMisKept, .ref aMside, .ref aMwas, .int mspot, .int mout])), (aMnow, .inl (cI 0, 79, .inl mnow))] H := hP
    have hD : va_D A [(aM, .inr (7, [.int o18.2, .ref aMtext, .int msize, .ref aMnow, .ref aMtrial, .ref aMdiary, .int macts, .ref aMkept, .ref aMisKept, .ref aMside, .ref aMwas, .int mspot, .int mout])), (aMnow, .inl (cI 0, 79, .inl mnow))] := hD
    refine lv_if_eq (tgt := 26) hx hb dX8_about_21 (by decide) (fun c9 => ?_) (fun c9 => ?_)
    · have hq := kite_t c9 hq
      refine lv_iload_n hx hb dX8_about_26 rfl (lv_at hl 1 rfl) ?_
      by_cases c0 : x1 = 0
      · have hq := kite_t c0 hq
        refine lv_tableIn (off := 53) (tgt := 80) hx hb dX8_about_27 (by rw [c0]; decide) (by rw [c0]; decide) (by rw [c0]; decide +kernel) (by decide) ?_
        refine lv_aload_n hx hb dX8_about_80 rfl (lv_at hl 0 rfl) ?_
        refine va_get (D := D) (ci := 7) (v := .ref aMnow) (C := RX8) (T := TX8) (N := 13) hx hb hts iw_X8_about_X8 hown hK.1 hP 0 rfl rfl 3 (by decide) (hts (.fieldLink RX8 13 "PinDeckModel" "now" "[I") (by decide +kernel)) (fun _ h9 => h9) rfl dX8_about_81 ?_
        refine lv_bipush (v := 52) hx hb dX8_about_84 (by decide) ?_
        refine k_iald (j := 52) hx hb hK.1 hP 1 0 rfl rfl (by decide) (by decide) dX8_about_86 ?_
        have ho := Option.some.inj hq
        subst ho
        exact hend _ _ _ _ hP hS dX8_about_87
      have hq := kite_f c0 hq
      by_cases c1 : x1 = 1
      · have hq := kite_t c1 hq
        refine lv_tableIn (off := 61) (tgt := 88) hx hb dX8_about_27 (by rw [c1]; decide) (by rw [c1]; decide) (by rw [c1]; decide +kernel) (by decide) ?_
        refine lv_aload_n hx hb dX8_about_88 rfl (lv_at hl 0 rfl) ?_
        refine va_get (D := D) (ci := 7) (v := .ref aMnow) (C := RX8) (T := TX8) (N := 13) hx hb hts iw_X8_about_X8 hown hK.1 hP 0 rfl rfl 3 (by decide) (hts (.fieldLink RX8 13 "PinDeckModel" "now" "[I") (by decide +kernel)) (fun _ h9 => h9) rfl dX8_about_89 ?_
        obtain ⟨o92, ho92, hq⟩ := kbind hq
        refine kc_Si (av := [.ref aMnow]) (rest := []) hF hK hG hA (mk_X8_isOver l D cI aMnow H.size mnow o92 ho92) (va_cwS 1 hts gX8_about_X8_isOver rfl rfl rfl (by decide +kernel) ⟨Nat.le_of_ble_eq_true rfl, Nat.le_of_ble_eq_true rfl⟩) hP hD hS [1] (by decide) rfl rfl rfl hl.1 rfl (Nat.le_of_ble_eq_true rfl) ⟨Nat.zero_le _, Nat.zero_le _⟩ dX8_about_92 (fun H locs hP hD hS => ?_)
        have hP : va_P D vwCl [(aM, .inr (7, [.int o18.2, .ref aMtext, .int msize, .ref aMnow, .ref aMtrial, .ref aMdiary, .int macts, .ref aMkept, .ref aMisKept, .ref aMside, .ref aMwas, .int mspot, .int mout])), (aMnow, .inl (cI 0, 79, .inl mnow))] H := hP
        have hD : va_D A [(aM, .inr (7, [.int o18.2, .ref aMtext, .int msize, .ref aMnow, .ref aMtrial, .ref aMdiary, .int macts, .ref aMkept, .ref aMisKept, .ref aMside, .ref aMwas, .int mspot, .int mout])), (aMnow, .inl (cI 0, 79, .inl mnow))] := hD
        refine lv_if_eq (tgt := 102) hx hb dX8_about_95 (by decide) (fun c9 => ?_) (fun c9 => ?_)
        · have hq := kite_t c9 hq
          refine lv_aload_n hx hb dX8_about_102 rfl (lv_at hl 0 rfl) ?_
          refine va_get (D := D) (ci := 7) (v := .ref aMnow) (C := RX8) (T := TX8) (N := 13) hx hb hts iw_X8_about_X8 hown hK.1 hP 0 rfl rfl 3 (by decide) (hts (.fieldLink RX8 13 "PinDeckModel" "now" "[I") (by decide +kernel)) (fun _ h9 => h9) rfl dX8_about_103 ?_
          refine lv_bipush (v := 63) hx hb dX8_about_106 (by decide) ?_
          refine lv_aload_n hx hb dX8_about_108 rfl (lv_at hl 0 rfl) ?_
          refine va_get (D := D) (ci := 7) (v := .ref aMnow) (C := RX8) (T := TX8) (N := 13) hx hb hts iw_X8_about_X8 hown hK.1 hP 0 rfl rfl 3 (by decide) (hts (.fieldLink RX8 13 "PinDeckModel" "now" "[I") (by decide +kernel)) (fun _ h9 => h9) rfl dX8_about_109 ?_
          refine lv_bipush (v := 52) hx hb dX8_about_112 (by decide) ?_
          refine k_iald (j := 52) hx hb hK.1 hP 1 0 rfl rfl (by decide) (by decide) dX8_about_114 ?_
          refine lv_iadd hx hb dX8_about_115 ?_
          obtain ⟨hz, hq⟩ := kite_n hq
          refine k_iald (j := (((63 : Int32) + (mnow 52)).toNatClampNeg)) hx hb hK.1 hP 1 0 rfl rfl hz rfl dX8_about_116 ?_
          exact b_117  _ _ _ o18.2 (mnow (((63 : Int32) + (mnow 52)).toNatClampNeg)) hq hP hD hS (lv_sub hl [] rfl)
        · have hq := kite_f c9 hq
          refine lv_iconst (v := 0) hx hb dX8_about_98 (by decide) ?_
          refine lv_goto (tgt := 117) hx hb dX8_about_99 (by decide) ?_
          exact b_117  _ _ _ o18.2 (0 : Int32) hq hP hD hS (lv_sub hl [] rfl)
      have hq := kite_f c1 hq
      by_cases c2 : x1 = 2
      · have hq := kite_t c2 hq
        refine lv_tableIn (off := 91) (tgt := 118) hx hb dX8_about_27 (by rw [c2]; decide) (by rw [c2]; decide) (by rw [c2]; decide +kernel) (by decide) ?_
        refine lv_aload_n hx hb dX8_about_118 rfl (lv_at hl 0 rfl) ?_
        refine va_get (D := D) (ci := 7) (v := .ref aMnow) (C := RX8) (T := TX8) (N := 13) hx hb hts iw_X8_about_X8 hown hK.1 hP 0 rfl rfl 3 (by decide) (hts (.fieldLink RX8 13 "PinDeckModel" "now" "[I") (by decide +kernel)) (fun _ h9 => h9) rfl dX8_about_119 ?_
        refine lv_bipush (v := 51) hx hb dX8_about_122 (by decide) ?_
        refine k_iald (j := 51) hx hb hK.1 hP 1 0 rfl rfl (by decide) (by decide) dX8_about_124 ?_
        have ho := Option.some.inj hq
        subst ho
        exact hend _ _ _ _ hP hS dX8_about_125
      have hq := kite_f c2 hq
      by_cases c3 : x1 = 3
      · have hq := kite_t c3 hq
        refine lv_tableIn (off := 99) (tgt := 126) hx hb dX8_about_27 (by rw [c3]; decide) (by rw [c3]; decide) (by rw [c3]; decide +kernel) (by decide) ?_
        refine lv_aload_n hx hb dX8_about_126 rfl (lv_at hl 0 rfl) ?_
        refine va_get (D := D) (ci := 7) (v := .ref aMnow) (C := RX8) (T := TX8) (N := 13) hx hb hts iw_X8_about_X8 hown hK.1 hP 0 rfl rfl 3 (by decide) (hts (.fieldLink RX8 13 "PinDeckModel" "now" "[I") (by decide +kernel)) (fun _ h9 => h9) rfl dX8_about_127 ?_
        obtain ⟨o130, ho130, hq⟩ := kbind hq
        refine kc_Si (av := [.ref aMnow]) (rest := []) hF hK hG hA (mk_X8_points l D cI aMnow H.size mnow o130 ho130) (va_cwS 1 hts gX8_about_X8_points rfl rfl rfl (by decide +kernel) ⟨Nat.le_of_ble_eq_true rfl, Nat.le_of_ble_eq_true rfl⟩) hP hD hS [1] (by decide) rfl rfl rfl hl.1 rfl (Nat.le_of_ble_eq_true rfl) ⟨Nat.zero_le _, Nat.zero_le _⟩ dX8_about_130 (fun H locs hP hD hS => ?_)
        have hP : va_P D vwCl [(aM, .inr (7, [.int o18.2, .ref aMtext, .int msize, .ref aMnow, .ref aMtrial, .ref aMdiary, .int macts, .ref aMkept, .ref aMisKept, .ref aMside, .ref aMwas, .int mspot, .int mout])), (aMnow, .inl (cI 0, 79, .inl mnow))] H := hP
        have hD : va_D A [(aM, .inr (7, [.int o18.2, .ref aMtext, .int msize, .ref aMnow, .ref aMtrial, .ref aMdiary, .int macts, .ref aMkept, .ref aMisKept, .ref aMside, .ref aMwas, .int mspot, .int mout])), (aMnow, .inl (cI 0, 79, .inl mnow))] := hD
        have ho := Option.some.inj hq
        subst ho
        exact hend _ _ _ _ hP hS dX8_about_133
      have hq := kite_f c3 hq
      by_cases c4 : x1 = 4
      · have hq := kite_t c4 hq
        refine lv_tableIn (off := 139) (tgt := 166) hx hb dX8_about_27 (by rw [c4]; decide) (by rw [c4]; decide) (by rw [c4]; decide +kernel) (by decide) ?_
        refine lv_aload_n hx hb dX8_about_166 rfl (lv_at hl 0 rfl) ?_
        refine va_get (D := D) (ci := 7) (v := .ref aMnow) (C := RX8) (T := TX8) (N := 13) hx hb hts iw_X8_about_X8 hown hK.1 hP 0 rfl rfl 3 (by decide) (hts (.fieldLink RX8 13 "PinDeckModel" "now" "[I") (by decide +kernel)) (fun _ h9 => h9) rfl dX8_about_167 ?_
        refine lv_bipush (v := 73) hx hb dX8_about_170 (by decide) ?_
        refine lv_iload_n hx hb dX8_about_172 rfl (lv_at hl 1 rfl) ?_
        refine lv_iadd hx hb dX8_about_173 ?_
        refine lv_iconst (v := 4) hx hb dX8_about_174 (by decide) ?_
        refine lv_isub hx hb dX8_about_175 ?_
        obtain ⟨hz, hq⟩ := kite_n hq
        refine k_iald (j := ((((73 : Int32) + x1) - (4 : Int32)).toNatClampNeg)) hx hb hK.1 hP 1 0 rfl rfl hz rfl dX8_about_176 ?_
        have ho := Option.some.inj hq
        subst ho
        exact hend _ _ _ _ hP hS dX8_about_177
      have hq := kite_f c4 hq
      by_cases c5 : x1 = 5
      · have hq := kite_t c5 hq
        refine lv_tableIn (off := 139) (tgt := 166) hx hb dX8_about_27 (by rw [c5]; decide) (by rw [c5]; decide) (by rw [c5]; decide +kernel) (by decide) ?_
        refine lv_aload_n hx hb dX8_about_166 rfl (lv_at hl 0 rfl) ?_
        refine va_get (D := D) (ci := 7) (v := .ref aMnow) (C := RX8) (T := TX8) (N := 13) hx hb hts iw_X8_about_X8 hown hK.1 hP 0 rfl rfl 3 (by decide) (hts (.fieldLink RX8 13 "PinDeckModel" "now" "[I") (by decide +kernel)) (fun _ h9 => h9) rfl dX8_about_167 ?_
        refine lv_bipush (v := 73) hx hb dX8_about_170 (by decide) ?_
        refine lv_iload_n hx hb dX8_about_172 rfl (lv_at hl 1 rfl) ?_
        refine lv_iadd hx hb dX8_about_173 ?_
        refine lv_iconst (v := 4) hx hb dX8_about_174 (by decide) ?_
        refine lv_isub hx hb dX8_about_175 ?_
        obtain ⟨hz, hq⟩ := kite_n hq
        refine k_iald (j := ((((73 : Int32) + x1) - (4 : Int32)).toNatClampNeg)) hx hb hK.1 hP 1 0 rfl rfl hz rfl dX8_about_176 ?_
        have ho := Option.some.inj hq
        subst ho
        exact hend _ _ _ _ hP hS dX8_about_177
      have hq := kite_f c5 hq
      by_cases c6 : x1 = 6
      · have hq := kite_t c6 hq
        refine lv_tableIn (off := 139) (tgt := 166) hx hb dX8_about_27 (by rw [c6]; decide) (by rw [c6]; decide) (by rw [c6]; decide +kernel) (by decide) ?_
        refine lv_aload_n hx hb dX8_about_166 rfl (lv_at hl 0 rfl) ?_
        refine va_get (D := D) (ci := 7) (v := .ref aMnow) (C := RX8) (T := TX8) (N := 13) hx hb hts iw_X8_about_X8 hown hK.1 hP 0 rfl rfl 3 (by decide) (hts (.fieldLink RX8 13 "PinDeckModel" "now" "[I") (by decide +kernel)) (fun _ h9 => h9) rfl dX8_about_167 ?_
        refine lv_bipush (v := 73) hx hb dX8_about_170 (by decide) ?_
        refine lv_iload_n hx hb dX8_about_172 rfl (lv_at hl 1 rfl) ?_
        refine lv_iadd hx hb dX8_about_173 ?_
        refine lv_iconst (v := 4) hx hb dX8_about_174 (by decide) ?_
        refine lv_isub hx hb dX8_about_175 ?_
        obtain ⟨hz, hq⟩ := kite_n hq
        refine k_iald (j := ((((73 : Int32) + x1) - (4 : Int32)).toNatClampNeg)) hx hb hK.1 hP 1 0 rfl rfl hz rfl dX8_about_176 ?_
        have ho := Option.some.inj hq
        subst ho
        exact hend _ _ _ _ hP hS dX8_about_177
      have hq := kite_f c6 hq
      by_cases c7 : x1 = 7
      · have hq := kite_t c7 hq
        refine lv_tableIn (off := 107) (tgt := 134) hx hb dX8_about_27 (by rw [c7]; decide) (by rw [c7]; decide) (by rw [c7]; decide +kernel) (by decide) ?_
        refine lv_aload_n hx hb dX8_about_134 rfl (lv_at hl 0 rfl) ?_
        refine va_get (D := D) (ci := 7) (v := .ref aMnow) (C := RX8) (T := TX8) (N := 13) hx hb hts iw_X8_about_X8 hown hK.1 hP 0 rfl rfl 3 (by decide) (hts (.fieldLink RX8 13 "PinDeckModel" "now" "[I") (by decide +kernel)) (fun _ h9 => h9) rfl dX8_about_135 ?_
        obtain ⟨o138, ho138, hq⟩ := kbind hq
        refine kc_Si (av := [.ref aMnow]) (rest := []) hF hK hG hA (mk_X8_toldOf l D cI aMnow H.size mnow o138 ho138) (va_cwS 1 hts gX8_about_X8_toldOf rfl rfl rfl (by decide +kernel) ⟨Nat.le_of_ble_eq_true rfl, Nat.le_of_ble_eq_true rfl⟩) hP hD hS [1] (by decide) rfl rfl rfl hl.1 rfl (Nat.le_of_ble_eq_true rfl) ⟨Nat.zero_le _, Nat.zero_le _⟩ dX8_about_138 (fun H locs hP hD hS => ?_)
        have hP : va_P D vwCl [(aM, .inr (7, [.int o18.2, .ref aMtext, .int msize, .ref aMnow, .ref aMtrial, .ref aMdiary, .int macts, .ref aMkept, .ref aMisKept, .ref aMside, .ref aMwas, .int mspot, .int mout])), (aMnow, .inl (cI 0, 79, .inl mnow))] H := hP
        have hD : va_D A [(aM, .inr (7, [.int o18.2, .ref aMtext, .int msize, .ref aMnow, .ref aMtrial, .ref aMdiary, .int macts, .ref aMkept, .ref aMisKept, .ref aMside, .ref aMwas, .int mspot, .int mout])), (aMnow, .inl (cI 0, 79, .inl mnow))] := hD
        have ho := Option.some.inj hq
        subst ho
        exact hend _ _ _ _ hP hS dX8_about_141
      have hq := kite_f c7 hq
      by_cases c8 : x1 = 8
      · have hq := kite_t c8 hq
        refine lv_tableIn (off := 115) (tgt := 142) hx hb dX8_about_27 (by rw [c8]; decide) (by rw [c8]; decide) (by rw [c8]; decide +kernel) (by decide) ?_
        refine lv_aload_n hx hb dX8_about_142 rfl (lv_at hl 0 rfl) ?_
        refine va_get (D := D) (ci := 7) (v := .ref aMnow) (C := RX8) (T := TX8) (N := 13) hx hb hts iw_X8_about_X8 hown hK.1 hP 0 rfl rfl 3 (by decide) (hts (.fieldLink RX8 13 "PinDeckModel" "now" "[I") (by decide +kernel)) (fun _ h9 => h9) rfl dX8_about_143 ?_
        obtain ⟨o146, ho146, hq⟩ := kbind hq
        refine kc_Si (av := [.ref aMnow]) (rest := []) hF hK hG hA (mk_X8_standing l D cI aMnow H.size mnow o146 ho146) (va_cwS 1 hts gX8_about_X8_standing rfl rfl rfl (by decide +kernel) ⟨Nat.le_of_ble_eq_true rfl, Nat.le_of_ble_eq_true rfl⟩) hP hD hS [1] (by decide) rfl rfl rfl hl.1 rfl (Nat.le_of_ble_eq_true rfl) ⟨Nat.zero_le _, Nat.zero_le _⟩ dX8_about_146 (fun H locs hP hD hS => ?_)
        have hP : va_P D vwCl [(aM, .inr (7, [.int o18.2, .ref aMtext, .int msize, .ref aMnow, .ref aMtrial, .ref aMdiary, .int macts, .ref aMkept, .ref aMisKept, .ref aMside, .ref aMwas, .int mspot, .int mout])), (aMnow, .inl (cI 0, 79, .inl mnow))] H := hP
        have hD : va_D A [(aM, .inr (7, [.int o18.2, .ref aMtext, .int msize, .ref aMnow, .ref aMtrial, .ref aMdiary, .int macts, .ref aMkept, .ref aMisKept, .ref aMside, .ref aMwas, .int mspot, .int mout])), (aMnow, .inl (cI 0, 79, .inl mnow))] := hD
        have ho := Option.some.inj hq
        subst ho
        exact hend _ _ _ _ hP hS dX8_about_149
      have hq := kite_f c8 hq
      by_cases c9 : x1 = 9
      · have hq := kite_t c9 hq
        refine lv_tableIn (off := 123) (tgt := 150) hx hb dX8_about_27 (by rw [c9]; decide) (by rw [c9]; decide) (by rw [c9]; decide +kernel) (by decide) ?_
        refine lv_aload_n hx hb dX8_about_150 rfl (lv_at hl 0 rfl) ?_
        refine va_get (D := D) (ci := 7) (v := .ref aMnow) (C := RX8) (T := TX8) (N := 13) hx hb hts iw_X8_about_X8 hown hK.1 hP 0 rfl rfl 3 (by decide) (hts (.fieldLink RX8 13 "PinDeckModel" "now" "[I") (by decide +kernel)) (fun _ h9 => h9) rfl dX8_about_151 ?_
        obtain ⟨o154, ho154, hq⟩ := kbind hq
        refine kc_Si (av := [.ref aMnow]) (rest := []) hF hK hG hA (mk_X8_isOver l D cI aMnow H.size mnow o154 ho154) (va_cwS 1 hts gX8_about_X8_isOver rfl rfl rfl (by decide +kernel) ⟨Nat.le_of_ble_eq_true rfl, Nat.le_of_ble_eq_true rfl⟩) hP hD hS [1] (by decide) rfl rfl rfl hl.1 rfl (Nat.le_of_ble_eq_true rfl) ⟨Nat.zero_le _, Nat.zero_le _⟩ dX8_about_154 (fun H locs hP hD hS => ?_)
        have hP : va_P D vwCl [(aM, .inr (7, [.int o18.2, .ref aMtext, .int msize, .ref aMnow, .ref aMtrial, .ref aMdiary, .int macts, .ref aMkept, .ref aMisKept, .ref aMside, .ref aMwas, .int mspot, .int mout])), (aMnow, .inl (cI 0, 79, .inl mnow))] H := hP
        have hD : va_D A [(aM, .inr (7, [.int o18.2, .ref aMtext, .int msize, .ref aMnow, .ref aMtrial, .ref aMdiary, .int macts, .ref aMkept, .ref aMisKept, .ref aMside, .ref aMwas, .int mspot, .int mout])), (aMnow, .inl (cI 0, 79, .inl mnow))] := hD
        refine lv_if_eq (tgt := 164) hx hb dX8_about_157 (by decide) (fun c9 => ?_) (fun c9 => ?_)
        · have hq := kite_t c9 hq
          refine lv_iconst (v := 0) hx hb dX8_about_164 (by decide) ?_
          exact b_165  _ _ _ o18.2 (0 : Int32) hq hP hD hS (lv_sub hl [] rfl)
        · have hq := kite_f c9 hq
          refine lv_iconst (v := 1) hx hb dX8_about_160 (by decide) ?_
          refine lv_goto (tgt := 165) hx hb dX8_about_161 (by decide) ?_
          exact b_165  _ _ _ o18.2 (1 : Int32) hq hP hD hS (lv_sub hl [] rfl)
      have hq := kite_f c9 hq
      have hsw : (x1).toInt < 0 ∨ 9 < (x1).toInt := by
        refine Decidable.byContradiction fun hn => ?_
        have h9 : (x1).toInt = 0 ∨ (x1).toInt = 1 ∨ (x1).toInt = 2 ∨ (x1).toInt = 3 ∨ (x1).toInt = 4 ∨ (x1).toInt = 5 ∨ (x1).toInt = 6 ∨ (x1).toInt = 7 ∨ (x1).toInt = 8 ∨ (x1).toInt = 9 := by omega
        rcases h9 with h9 | h9 | h9 | h9 | h9 | h9 | h9 | h9 | h9 | h9
        · exact c0 (Int32.toInt_inj.mp (h9.trans (by decide)))
        · exact c1 (Int32.toInt_inj.mp (h9.trans (by decide)))
        · exact c2 (Int32.toInt_inj.mp (h9.trans (by decide)))
        · exact c3 (Int32.toInt_inj.mp (h9.trans (by decide)))
        · exact c4 (Int32.toInt_inj.mp (h9.trans (by decide)))
        · exact c5 (Int32.toInt_inj.mp (h9.trans (by decide)))
        · exact c6 (Int32.toInt_inj.mp (h9.trans (by decide)))
        · exact c7 (Int32.toInt_inj.mp (h9.trans (by decide)))
        · exact c8 (Int32.toInt_inj.mp (h9.trans (by decide)))
        · exact c9 (Int32.toInt_inj.mp (h9.trans (by decide)))
      refine lv_tableOut (tgt := 166) hx hb dX8_about_27 hsw (by decide) ?_
      refine lv_aload_n hx hb dX8_about_166 rfl (lv_at hl 0 rfl) ?_
      refine va_get (D := D) (ci := 7) (v := .ref aMnow) (C := RX8) (T := TX8) (N := 13) hx hb hts iw_X8_about_X8 hown hK.1 hP 0 rfl rfl 3 (by decide) (hts (.fieldLink RX8 13 "PinDeckModel" "now" "[I") (by decide +kernel)) (fun _ h9 => h9) rfl dX8_about_167 ?_
      refine lv_bipush (v := 73) hx hb dX8_about_170 (by decide) ?_
      refine lv_iload_n hx hb dX8_about_172 rfl (lv_at hl 1 rfl) ?_
      refine lv_iadd hx hb dX8_about_173 ?_
      refine lv_iconst (v := 4) hx hb dX8_about_174 (by decide) ?_
      refine lv_isub hx hb dX8_about_175 ?_
      obtain ⟨hz, hq⟩ := kite_n hq
      refine k_iald (j := ((((73 : Int32) + x1) - (4 : Int32)).toNatClampNeg)) hx hb hK.1 hP 1 0 rfl rfl hz rfl dX8_about_176 ?_
      have ho := Option.some.inj hq
      subst ho
      exact hend _ _ _ _ hP hS dX8_about_177
    · have hq := kite_f c9 hq
      refine lv_iconst (v := 0) hx hb dX8_about_24 (by decide) ?_
      have ho := Option.some.inj hq
      subst ho
      exact hend _ _ _ _ hP hS dX8_about_25
  refine lv_aload_n hx hb dX8_about_0 rfl (lv_at hl 0 rfl) ?_
  refine lv_iload_n hx hb dX8_about_1 rfl (lv_at hl 1 rfl) ?_
  refine lv_i2l (v := (x1).toInt64) hx hb dX8_about_2 rfl ?_
  refine lv_lconst (v := 0) hx hb dX8_about_3 (by decide) ?_
  refine lv_ldc2 (v := 9) hx hb hown (hts (.constantLong RX8 46 (9 : Int64)) (by decide +kernel)) dX8_about_4 ?_
  obtain ⟨o7, ho7, hq⟩ := kbind hq
  refine kc_Si (av := [.long ((x1).toInt64), .long (0 : Int64), .long (9 : Int64)]) (rest := [.ref aM]) hF hK hG hA (mk_X8_in l D cI s.heap.size ((x1).toInt64) (0 : Int64) (9 : Int64) o7 ho7) (va_cwS 3 hts gX8_about_X8_in rfl rfl rfl (by decide +kernel) ⟨Nat.le_of_ble_eq_true rfl, Nat.le_of_ble_eq_true rfl⟩) hP hD hS [] (by decide) rfl rfl rfl hl.1 rfl (Nat.le_of_ble_eq_true rfl) ⟨Nat.zero_le _, Nat.zero_le _⟩ dX8_about_7 (fun H locs hP hD hS => ?_)
  have hP : va_P D vwCl [(aM, .inr (7, [.int mref, .ref aMtext, .int msize, .ref aMnow, .ref aMtrial, .ref aMdiary, .int macts, .ref aMkept, .ref aMisKept, .ref aMside, .ref aMwas, .int mspot, .int mout])), (aMnow, .inl (cI 0, 79, .inl mnow))] H := hP
  have hD : va_D A [(aM, .inr (7, [.int mref, .ref aMtext, .int msize, .ref aMnow, .ref aMtrial, .ref aMdiary, .int macts, .ref aMkept, .ref aMisKept, .ref aMside, .ref aMwas, .int mspot, .int mout])), (aMnow, .inl (cI 0, 79, .inl mnow))] := hD
  refine lv_if_eq (tgt := 17) hx hb dX8_about_10 (by decide) (fun c9 => ?_) (fun c9 => ?_)
  · have hq := kite_t c9 hq
    refine lv_iconst (v := 1) hx hb dX8_about_17 (by decide) ?_
    exact b_18  _ _ _ mref x1 (1 : Int32) hq hP hD hS (lv_sub hl [0, 1] rfl)
  · have hq := kite_f c9 hq
    refine lv_iconst (v := 0) hx hb dX8_about_13 (by decide) ?_
    refine lv_goto (tgt := 18) hx hb dX8_about_14 (by decide) ?_
    exact b_18  _ _ _ mref x1 (0 : Int32) hq hP hD hS (lv_sub hl [0, 1] rfl)

theorem iw_X8_pin_X8 : ∀ w ∈ wsX80, w ∈ wsX8_pin := by decide +kernel
set_option maxHeartbeats 4000000 in
set_option maxRecDepth 100000 in
theorem mk_X8_pin (l : Launch) (D : va_G) (cI : Nat → ClassId) (aM aMtext aMnow aMtrial aMdiary aMkept aMisKept aMside aMwas : Nat) (sz : Nat) (mref : Int32) (msize : Int32) (macts : Int32) (mspot : Int32) (mout : Int32) (mnow : kF) (x1 : Int32) (x2 : Int32) (o : Int32 × Int32) (hq : fn_X8_pin mref mnow x1 x2 = some o) : Met l yX8_pin wsX8_pin ({ frames := 2, cells := 0, slots := 0, locals := 45 }) (kPc D cI [(aM, .inr (7, [.int mref, .ref aMtext, .int msize, .ref aMnow, .ref aMtrial, .ref aMdiary, .int macts, .ref aMkept, .ref aMisKept, .ref aMside, .ref aMwas, .int mspot, .int mout])), (aMnow, .inl (cI 0, 79, .inl mnow))] sz [.ref aM, .int x1, .int x2]) (kQi D [(aM, .inr (7, [.int mref, .ref aMtext, .int msize, .ref aMnow, .ref aMtrial, .ref aMdiary, .int macts, .ref aMkept, .ref aMisKept, .ref aMside, .ref aMwas, .int mspot, .int mout])), (aMnow, .inl (cI 0, 79, .inl mnow))] [(aM, .inr (7, [.int o.2, .ref aMtext, .int msize, .ref aMnow, .ref aMtrial, .ref aMdiary, .int macts, .ref aMkept, .ref aMisKept, .ref aMside, .ref aMwas, .int mspot, .int mout])), (aMnow, .inl (cI 0, 79, .inl mnow))] sz o.1) 0 0 (va_A [(aM, .inr (7, [.int mref, .ref aMtext, .int msize, .ref aMnow, .ref aMtrial, .ref aMdiary, .int macts, .ref aMkept, .ref aMisKept, .ref aMside, .ref aMwas, .int mspot, .int mout])), (aMnow, .inl (cI 0, 79, .inl mnow))] sz) := by
  refine kM_i (cc := cX8_pin) (maxL := 3) (by decide +kernel) rfl (Nat.le_of_ble_eq_true rfl) ?_
  intro p e s m args below meth c A Q hF hK hG hD hA hend ls hP hS hl
  obtain ⟨hx, hb, hml, hown, hts⟩ := id hF
  have hl : lv_has ls 3 [(0, .ref aM), (1, .int x1), (2, .int x2)] := hl
  have b_94 : ∀ (H : Heap) (locs : List Loc) (ls : Array Slot) (mref : Int32) (k0 : Int32), fn_X8_pin_94 mref mnow k0 = some o → va_P D vwCl [(aM, .inr (7, [.int mref, .ref aMtext, .int msize, .ref aMnow, .ref aMtrial, .ref aMdiary, .int macts, .ref aMkept, .ref aMisKept, .ref aMside, .ref aMwas, .int mspot, .int mout])), (aMnow, .inl (cI 0, 79, .inl mnow))] H → va_D A [(aM, .inr (7, [.int mref, .ref aMtext, .int msize, .ref aMnow, .ref aMtrial, .ref aMdiary, .int macts, .ref aMkept, .ref aMisKept, .ref aMside, .ref aMwas, .int mspot, .int mout])), (aMnow, .inl (cI 0, 79, .inl mnow))] → va_S A s.heap H locs → lv_has ls 3 [] → W p l e { frames := 2, cells := 0, slots := 0, locals := 45 } s m args below meth c H locs 0 0 Q (F0 m 94 ls [.int k0]) := by
    intro H locs ls mref k0
    intro hq hP hD hS hl
    have ho := Option.some.inj hq
    subst ho
    exact hend _ _ _ _ hP hS dX8_pin_94
  have b_29 : ∀ (H : Heap) (locs : List Loc) (ls : Array Slot) (mref : Int32) (x1 : Int32) (x2 : Int32) (k1 : Int32), fn_X8_pin_29 mref mnow x1 x2 k1 = some o → va_P D vwCl [(aM, .inr (7, [.int mref, .ref aMtext, .int msize, .ref aMnow, .ref aMtrial, .ref aMdiary, .int macts, .ref aMkept, .ref aMisKept, .ref aMside, .ref aMwas, .int mspot, .int mout])), (aMnow, .inl (cI 0, 79, .inl mnow))] H → va_D A [(aM, .inr (7, [.int mref, .ref aMtext, .int msize, .ref aMnow, .ref aMtrial, .ref aMdiary, .int macts, .ref aMkept, .ref aMisKept, .ref aMside, .ref aMwas, .int mspot, .int mout])), (aMnow, .inl (cI 0, 79, .inl mnow))] → va_S A s.heap H locs → lv_has ls 3 [(0, .ref aM), (1, .int x1), (2, .int x2)] → W p l e { frames := 2, cells := 0, slots := 0, locals := 45 } s m args below meth c H locs 0 0 Q (F0 m 29 ls [.int k1, .ref aM]) := by
    intro H locs ls mref x1 x2 k1
    intro hq hP hD hS hl
    obtain ⟨o29, ho29, hq⟩ := kbind hq
    refine kc_Vi (av := [.int k1]) (rest := []) hF hK hG hA (mk_X8_refused l D cI aM aMtext aMnow aMtrial aMdiary aMkept aMisKept aMside aMwas H.size mref msize macts mspot mout k1 o29 ho29) (cwV 1 hts gX8_pin_X8_refused rfl rfl rfl (by decide +kernel) ⟨Nat.le_of_ble_eq_true rfl, Nat.le_of_ble_eq_true rfl⟩) hP hD hS [0] (by decide) rfl rfl 0 rfl rfl rfl hl.1 rfl (Nat.le_of_ble_eq_true rfl) ⟨Nat.zero_le _, Nat.zero_le _⟩ dX8_pin_29 (fun H locs hP hD hS => ?_)
    have hP : va_P D vwCl [(aM, .inr (7, [.int o29.2, .ref aMtext, .int msize, .ref aMnow, .ref aMtrial, .ref aMdiary, .int macts, .ref aMkept, .ref aMisKept, .ref aMside, .ref aMwas, .int mspot, .int mout])), (aMnow, .inl (cI 0, 79, .inl mnow))] H := hP
    have hD : va_D A [(aM, .inr (7, [.int o29.2, .ref aMtext, .int msize, .ref aMnow, .ref aMtrial, .ref aMdiary, .int macts, .ref aMkept, .ref aMisKept, .ref aMside, .ref aMwas, .int mspot, .int mout])), (aMnow, .inl (cI 0, 79, .inl mnow))] := hD
    refine lv_if_eq (tgt := 37) hx hb dX8_pin_32 (by decide) (fun c9 => ?_) (fun c9 => ?_)
    · have hq := kite_t c9 hq
      refine lv_iload_n hx hb dX8_pin_37 rfl (lv_at hl 2 rfl) ?_
      refine lv_if_ne (tgt := 52) hx hb dX8_pin_38 (by decide) (fun c9 => ?_) (fun c9 => ?_)
      · have hq := kite_f c9 hq
        refine lv_iload_n hx hb dX8_pin_52 rfl (lv_at hl 2 rfl) ?_
        refine lv_iconst (v := 1) hx hb dX8_pin_53 (by decide) ?_
        refine lv_icmp_ne (tgt := 69) hx hb dX8_pin_54 (by decide) (fun c9 => ?_) (fun c9 => ?_)
        · have hq := kite_f c9 hq
          refine lv_iload_n hx hb dX8_pin_69 rfl (lv_at hl 2 rfl) ?_
          refine lv_iconst (v := 2) hx hb dX8_pin_70 (by decide) ?_
          refine lv_icmp_ne (tgt := 85) hx hb dX8_pin_71 (by decide) (fun c9 => ?_) (fun c9 => ?_)
          · have hq := kite_f c9 hq
            refine lv_aload_n hx hb dX8_pin_85 rfl (lv_at hl 0 rfl) ?_
            refine va_get (D := D) (ci := 7) (v := .ref aMnow) (C := RX8) (T := TX8) (N := 13) hx hb hts iw_X8_pin_X8 hown hK.1 hP 0 rfl rfl 3 (by decide) (hts (.fieldLink RX8 13 "PinDeckModel" "now" "[I") (by decide +kernel)) (fun _ h9 => h9) rfl dX8_pin_86 ?_
            refine lv_bipush (v := 20) hx hb dX8_pin_89 (by decide) ?_
            refine lv_iload_n hx hb dX8_pin_91 rfl (lv_at hl 1 rfl) ?_
            refine lv_iadd hx hb dX8_pin_92 ?_
            obtain ⟨hz, hq⟩ := kite_n hq
            refine k_iald (j := (((20 : Int32) + x1).toNatClampNeg)) hx hb hK.1 hP 1 0 rfl rfl hz rfl dX8_pin_93 ?_
            exact b_94  _ _ _ o29.2 (mnow (((20 : Int32) + x1).toNatClampNeg)) hq hP hD hS (lv_sub hl [] rfl)
          · have hq := kite_t c9 hq
            refine lv_aload_n hx hb dX8_pin_74 rfl (lv_at hl 0 rfl) ?_
            refine va_get (D := D) (ci := 7) (v := .ref aMnow) (C := RX8) (T := TX8) (N := 13) hx hb hts iw_X8_pin_X8 hown hK.1 hP 0 rfl rfl 3 (by decide) (hts (.fieldLink RX8 13 "PinDeckModel" "now" "[I") (by decide +kernel)) (fun _ h9 => h9) rfl dX8_pin_75 ?_
            refine lv_iload_n hx hb dX8_pin_78 rfl (lv_at hl 1 rfl) ?_
            obtain ⟨o79, ho79, hq⟩ := kbind hq
            refine kc_Si (av := [.ref aMnow, .int x1]) (rest := []) hF hK hG hA (mk_X8_boardOf l D cI aMnow H.size mnow x1 o79 ho79) (va_cwS 2 hts gX8_pin_X8_boardOf rfl rfl rfl (by decide +kernel) ⟨Nat.le_of_ble_eq_true rfl, Nat.le_of_ble_eq_true rfl⟩) hP hD hS [1] (by decide) rfl rfl rfl hl.1 rfl (Nat.le_of_ble_eq_true rfl) ⟨Nat.zero_le _, Nat.zero_le _⟩ dX8_pin_79 (fun H locs hP hD hS => ?_)
            have hP : va_P D vwCl [(aM, .inr (7, [.int o29.2, .ref aMtext, .int msize, .ref aMnow, .ref aMtrial, .ref aMdiary, .int macts, .ref aMkept, .ref aMisKept, .ref aMside, .ref aMwas, .int mspot, .int mout])), (aMnow, .inl (cI 0, 79, .inl mnow))] H := hP
            have hD : va_D A [(aM, .inr (7, [.int o29.2, .ref aMtext, .int msize, .ref aMnow, .ref aMtrial, .ref aMdiary, .int macts, .ref aMkept, .ref aMisKept, .ref aMside, .ref aMwas, .int mspot, .int mout])), (aMnow, .inl (cI 0, 79, .inl mnow))] := hD
            refine lv_goto (tgt := 94) hx hb dX8_pin_82 (by decide) ?_
            exact b_94  _ _ _ o29.2 o79 hq hP hD hS (lv_sub hl [] rfl)
        · have hq := kite_t c9 hq
          refine lv_aload_n hx hb dX8_pin_57 rfl (lv_at hl 0 rfl) ?_
          refine va_get (D := D) (ci := 7) (v := .ref aMnow) (C := RX8) (T := TX8) (N := 13) hx hb hts iw_X8_pin_X8 hown hK.1 hP 0 rfl rfl 3 (by decide) (hts (.fieldLink RX8 13 "PinDeckModel" "now" "[I") (by decide +kernel)) (fun _ h9 => h9) rfl dX8_pin_58 ?_
          refine lv_bipush (v := 10) hx hb dX8_pin_61 (by decide) ?_
          refine lv_iload_n hx hb dX8_pin_63 rfl (lv_at hl 1 rfl) ?_
          refine lv_iadd hx hb dX8_pin_64 ?_
          obtain ⟨hz, hq⟩ := kite_n hq
          refine k_iald (j := (((10 : Int32) + x1).toNatClampNeg)) hx hb hK.1 hP 1 0 rfl rfl hz rfl dX8_pin_65 ?_
          refine lv_goto (tgt := 94) hx hb dX8_pin_66 (by decide) ?_
          exact b_94  _ _ _ o29.2 (mnow (((10 : Int32) + x1).toNatClampNeg)) hq hP hD hS (lv_sub hl [] rfl)
      · have hq := kite_t c9 hq
        refine lv_aload_n hx hb dX8_pin_41 rfl (lv_at hl 0 rfl) ?_
        refine va_get (D := D) (ci := 7) (v := .ref aMnow) (C := RX8) (T := TX8) (N := 13) hx hb hts iw_X8_pin_X8 hown hK.1 hP 0 rfl rfl 3 (by decide) (hts (.fieldLink RX8 13 "PinDeckModel" "now" "[I") (by decide +kernel)) (fun _ h9 => h9) rfl dX8_pin_42 ?_
        refine lv_iconst (v := 0) hx hb dX8_pin_45 (by decide) ?_
        refine lv_iload_n hx hb dX8_pin_46 rfl (lv_at hl 1 rfl) ?_
        refine lv_iadd hx hb dX8_pin_47 ?_
        obtain ⟨hz, hq⟩ := kite_n hq
        refine k_iald (j := (((0 : Int32) + x1).toNatClampNeg)) hx hb hK.1 hP 1 0 rfl rfl hz rfl dX8_pin_48 ?_
        refine lv_goto (tgt := 94) hx hb dX8_pin_49 (by decide) ?_
        exact b_94  _ _ _ o29.2 (mnow (((0 : Int32) + x1).toNatClampNeg)) hq hP hD hS (lv_sub hl [] rfl)
    · have hq := kite_f c9 hq
      refine lv_iconst (v := 0) hx hb dX8_pin_35 (by decide) ?_
      have ho := Option.some.inj hq
      subst ho
      exact hend _ _ _ _ hP hS dX8_pin_36
  refine lv_aload_n hx hb dX8_pin_0 rfl (lv_at hl 0 rfl) ?_
  refine lv_iload_n hx hb dX8_pin_1 rfl (lv_at hl 1 rfl) ?_
  obtain ⟨o2, ho2, hq⟩ := kbind hq
  refine kc_Si (av := [.int x1]) (rest := [.ref aM]) hF hK hG hA (mk_X8_isPin l D cI s.heap.size x1 o2 ho2) (va_cwS 1 hts gX8_pin_X8_isPin rfl rfl rfl (by decide +kernel) ⟨Nat.le_of_ble_eq_true rfl, Nat.le_of_ble_eq_true rfl⟩) hP hD hS [] (by decide) rfl rfl rfl hl.1 rfl (Nat.le_of_ble_eq_true rfl) ⟨Nat.zero_le _, Nat.zero_le _⟩ dX8_pin_2 (fun H locs hP hD hS => ?_)
  have hP : va_P D vwCl [(aM, .inr (7, [.int mref, .ref aMtext, .int msize, .ref aMnow, .ref aMtrial, .ref aMdiary, .int macts, .ref aMkept, .ref aMisKept, .ref aMside, .ref aMwas, .int mspot, .int mout])), (aMnow, .inl (cI 0, 79, .inl mnow))] H := hP
  have hD : va_D A [(aM, .inr (7, [.int mref, .ref aMtext, .int msize, .ref aMnow, .ref aMtrial, .ref aMdiary, .int macts, .ref aMkept, .ref aMisKept, .ref aMside, .ref aMwas, .int mspot, .int mout])), (aMnow, .inl (cI 0, 79, .inl mnow))] := hD
  refine lv_if_ne (tgt := 12) hx hb dX8_pin_5 (by decide) (fun c9 => ?_) (fun c9 => ?_)
  · have hq := kite_f c9 hq
    refine lv_iload_n hx hb dX8_pin_12 rfl (lv_at hl 2 rfl) ?_
    refine lv_i2l (v := (x2).toInt64) hx hb dX8_pin_13 rfl ?_
    refine lv_lconst (v := 0) hx hb dX8_pin_14 (by decide) ?_
    refine lv_ldc2 (v := 3) hx hb hown (hts (.constantLong RX8 71 (3 : Int64)) (by decide +kernel)) dX8_pin_15 ?_
    obtain ⟨o18, ho18, hq⟩ := kbind hq
    refine kc_Si (av := [.long ((x2).toInt64), .long (0 : Int64), .long (3 : Int64)]) (rest := [.ref aM]) hF hK hG hA (mk_X8_in l D cI H.size ((x2).toInt64) (0 : Int64) (3 : Int64) o18 ho18) (va_cwS 3 hts gX8_pin_X8_in rfl rfl rfl (by decide +kernel) ⟨Nat.le_of_ble_eq_true rfl, Nat.le_of_ble_eq_true rfl⟩) hP hD hS [] (by decide) rfl rfl rfl hl.1 rfl (Nat.le_of_ble_eq_true rfl) ⟨Nat.zero_le _, Nat.zero_le _⟩ dX8_pin_18 (fun H locs hP hD hS => ?_)
    have hP : va_P D vwCl [(aM, .inr (7, [.int mref, .ref aMtext, .int msize, .ref aMnow, .ref aMtrial, .ref aMdiary, .int macts, .ref aMkept, .ref aMisKept, .ref aMside, .ref aMwas, .int mspot, .int mout])), (aMnow, .inl (cI 0, 79, .inl mnow))] H := hP
    have hD : va_D A [(aM, .inr (7, [.int mref, .ref aMtext, .int msize, .ref aMnow, .ref aMtrial, .ref aMdiary, .int macts, .ref aMkept, .ref aMisKept, .ref aMside, .ref aMwas, .int mspot, .int mout])), (aMnow, .inl (cI 0, 79, .inl mnow))] := hD
    refine lv_if_eq (tgt := 28) hx hb dX8_pin_21 (by decide) (fun c9 => ?_) (fun c9 => ?_)
    · have hq := kite_t c9 hq
      refine lv_iconst (v := 2) hx hb dX8_pin_28 (by decide) ?_
      exact b_29  _ _ _ mref x1 x2 (2 : Int32) hq hP hD hS (lv_sub hl [0, 1, 2] rfl)
    · have hq := kite_f c9 hq
      refine lv_iconst (v := 0) hx hb dX8_pin_24 (by decide) ?_
      refine lv_goto (tgt := 29) hx hb dX8_pin_25 (by decide) ?_
      exact b_29  _ _ _ mref x1 x2 (0 : Int32) hq hP hD hS (lv_sub hl [0, 1, 2] rfl)
  · have hq := kite_t c9 hq
    refine lv_iconst (v := 1) hx hb dX8_pin_8 (by decide) ?_
    refine lv_goto (tgt := 29) hx hb dX8_pin_9 (by decide) ?_
    exact b_29  _ _ _ mref x1 x2 (1 : Int32) hq hP hD hS (lv_sub hl [0, 1, 2] rfl)

theorem iw_X8_frame_X8 : ∀ w ∈ wsX80, w ∈ wsX8_frame := by decide +kernel
set_option maxHeartbeats 4000000 in
set_option maxRecDepth 100000 in
theorem mk_X8_frame (l : Launch) (D : va_G) (cI : Nat → ClassId) (aM aMtext aMnow aMtrial aMdiary aMkept aMisKept aMside aMwas : Nat) (sz : Nat) (mref : Int32) (msize : Int32) (macts : Int32) (mspot : Int32) (mout : Int32) (mnow : kF) (x1 : Int32) (x2 : Int32) (o : Int32 × Int32) (hq : fn_X8_frame mref mnow x1 x2 = some o) : Met l yX8_frame wsX8_frame ({ frames := 3, cells := 0, slots := 0, locals := 67 }) (kPc D cI [(aM, .inr (7, [.int mref, .ref aMtext, .int msize, .ref aMnow, .ref aMtrial, .ref aMdiary, .int macts, .ref aMkept, .ref aMisKept, .ref aMside, .ref aMwas, .int mspot, .int mout])), (aMnow, .inl (cI 0, 79, .inl mnow))] sz [.ref aM, .int x1, .int x2]) (kQi D [(aM, .inr (7, [.int mref, .ref aMtext, .int msize, .ref aMnow, .ref aMtrial, .ref aMdiary, .int macts, .ref aMkept, .ref aMisKept, .ref aMside, .ref aMwas, .int mspot, .int mout])), (aMnow, .inl (cI 0, 79, .inl mnow))] [(aM, .inr (7, [.int o.2, .ref aMtext, .int msize, .ref aMnow, .ref aMtrial, .ref aMdiary, .int macts, .ref aMkept, .ref aMisKept, .ref aMside, .ref aMwas, .int mspot, .int mout])), (aMnow, .inl (cI 0, 79, .inl mnow))] sz o.1) 0 0 (va_A [(aM, .inr (7, [.int mref, .ref aMtext, .int msize, .ref aMnow, .ref aMtrial, .ref aMdiary, .int macts, .ref aMkept, .ref aMisKept, .ref aMside, .ref aMwas, .int mspot, .int mout])), (aMnow, .inl (cI 0, 79, .inl mnow))] sz) := by
  refine kM_i (cc := cX8_frame) (maxL := 3) (by decide +kernel) rfl (Nat.le_of_ble_eq_true rfl) ?_
  intro p e s m args below meth c A Q hF hK hG hD hA hend ls hP hS hl
  obtain ⟨hx, hb, hml, hown, hts⟩ := id hF
  have hl : lv_has ls 3 [(0, .ref aM), (1, .int x1), (2, .int x2)] := hl
  have b_82 : ∀ (H : Heap) (locs : List Loc) (ls : Array Slot) (mref : Int32) (k0 : Int32), fn_X8_frame_82 mref mnow k0 = some o → va_P D vwCl [(aM, .inr (7, [.int mref, .ref aMtext, .int msize, .ref aMnow, .ref aMtrial, .ref aMdiary, .int macts, .ref aMkept, .ref aMisKept, .ref aMside, .ref aMwas, .int mspot, .int mout])), (aMnow, .inl (cI 0, 79, .inl mnow))] H → va_D A [(aM, .inr (7, [.int mref, .ref aMtext, .int msize, .ref aMnow, .ref aMtrial, .ref aMdiary, .int macts, .ref aMkept, .ref aMisKept, .ref aMside, .ref aMwas, .int mspot, .int mout])), (aMnow, .inl (cI 0, 79, .inl mnow))] → va_S A s.heap H locs → lv_has ls 3 [] → W p l e { frames := 3, cells := 0, slots := 0, locals := 67 } s m args below meth c H locs 0 0 Q (F0 m 82 ls [.int k0]) := by
    intro H locs ls mref k0
    intro hq hP hD hS hl
    have ho := Option.some.inj hq
    subst ho
    exact hend _ _ _ _ hP hS dX8_frame_82
  have b_34 : ∀ (H : Heap) (locs : List Loc) (ls : Array Slot) (mref : Int32) (x1 : Int32) (x2 : Int32) (k1 : Int32), fn_X8_frame_34 mref mnow x1 x2 k1 = some o → va_P D vwCl [(aM, .inr (7, [.int mref, .ref aMtext, .int msize, .ref aMnow, .ref aMtrial, .ref aMdiary, .int macts, .ref aMkept, .ref aMisKept, .ref aMside, .ref aMwas, .int mspot, .int mout])), (aMnow, .inl (cI 0, 79, .inl mnow))] H → va_D A [(aM, .inr (7, [.int mref, .ref aMtext, .int msize, .ref aMnow, .ref aMtrial, .ref aMdiary, .int macts, .ref aMkept, .ref aMisKept, .ref aMside, .ref aMwas, .int mspot, .int mout])), (aMnow, .inl (cI 0, 79, .inl mnow))] → va_S A s.heap H locs → lv_has ls 3 [(0, .ref aM), (1, .int x1), (2, .int x2)] → W p l e { frames := 3, cells := 0, slots := 0, locals := 67 } s m args below meth c H locs 0 0 Q (F0 m 34 ls [.int k1, .ref aM]) := by
    intro H locs ls mref x1 x2 k1
    intro hq hP hD hS hl
    obtain ⟨o34, ho34, hq⟩ := kbind hq
    refine kc_Vi (av := [.int k1]) (rest := []) hF hK hG hA (mk_X8_refused l D cI aM aMtext aMnow aMtrial aMdiary aMkept aMisKept aMside aMwas H.size mref msize macts mspot mout k1 o34 ho34) (cwV 1 hts gX8_frame_X8_refused rfl rfl rfl (by decide +kernel) ⟨Nat.le_of_ble_eq_true rfl, Nat.le_of_ble_eq_true rfl⟩) hP hD hS [0] (by decide) rfl rfl 0 rfl rfl rfl hl.1 rfl (Nat.le_of_ble_eq_true rfl) ⟨Nat.zero_le _, Nat.zero_le _⟩ dX8_frame_34 (fun H locs hP hD hS => ?_)
    have hP : va_P D vwCl [(aM, .inr (7, [.int o34.2, .ref aMtext, .int msize, .ref aMnow, .ref aMtrial, .ref aMdiary, .int macts, .ref aMkept, .ref aMisKept, .ref aMside, .ref aMwas, .int mspot, .int mout])), (aMnow, .inl (cI 0, 79, .inl mnow))] H := hP
    have hD : va_D A [(aM, .inr (7, [.int o34.2, .ref aMtext, .int msize, .ref aMnow, .ref aMtrial, .ref aMdiary, .int macts, .ref aMkept, .ref aMisKept, .ref aMside, .ref aMwas, .int mspot, .int mout])), (aMnow, .inl (cI 0, 79, .inl mnow))] := hD
    refine lv_if_eq (tgt := 42) hx hb dX8_frame_37 (by decide) (fun c9 => ?_) (fun c9 => ?_)
    · have hq := kite_t c9 hq
      refine lv_iload_n hx hb dX8_frame_42 rfl (lv_at hl 2 rfl) ?_
      refine lv_if_ne (tgt := 58) hx hb dX8_frame_43 (by decide) (fun c9 => ?_) (fun c9 => ?_)
      · have hq := kite_f c9 hq
        refine lv_iload_n hx hb dX8_frame_58 rfl (lv_at hl 2 rfl) ?_
        refine lv_iconst (v := 1) hx hb dX8_frame_59 (by decide) ?_
        refine lv_icmp_ne (tgt := 74) hx hb dX8_frame_60 (by decide) (fun c9 => ?_) (fun c9 => ?_)
        · have hq := kite_f c9 hq
          refine lv_aload_n hx hb dX8_frame_74 rfl (lv_at hl 0 rfl) ?_
          refine va_get (D := D) (ci := 7) (v := .ref aMnow) (C := RX8) (T := TX8) (N := 13) hx hb hts iw_X8_frame_X8 hown hK.1 hP 0 rfl rfl 3 (by decide) (hts (.fieldLink RX8 13 "PinDeckModel" "now" "[I") (by decide +kernel)) (fun _ h9 => h9) rfl dX8_frame_75 ?_
          refine lv_iload_n hx hb dX8_frame_78 rfl (lv_at hl 1 rfl) ?_
          obtain ⟨o79, ho79, hq⟩ := kbind hq
          refine kc_Si (av := [.ref aMnow, .int x1]) (rest := []) hF hK hG hA (mk_X8_markOf l D cI aMnow H.size mnow x1 o79 ho79) (va_cwS 2 hts gX8_frame_X8_markOf rfl rfl rfl (by decide +kernel) ⟨Nat.le_of_ble_eq_true rfl, Nat.le_of_ble_eq_true rfl⟩) hP hD hS [1] (by decide) rfl rfl rfl hl.1 rfl (Nat.le_of_ble_eq_true rfl) ⟨Nat.zero_le _, Nat.zero_le _⟩ dX8_frame_79 (fun H locs hP hD hS => ?_)
          have hP : va_P D vwCl [(aM, .inr (7, [.int o34.2, .ref aMtext, .int msize, .ref aMnow, .ref aMtrial, .ref aMdiary, .int macts, .ref aMkept, .ref aMisKept, .ref aMside, .ref aMwas, .int mspot, .int mout])), (aMnow, .inl (cI 0, 79, .inl mnow))] H := hP
          have hD : va_D A [(aM, .inr (7, [.int o34.2, .ref aMtext, .int msize, .ref aMnow, .ref aMtrial, .ref aMdiary, .int macts, .ref aMkept, .ref aMisKept, .ref aMside, .ref aMwas, .int mspot, .int mout])), (aMnow, .inl (cI 0, 79, .inl mnow))] := hD
          exact b_82  _ _ _ o34.2 o79 hq hP hD hS (lv_sub hl [] rfl)
        · have hq := kite_t c9 hq
          refine lv_aload_n hx hb dX8_frame_63 rfl (lv_at hl 0 rfl) ?_
          refine va_get (D := D) (ci := 7) (v := .ref aMnow) (C := RX8) (T := TX8) (N := 13) hx hb hts iw_X8_frame_X8 hown hK.1 hP 0 rfl rfl 3 (by decide) (hts (.fieldLink RX8 13 "PinDeckModel" "now" "[I") (by decide +kernel)) (fun _ h9 => h9) rfl dX8_frame_64 ?_
          refine lv_iload_n hx hb dX8_frame_67 rfl (lv_at hl 1 rfl) ?_
          obtain ⟨o68, ho68, hq⟩ := kbind hq
          refine kc_Si (av := [.ref aMnow, .int x1]) (rest := []) hF hK hG hA (mk_X8_pointsOf l D cI aMnow H.size mnow x1 o68 ho68) (va_cwS 2 hts gX8_frame_X8_pointsOf rfl rfl rfl (by decide +kernel) ⟨Nat.le_of_ble_eq_true rfl, Nat.le_of_ble_eq_true rfl⟩) hP hD hS [1] (by decide) rfl rfl rfl hl.1 rfl (Nat.le_of_ble_eq_true rfl) ⟨Nat.zero_le _, Nat.zero_le _⟩ dX8_frame_68 (fun H locs hP hD hS => ?_)
          have hP : va_P D vwCl [(aM, .inr (7, [.int o34.2, .ref aMtext, .int msize, .ref aMnow, .ref aMtrial, .ref aMdiary, .int macts, .ref aMkept, .ref aMisKept, .ref aMside, .ref aMwas, .int mspot, .int mout])), (aMnow, .inl (cI 0, 79, .inl mnow))] H := hP
          have hD : va_D A [(aM, .inr (7, [.int o34.2, .ref aMtext, .int msize, .ref aMnow, .ref aMtrial, .ref aMdiary, .int macts, .ref aMkept, .ref aMisKept, .ref aMside, .ref aMwas, .int mspot, .int mout])), (aMnow, .inl (cI 0, 79, .inl mnow))] := hD
          refine lv_goto (tgt := 82) hx hb dX8_frame_71 (by decide) ?_
          exact b_82  _ _ _ o34.2 o68 hq hP hD hS (lv_sub hl [] rfl)
      · have hq := kite_t c9 hq
        refine lv_aload_n hx hb dX8_frame_46 rfl (lv_at hl 0 rfl) ?_
        refine va_get (D := D) (ci := 7) (v := .ref aMnow) (C := RX8) (T := TX8) (N := 13) hx hb hts iw_X8_frame_X8 hown hK.1 hP 0 rfl rfl 3 (by decide) (hts (.fieldLink RX8 13 "PinDeckModel" "now" "[I") (by decide +kernel)) (fun _ h9 => h9) rfl dX8_frame_47 ?_
        refine lv_bipush (v := 63) hx hb dX8_frame_50 (by decide) ?_
        refine lv_iload_n hx hb dX8_frame_52 rfl (lv_at hl 1 rfl) ?_
        refine lv_iadd hx hb dX8_frame_53 ?_
        obtain ⟨hz, hq⟩ := kite_n hq
        refine k_iald (j := (((63 : Int32) + x1).toNatClampNeg)) hx hb hK.1 hP 1 0 rfl rfl hz rfl dX8_frame_54 ?_
        refine lv_goto (tgt := 82) hx hb dX8_frame_55 (by decide) ?_
        exact b_82  _ _ _ o34.2 (mnow (((63 : Int32) + x1).toNatClampNeg)) hq hP hD hS (lv_sub hl [] rfl)
    · have hq := kite_f c9 hq
      refine lv_iconst (v := 0) hx hb dX8_frame_40 (by decide) ?_
      have ho := Option.some.inj hq
      subst ho
      exact hend _ _ _ _ hP hS dX8_frame_41
  refine lv_aload_n hx hb dX8_frame_0 rfl (lv_at hl 0 rfl) ?_
  refine lv_iload_n hx hb dX8_frame_1 rfl (lv_at hl 1 rfl) ?_
  refine lv_i2l (v := (x1).toInt64) hx hb dX8_frame_2 rfl ?_
  refine lv_lconst (v := 0) hx hb dX8_frame_3 (by decide) ?_
  refine lv_ldc2 (v := 9) hx hb hown (hts (.constantLong RX8 46 (9 : Int64)) (by decide +kernel)) dX8_frame_4 ?_
  obtain ⟨o7, ho7, hq⟩ := kbind hq
  refine kc_Si (av := [.long ((x1).toInt64), .long (0 : Int64), .long (9 : Int64)]) (rest := [.ref aM]) hF hK hG hA (mk_X8_in l D cI s.heap.size ((x1).toInt64) (0 : Int64) (9 : Int64) o7 ho7) (va_cwS 3 hts gX8_frame_X8_in rfl rfl rfl (by decide +kernel) ⟨Nat.le_of_ble_eq_true rfl, Nat.le_of_ble_eq_true rfl⟩) hP hD hS [] (by decide) rfl rfl rfl hl.1 rfl (Nat.le_of_ble_eq_true rfl) ⟨Nat.zero_le _, Nat.zero_le _⟩ dX8_frame_7 (fun H locs hP hD hS => ?_)
  have hP : va_P D vwCl [(aM, .inr (7, [.int mref, .ref aMtext, .int msize, .ref aMnow, .ref aMtrial, .ref aMdiary, .int macts, .ref aMkept, .ref aMisKept, .ref aMside, .ref aMwas, .int mspot, .int mout])), (aMnow, .inl (cI 0, 79, .inl mnow))] H := hP
  have hD : va_D A [(aM, .inr (7, [.int mref, .ref aMtext, .int msize, .ref aMnow, .ref aMtrial, .ref aMdiary, .int macts, .ref aMkept, .ref aMisKept, .ref aMside, .ref aMwas, .int mspot, .int mout])), (aMnow, .inl (cI 0, 79, .inl mnow))] := hD
  refine lv_if_ne (tgt := 17) hx hb dX8_frame_10 (by decide) (fun c9 => ?_) (fun c9 => ?_)
  · have hq := kite_f c9 hq
    refine lv_iload_n hx hb dX8_frame_17 rfl (lv_at hl 2 rfl) ?_
    refine lv_i2l (v := (x2).toInt64) hx hb dX8_frame_18 rfl ?_
    refine lv_lconst (v := 0) hx hb dX8_frame_19 (by decide) ?_
    refine lv_ldc2 (v := 2) hx hb hown (hts (.constantLong RX8 56 (2 : Int64)) (by decide +kernel)) dX8_frame_20 ?_
    obtain ⟨o23, ho23, hq⟩ := kbind hq
    refine kc_Si (av := [.long ((x2).toInt64), .long (0 : Int64), .long (2 : Int64)]) (rest := [.ref aM]) hF hK hG hA (mk_X8_in l D cI H.size ((x2).toInt64) (0 : Int64) (2 : Int64) o23 ho23) (va_cwS 3 hts gX8_frame_X8_in rfl rfl rfl (by decide +kernel) ⟨Nat.le_of_ble_eq_true rfl, Nat.le_of_ble_eq_true rfl⟩) hP hD hS [] (by decide) rfl rfl rfl hl.1 rfl (Nat.le_of_ble_eq_true rfl) ⟨Nat.zero_le _, Nat.zero_le _⟩ dX8_frame_23 (fun H locs hP hD hS => ?_)
    have hP : va_P D vwCl [(aM, .inr (7, [.int mref, .ref aMtext, .int msize, .ref aMnow, .ref aMtrial, .ref aMdiary, .int macts, .ref aMkept, .ref aMisKept, .ref aMside, .ref aMwas, .int mspot, .int mout])), (aMnow, .inl (cI 0, 79, .inl mnow))] H := hP
    have hD : va_D A [(aM, .inr (7, [.int mref, .ref aMtext, .int msize, .ref aMnow, .ref aMtrial, .ref aMdiary, .int macts, .ref aMkept, .ref aMisKept, .ref aMside, .ref aMwas, .int mspot, .int mout])), (aMnow, .inl (cI 0, 79, .inl mnow))] := hD
    refine lv_if_eq (tgt := 33) hx hb dX8_frame_26 (by decide) (fun c9 => ?_) (fun c9 => ?_)
    · have hq := kite_t c9 hq
      refine lv_iconst (v := 2) hx hb dX8_frame_33 (by decide) ?_
      exact b_34  _ _ _ mref x1 x2 (2 : Int32) hq hP hD hS (lv_sub hl [0, 1, 2] rfl)
    · have hq := kite_f c9 hq
      refine lv_iconst (v := 0) hx hb dX8_frame_29 (by decide) ?_
      refine lv_goto (tgt := 34) hx hb dX8_frame_30 (by decide) ?_
      exact b_34  _ _ _ mref x1 x2 (0 : Int32) hq hP hD hS (lv_sub hl [0, 1, 2] rfl)
  · have hq := kite_t c9 hq
    refine lv_iconst (v := 1) hx hb dX8_frame_13 (by decide) ?_
    refine lv_goto (tgt := 34) hx hb dX8_frame_14 (by decide) ?_
    exact b_34  _ _ _ mref x1 x2 (1 : Int32) hq hP hD hS (lv_sub hl [0, 1, 2] rfl)

theorem iw_X8_taken_X8 : ∀ w ∈ wsX80, w ∈ wsX8_taken := by decide +kernel
set_option maxHeartbeats 4000000 in
set_option maxRecDepth 100000 in
theorem mk_X8_taken (l : Launch) (D : va_G) (cI : Nat → ClassId) (aM aMtext aMnow aMtrial aMdiary aMkept aMisKept aMside aMwas : Nat) (sz : Nat) (mref : Int32) (msize : Int32) (macts : Int32) (mspot : Int32) (mout : Int32) (mnow : kF) (x1 : Int32) (o : Int32 × Int32) (hq : fn_X8_taken mref mnow x1 = some o) : Met l yX8_taken wsX8_taken ({ frames := 1, cells := 0, slots := 0, locals := 25 }) (kPc D cI [(aM, .inr (7, [.int mref, .ref aMtext, .int msize, .ref aMnow, .ref aMtrial, .ref aMdiary, .int macts, .ref aMkept, .ref aMisKept, .ref aMside, .ref aMwas, .int mspot, .int mout])), (aMnow, .inl (cI 0, 79, .inl mnow))] sz [.ref aM, .int x1]) (kQi D [(aM, .inr (7, [.int mref, .ref aMtext, .int msize, .ref aMnow, .ref aMtrial, .ref aMdiary, .int macts, .ref aMkept, .ref aMisKept, .ref aMside, .ref aMwas, .int mspot, .int mout])), (aMnow, .inl (cI 0, 79, .inl mnow))] [(aM, .inr (7, [.int o.2, .ref aMtext, .int msize, .ref aMnow, .ref aMtrial, .ref aMdiary, .int macts, .ref aMkept, .ref aMisKept, .ref aMside, .ref aMwas, .int mspot, .int mout])), (aMnow, .inl (cI 0, 79, .inl mnow))] sz o.1) 0 0 (va_A [(aM, .inr (7, [.int mref, .ref aMtext, .int msize, .ref aMnow, .ref aMtrial, .ref aMdiary, .int macts, .ref aMkept, .ref aMisKept, .ref aMside, .ref aMwas, .int mspot, .int mout])), (aMnow, .inl (cI 0, 79, .inl mnow))] sz) := by
  refine kM_i (cc := cX8_taken) (maxL := 2) (by decide +kernel) rfl (Nat.le_of_ble_eq_true rfl) ?_
  intro p e s m args below meth c A Q hF hK hG hD hA hend ls hP hS hl
  obtain ⟨hx, hb, hml, hown, hts⟩ := id hF
  have hl : lv_has ls 2 [(0, .ref aM), (1, .int x1)] := hl
  have b_25 : ∀ (H : Heap) (locs : List Loc) (ls : Array Slot) (mref : Int32) (x1 : Int32) (k1 : Int32), fn_X8_taken_25 mref mnow x1 k1 = some o → va_P D vwCl [(aM, .inr (7, [.int mref, .ref aMtext, .int msize, .ref aMnow, .ref aMtrial, .ref aMdiary, .int macts, .ref aMkept, .ref aMisKept, .ref aMside, .ref aMwas, .int mspot, .int mout])), (aMnow, .inl (cI 0, 79, .inl mnow))] H → va_D A [(aM, .inr (7, [.int mref, .ref aMtext, .int msize, .ref aMnow, .ref aMtrial, .ref aMdiary, .int macts, .ref aMkept, .ref aMisKept, .ref aMside, .ref aMwas, .int mspot, .int mout])), (aMnow, .inl (cI 0, 79, .inl mnow))] → va_S A s.heap H locs → lv_has ls 2 [(0, .ref aM), (1, .int x1)] → W p l e { frames := 1, cells := 0, slots := 0, locals := 25 } s m args below meth c H locs 0 0 Q (F0 m 25 ls [.int k1, .ref aM]) := by
    intro H locs ls mref x1 k1
    intro hq hP hD hS hl
    obtain ⟨o25, ho25, hq⟩ := kbind hq
    refine kc_Vi (av := [.int k1]) (rest := []) hF hK hG hA (mk_X8_refused l D cI aM aMtext aMnow aMtrial aMdiary aMkept aMisKept aMside aMwas H.size mref msize macts mspot mout k1 o25 ho25) (cwV 1 hts gX8_taken_X8_refused rfl rfl rfl (by decide +kernel) ⟨Nat.le_of_ble_eq_true rfl, Nat.le_of_ble_eq_true rfl⟩) hP hD hS [0] (by decide) rfl rfl 0 rfl rfl rfl hl.1 rfl (Nat.le_of_ble_eq_true rfl) ⟨Nat.zero_le _, Nat.zero_le _⟩ dX8_taken_25 (fun H locs hP hD hS => ?_)
    have hP : va_P D vwCl [(aM, .inr (7, [.int o25.2, .ref aMtext, .int msize, .ref aMnow, .ref aMtrial, .ref aMdiary, .int macts, .ref aMkept, .ref aMisKept, .ref aMside, .ref aMwas, .int mspot, .int mout])), (aMnow, .inl (cI 0, 79, .inl mnow))] H := hP
    have hD : va_D A [(aM, .inr (7, [.int o25.2, .ref aMtext, .int msize, .ref aMnow, .ref aMtrial, .ref aMdiary, .int macts, .ref aMkept, .ref aMisKept, .ref aMside, .ref aMwas, .int mspot, .int mout])), (aMnow, .inl (cI 0, 79, .inl mnow))] := hD
    refine lv_if_eq (tgt := 33) hx hb dX8_taken_28 (by decide) (fun c9 => ?_) (fun c9 => ?_)
    · have hq := kite_t c9 hq
      refine lv_aload_n hx hb dX8_taken_33 rfl (lv_at hl 0 rfl) ?_
      refine va_get (D := D) (ci := 7) (v := .ref aMnow) (C := RX8) (T := TX8) (N := 13) hx hb hts iw_X8_taken_X8 hown hK.1 hP 0 rfl rfl 3 (by decide) (hts (.fieldLink RX8 13 "PinDeckModel" "now" "[I") (by decide +kernel)) (fun _ h9 => h9) rfl dX8_taken_34 ?_
      refine lv_bipush (v := 30) hx hb dX8_taken_37 (by decide) ?_
      refine lv_iload_n hx hb dX8_taken_39 rfl (lv_at hl 1 rfl) ?_
      refine lv_iadd hx hb dX8_taken_40 ?_
      obtain ⟨hz, hq⟩ := kite_n hq
      refine k_iald (j := (((30 : Int32) + x1).toNatClampNeg)) hx hb hK.1 hP 1 0 rfl rfl hz rfl dX8_taken_41 ?_
      have ho := Option.some.inj hq
      subst ho
      exact hend _ _ _ _ hP hS dX8_taken_42
    · have hq := kite_f c9 hq
      refine lv_iconst (v := 0) hx hb dX8_taken_31 (by decide) ?_
      have ho := Option.some.inj hq
      subst ho
      exact hend _ _ _ _ hP hS dX8_taken_32
  refine lv_aload_n hx hb dX8_taken_0 rfl (lv_at hl 0 rfl) ?_
  refine lv_iload_n hx hb dX8_taken_1 rfl (lv_at hl 1 rfl) ?_
  refine lv_i2l (v := (x1).toInt64) hx hb dX8_taken_2 rfl ?_
  refine lv_lconst (v := 0) hx hb dX8_taken_3 (by decide) ?_
  refine lv_aload_n hx hb dX8_taken_4 rfl (lv_at hl 0 rfl) ?_
  refine va_get (D := D) (ci := 7) (v := .ref aMnow) (C := RX8) (T := TX8) (N := 13) hx hb hts iw_X8_taken_X8 hown hK.1 hP 0 rfl rfl 3 (by decide) (hts (.fieldLink RX8 13 "PinDeckModel" "now" "[I") (by decide +kernel)) (fun _ h9 => h9) rfl dX8_taken_5 ?_
  refine lv_bipush (v := 51) hx hb dX8_taken_8 (by decide) ?_
  refine k_iald (j := 51) hx hb hK.1 hP 1 0 rfl rfl (by decide) (by decide) dX8_taken_10 ?_
  refine lv_iconst (v := 1) hx hb dX8_taken_11 (by decide) ?_
  refine lv_isub hx hb dX8_taken_12 ?_
  refine lv_i2l (v := (((mnow 51) - (1 : Int32))).toInt64) hx hb dX8_taken_13 rfl ?_
  obtain ⟨o14, ho14, hq⟩ := kbind hq
  refine kc_Si (av := [.long ((x1).toInt64), .long (0 : Int64), .long ((((mnow 51) - (1 : Int32))).toInt64)]) (rest := [.ref aM]) hF hK hG hA (mk_X8_in l D cI s.heap.size ((x1).toInt64) (0 : Int64) ((((mnow 51) - (1 : Int32))).toInt64) o14 ho14) (va_cwS 3 hts gX8_taken_X8_in rfl rfl rfl (by decide +kernel) ⟨Nat.le_of_ble_eq_true rfl, Nat.le_of_ble_eq_true rfl⟩) hP hD hS [] (by decide) rfl rfl rfl hl.1 rfl (Nat.le_of_ble_eq_true rfl) ⟨Nat.zero_le _, Nat.zero_le _⟩ dX8_taken_14 (fun H locs hP hD hS => ?_)
  have hP : va_P D vwCl [(aM, .inr (7, [.int mref, .ref aMtext, .int msize, .ref aMnow, .ref aMtrial, .ref aMdiary, .int macts, .ref aMkept, .ref aMisKept, .ref aMside, .ref aMwas, .int mspot, .int mout])), (aMnow, .inl (cI 0, 79, .inl mnow))] H := hP
  have hD : va_D A [(aM, .inr (7, [.int mref, .ref aMtext, .int msize, .ref aMnow, .ref aMtrial, .ref aMdiary, .int macts, .ref aMkept, .ref aMisKept, .ref aMside, .ref aMwas, .int mspot, .int mout])), (aMnow, .inl (cI 0, 79, .inl mnow))] := hD
  refine lv_if_eq (tgt := 24) hx hb dX8_taken_17 (by decide) (fun c9 => ?_) (fun c9 => ?_)
  · have hq := kite_t c9 hq
    refine lv_iconst (v := 1) hx hb dX8_taken_24 (by decide) ?_
    exact b_25  _ _ _ mref x1 (1 : Int32) hq hP hD hS (lv_sub hl [0, 1] rfl)
  · have hq := kite_f c9 hq
    refine lv_iconst (v := 0) hx hb dX8_taken_20 (by decide) ?_
    refine lv_goto (tgt := 25) hx hb dX8_taken_21 (by decide) ?_
    exact b_25  _ _ _ mref x1 (0 : Int32) hq hP hD hS (lv_sub hl [0, 1] rfl)

theorem iw_X8_setting_X8 : ∀ w ∈ wsX80, w ∈ wsX8_setting := by decide +kernel
set_option maxHeartbeats 4000000 in
set_option maxRecDepth 100000 in
theorem mk_X8_setting (l : Launch) (D : va_G) (cI : Nat → ClassId) (aM aMtext aMnow aMtrial aMdiary aMkept aMisKept aMside aMwas : Nat) (sz : Nat) (mref : Int32) (msize : Int32) (macts : Int32) (mspot : Int32) (mout : Int32) (mnow : kF) (x1 : Int32) (o : Int32 × Int32) (hq : fn_X8_setting mref mnow x1 = some o) : Met l yX8_setting wsX8_setting ({ frames := 1, cells := 0, slots := 0, locals := 25 }) (kPc D cI [(aM, .inr (7, [.int mref, .ref aMtext, .int msize, .ref aMnow, .ref aMtrial, .ref aMdiary, .int macts, .ref aMkept, .ref aMisKept, .ref aMside, .ref aMwas, .int mspot, .int mout])), (aMnow, .inl (cI 0, 79, .inl mnow))] sz [.ref aM, .int x1]) (kQi D [(aM, .inr (7, [.int mref, .ref aMtext, .int msize, .ref aMnow, .ref aMtrial, .ref aMdiary, .int macts, .ref aMkept, .ref aMisKept, .ref aMside, .ref aMwas, .int mspot, .int mout])), (aMnow, .inl (cI 0, 79, .inl mnow))] [(aM, .inr (7, [.int o.2, .ref aMtext, .int msize, .ref aMnow, .ref aMtrial, .ref aMdiary, .int macts, .ref aMkept, .ref aMisKept, .ref aMside, .ref aMwas, .int mspot, .int mout])), (aMnow, .inl (cI 0, 79, .inl mnow))] sz o.1) 0 0 (va_A [(aM, .inr (7, [.int mref, .ref aMtext, .int msize, .ref aMnow, .ref aMtrial, .ref aMdiary, .int macts, .ref aMkept, .ref aMisKept, .ref aMside, .ref aMwas, .int mspot, .int mout])), (aMnow, .inl (cI 0, 79, .inl mnow))] sz) := by
  refine kM_i (cc := cX8_setting) (maxL := 2) (by decide +kernel) rfl (Nat.le_of_ble_eq_true rfl) ?_
  intro p e s m args below meth c A Q hF hK hG hD hA hend ls hP hS hl
  obtain ⟨hx, hb, hml, hown, hts⟩ := id hF
  have hl : lv_has ls 2 [(0, .ref aM), (1, .int x1)] := hl
  have b_18 : ∀ (H : Heap) (locs : List Loc) (ls : Array Slot) (mref : Int32) (x1 : Int32) (k1 : Int32), fn_X8_setting_18 mref mnow x1 k1 = some o → va_P D vwCl [(aM, .inr (7, [.int mref, .ref aMtext, .int msize, .ref aMnow, .ref aMtrial, .ref aMdiary, .int macts, .ref aMkept, .ref aMisKept, .ref aMside, .ref aMwas, .int mspot, .int mout])), (aMnow, .inl (cI 0, 79, .inl mnow))] H → va_D A [(aM, .inr (7, [.int mref, .ref aMtext, .int msize, .ref aMnow, .ref aMtrial, .ref aMdiary, .int macts, .ref aMkept, .ref aMisKept, .ref aMside, .ref aMwas, .int mspot, .int mout])), (aMnow, .inl (cI 0, 79, .inl mnow))] → va_S A s.heap H locs → lv_has ls 2 [(0, .ref aM), (1, .int x1)] → W p l e { frames := 1, cells := 0, slots := 0, locals := 25 } s m args below meth c H locs 0 0 Q (F0 m 18 ls [.int k1, .ref aM]) := by
    intro H locs ls mref x1 k1
    intro hq hP hD hS hl
    obtain ⟨o18, ho18, hq⟩ := kbind hq
    refine kc_Vi (av := [.int k1]) (rest := []) hF hK hG hA (mk_X8_refused l D cI aM aMtext aMnow aMtrial aMdiary aMkept aMisKept aMside aMwas H.size mref msize macts mspot mout k1 o18 ho18) (cwV 1 hts gX8_setting_X8_refused rfl rfl rfl (by decide +kernel) ⟨Nat.le_of_ble_eq_true rfl, Nat.le_of_ble_eq_true rfl⟩) hP hD hS [0] (by decide) rfl rfl 0 rfl rfl rfl hl.1 rfl (Nat.le_of_ble_eq_true rfl) ⟨Nat.zero_le _, Nat.zero_le _⟩ dX8_setting_18 (fun H locs hP hD hS => ?_)
    have hP : va_P D vwCl [(aM, .inr (7, [.int o18.2, .ref aMtext, .int msize, .ref aMnow, .ref aMtrial, .ref aMdiary, .int macts, .ref aMkept, .ref aMisKept, .ref aMside, .ref aMwas, .int mspot, .int mout])), (aMnow, .inl (cI 0, 79, .inl mnow))] H := hP
    have hD : va_D A [(aM, .inr (7, [.int o18.2, .ref aMtext, .int msize, .ref aMnow, .ref aMtrial, .ref aMdiary, .int macts, .ref aMkept, .ref aMisKept, .ref aMside, .ref aMwas, .int mspot, .int mout])), (aMnow, .inl (cI 0, 79, .inl mnow))] := hD
    refine lv_if_eq (tgt := 26) hx hb dX8_setting_21 (by decide) (fun c9 => ?_) (fun c9 => ?_)
    · have hq := kite_t c9 hq
      refine lv_aload_n hx hb dX8_setting_26 rfl (lv_at hl 0 rfl) ?_
      refine va_get (D := D) (ci := 7) (v := .ref aMnow) (C := RX8) (T := TX8) (N := 13) hx hb hts iw_X8_setting_X8 hown hK.1 hP 0 rfl rfl 3 (by decide) (hts (.fieldLink RX8 13 "PinDeckModel" "now" "[I") (by decide +kernel)) (fun _ h9 => h9) rfl dX8_setting_27 ?_
      refine lv_bipush (v := 76) hx hb dX8_setting_30 (by decide) ?_
      refine lv_iload_n hx hb dX8_setting_32 rfl (lv_at hl 1 rfl) ?_
      refine lv_iadd hx hb dX8_setting_33 ?_
      obtain ⟨hz, hq⟩ := kite_n hq
      refine k_iald (j := (((76 : Int32) + x1).toNatClampNeg)) hx hb hK.1 hP 1 0 rfl rfl hz rfl dX8_setting_34 ?_
      have ho := Option.some.inj hq
      subst ho
      exact hend _ _ _ _ hP hS dX8_setting_35
    · have hq := kite_f c9 hq
      refine lv_iconst (v := 0) hx hb dX8_setting_24 (by decide) ?_
      have ho := Option.some.inj hq
      subst ho
      exact hend _ _ _ _ hP hS dX8_setting_25
  refine lv_aload_n hx hb dX8_setting_0 rfl (lv_at hl 0 rfl) ?_
  refine lv_iload_n hx hb dX8_setting_1 rfl (lv_at hl 1 rfl) ?_
  refine lv_i2l (v := (x1).toInt64) hx hb dX8_setting_2 rfl ?_
  refine lv_lconst (v := 0) hx hb dX8_setting_3 (by decide) ?_
  refine lv_ldc2 (v := 2) hx hb hown (hts (.constantLong RX8 56 (2 : Int64)) (by decide +kernel)) dX8_setting_4 ?_
  obtain ⟨o7, ho7, hq⟩ := kbind hq
  refine kc_Si (av := [.long ((x1).toInt64), .long (0 : Int64), .long (2 : Int64)]) (rest := [.ref aM]) hF hK hG hA (mk_X8_in l D cI s.heap.size ((x1).toInt64) (0 : Int64) (2 : Int64) o7 ho7) (va_cwS 3 hts gX8_setting_X8_in rfl rfl rfl (by decide +kernel) ⟨Nat.le_of_ble_eq_true rfl, Nat.le_of_ble_eq_true rfl⟩) hP hD hS [] (by decide) rfl rfl rfl hl.1 rfl (Nat.le_of_ble_eq_true rfl) ⟨Nat.zero_le _, Nat.zero_le _⟩ dX8_setting_7 (fun H locs hP hD hS => ?_)
  have hP : va_P D vwCl [(aM, .inr (7, [.int mref, .ref aMtext, .int msize, .ref aMnow, .ref aMtrial, .ref aMdiary, .int macts, .ref aMkept, .ref aMisKept, .ref aMside, .ref aMwas, .int mspot, .int mout])), (aMnow, .inl (cI 0, 79, .inl mnow))] H := hP
  have hD : va_D A [(aM, .inr (7, [.int mref, .ref aMtext, .int msize, .ref aMnow, .ref aMtrial, .ref aMdiary, .int macts, .ref aMkept, .ref aMisKept, .ref aMside, .ref aMwas, .int mspot, .int mout])), (aMnow, .inl (cI 0, 79, .inl mnow))] := hD
  refine lv_if_eq (tgt := 17) hx hb dX8_setting_10 (by decide) (fun c9 => ?_) (fun c9 => ?_)
  · have hq := kite_t c9 hq
    refine lv_iconst (v := 1) hx hb dX8_setting_17 (by decide) ?_
    exact b_18  _ _ _ mref x1 (1 : Int32) hq hP hD hS (lv_sub hl [0, 1] rfl)
  · have hq := kite_f c9 hq
    refine lv_iconst (v := 0) hx hb dX8_setting_13 (by decide) ?_
    refine lv_goto (tgt := 18) hx hb dX8_setting_14 (by decide) ?_
    exact b_18  _ _ _ mref x1 (0 : Int32) hq hP hD hS (lv_sub hl [0, 1] rfl)

theorem iw_X8_remember_X8 : ∀ w ∈ wsX80, w ∈ wsX8_remember := by decide +kernel
set_option maxHeartbeats 4000000 in
set_option maxRecDepth 100000 in
theorem mk_X8_remember (l : Launch) (D : va_G) (cI : Nat → ClassId) (aM aMtext aMnow aMtrial aMdiary aMkept aMisKept aMside aMwas : Nat) (sz : Nat) (mref : Int32) (msize : Int32) (macts : Int32) (mspot : Int32) (mout : Int32) (mnow : kF) (mdiary : kF) (o : Int32 × kF) (hq : fn_X8_remember macts mnow mdiary = some o) : Met l yX8_remember wsX8_remember ({ frames := 1, cells := 0, slots := 0, locals := 24 }) (kPc D cI [(aM, .inr (7, [.int mref, .ref aMtext, .int msize, .ref aMnow, .ref aMtrial, .ref aMdiary, .int macts, .ref aMkept, .ref aMisKept, .ref aMside, .ref aMwas, .int mspot, .int mout])), (aMnow, .inl (cI 0, 79, .inl mnow)), (aMdiary, .inl (cI 0, 1106, .inl mdiary))] sz [.ref aM]) (kQv D [(aM, .inr (7, [.int mref, .ref aMtext, .int msize, .ref aMnow, .ref aMtrial, .ref aMdiary, .int macts, .ref aMkept, .ref aMisKept, .ref aMside, .ref aMwas, .int mspot, .int mout])), (aMnow, .inl (cI 0, 79, .inl mnow)), (aMdiary, .inl (cI 0, 1106, .inl mdiary))] [(aM, .inr (7, [.int mref, .ref aMtext, .int msize, .ref aMnow, .ref aMtrial, .ref aMdiary, .int o.1, .ref aMkept, .ref aMisKept, .ref aMside, .ref aMwas, .int mspot, .int mout])), (aMnow, .inl (cI 0, 79, .inl mnow)), (aMdiary, .inl (cI 0, 1106, .inl o.2))] sz) 0 0 (va_A [(aM, .inr (7, [.int mref, .ref aMtext, .int msize, .ref aMnow, .ref aMtrial, .ref aMdiary, .int macts, .ref aMkept, .ref aMisKept, .ref aMside, .ref aMwas, .int mspot, .int mout])), (aMnow, .inl (cI 0, 79, .inl mnow)), (aMdiary, .inl (cI 0, 1106, .inl mdiary))] sz) := by
  refine kM_v (cc := cX8_remember) (maxL := 2) (by decide +kernel) rfl (Nat.le_of_ble_eq_true rfl) ?_
  intro p e s m args below meth c A Q hF hK hG hD hA hend ls hP hS hl
  obtain ⟨hx, hb, hml, hown, hts⟩ := id hF
  have hl : lv_has ls 2 [(0, .ref aM)] := hl
  have b_49 : ∀ (H : Heap) (locs : List Loc) (ls : Array Slot) (macts : Int32) (mdiary : kF), fn_X8_remember_49 macts mnow mdiary = some o → va_P D vwCl [(aM, .inr (7, [.int mref, .ref aMtext, .int msize, .ref aMnow, .ref aMtrial, .ref aMdiary, .int macts, .ref aMkept, .ref aMisKept, .ref aMside, .ref aMwas, .int mspot, .int mout])), (aMnow, .inl (cI 0, 79, .inl mnow)), (aMdiary, .inl (cI 0, 1106, .inl mdiary))] H → va_D A [(aM, .inr (7, [.int mref, .ref aMtext, .int msize, .ref aMnow, .ref aMtrial, .ref aMdiary, .int macts, .ref aMkept, .ref aMisKept, .ref aMside, .ref aMwas, .int mspot, .int mout])), (aMnow, .inl (cI 0, 79, .inl mnow)), (aMdiary, .inl (cI 0, 1106, .inl mdiary))] → va_S A s.heap H locs → lv_has ls 2 [(0, .ref aM)] → W p l e { frames := 1, cells := 0, slots := 0, locals := 24 } s m args below meth c H locs 0 0 Q (F0 m 49 ls []) := by
    intro H locs ls macts mdiary
    intro hq hP hD hS hl
    refine lv_aload_n hx hb dX8_remember_49 rfl (lv_at hl 0 rfl) ?_
    refine va_get (D := D) (ci := 7) (v := .ref aMnow) (C := RX8) (T := TX8) (N := 13) hx hb hts iw_X8_remember_X8 hown hK.1 hP 0 rfl rfl 3 (by decide) (hts (.fieldLink RX8 13 "PinDeckModel" "now" "[I") (by decide +kernel)) (fun _ h9 => h9) rfl dX8_remember_50 ?_
    refine lv_iconst (v := 0) hx hb dX8_remember_53 (by decide) ?_
    refine lv_aload_n hx hb dX8_remember_54 rfl (lv_at hl 0 rfl) ?_
    refine va_get (D := D) (ci := 7) (v := .ref aMdiary) (C := RX8) (T := TX8) (N := 13) hx hb hts iw_X8_remember_X8 hown hK.1 hP 0 rfl rfl 5 (by decide) (hts (.fieldLink RX8 19 "PinDeckModel" "diary" "[I") (by decide +kernel)) (fun _ h9 => h9) rfl dX8_remember_55 ?_
    refine lv_bipush (v := 79) hx hb dX8_remember_58 (by decide) ?_
    refine lv_aload_n hx hb dX8_remember_60 rfl (lv_at hl 0 rfl) ?_
    refine va_get (D := D) (ci := 7) (v := .int macts) (C := RX8) (T := TX8) (N := 13) hx hb hts iw_X8_remember_X8 hown hK.1 hP 0 rfl rfl 6 (by decide) (hts (.fieldLink RX8 170 "PinDeckModel" "acts" "I") (by decide +kernel)) (fun _ h9 => h9) rfl dX8_remember_61 ?_
    refine lv_imul hx hb dX8_remember_64 ?_
    obtain ⟨o65, ho65, hq⟩ := kbind hq
    refine kc_Sv (av := [.ref aMnow, .int (0 : Int32), .ref aMdiary, .int ((79 : Int32) * macts)]) (rest := []) hF hK hG hA (mk_X8_copyState l D cI 79 1106 aMnow aMdiary H.size mnow mdiary (0 : Int32) ((79 : Int32) * macts) o65 ho65) (va_cwS 4 hts gX8_remember_X8_copyState rfl rfl rfl (by decide +kernel) ⟨Nat.le_of_ble_eq_true rfl, Nat.le_of_ble_eq_true rfl⟩) hP hD hS [1, 2] (by decide) rfl rfl rfl hl.1 rfl (Nat.le_of_ble_eq_true rfl) ⟨Nat.zero_le _, Nat.zero_le _⟩ dX8_remember_65 (fun H locs hP hD hS => ?_)
    have hP : va_P D vwCl [(aM, .inr (7, [.int mref, .ref aMtext, .int msize, .ref aMnow, .ref aMtrial, .ref aMdiary, .int macts, .ref aMkept, .ref aMisKept, .ref aMside, .ref aMwas, .int mspot, .int mout])), (aMnow, .inl (cI 0, 79, .inl mnow)), (aMdiary, .inl (cI 0, 1106, .inl o65))] H := hP
    have hD : va_D A [(aM, .inr (7, [.int mref, .ref aMtext, .int msize, .ref aMnow, .ref aMtrial, .ref aMdiary, .int macts, .ref aMkept, .ref aMisKept, .ref aMside, .ref aMwas, .int mspot, .int mout])), (aMnow, .inl (cI 0, 79, .inl mnow)), (aMdiary, .inl (cI 0, 1106, .inl o65))] := hD
    refine lv_aload_n hx hb dX8_remember_68 rfl (lv_at hl 0 rfl) ?_
    refine lv_dup hx hb dX8_remember_69 rfl ?_
    refine va_get (D := D) (ci := 7) (v := .int macts) (C := RX8) (T := TX8) (N := 13) hx hb hts iw_X8_remember_X8 hown hK.1 hP 0 rfl rfl 6 (by decide) (hts (.fieldLink RX8 170 "PinDeckModel" "acts" "I") (by decide +kernel)) (fun _ h9 => h9) rfl dX8_remember_70 ?_
    refine lv_iconst (v := 1) hx hb dX8_remember_73 (by decide) ?_
    refine lv_iadd hx hb dX8_remember_74 ?_
    refine va_put (D := D) (ci := 7) (v := .int (macts + (1 : Int32))) (ty := .int) (C := RX8) (T := TX8) (N := 13) hx hb hts iw_X8_remember_X8 tyX8 tyX8_ok nmX8 hown hK.1 hP hD hS 0 rfl rfl 6 (by decide) (hts (.fieldLink RX8 170 "PinDeckModel" "acts" "I") (by decide +kernel)) (fun _ h9 => h9) rfl (by decide +kernel) rfl rfl (Nat.le_of_ble_eq_true rfl) dX8_remember_75 (fun H locs hP hD hS => ?_)
    have hP : va_P D vwCl [(aM, .inr (7, [.int mref, .ref aMtext, .int msize, .ref aMnow, .ref aMtrial, .ref aMdiary, .int (macts + (1 : Int32)), .ref aMkept, .ref aMisKept, .ref aMside, .ref aMwas, .int mspot, .int mout])), (aMnow, .inl (cI 0, 79, .inl mnow)), (aMdiary, .inl (cI 0, 1106, .inl o65))] H := hP
    have hD : va_D A [(aM, .inr (7, [.int mref, .ref aMtext, .int msize, .ref aMnow, .ref aMtrial, .ref aMdiary, .int (macts + (1 : Int32)), .ref aMkept, .ref aMisKept, .ref aMside, .ref aMwas, .int mspot, .int mout])), (aMnow, .inl (cI 0, 79, .inl mnow)), (aMdiary, .inl (cI 0, 1106, .inl o65))] := hD
    have ho := Option.some.inj hq
    subst ho
    exact hend _ _ _ _ hP hS dX8_remember_78
  have b_11 : ∀ (q : Nat), ∀ (H : Heap) (locs : List Loc) (ls : Array Slot) (macts : Int32) (mdiary : kF) (x1 : Int32), fn_X8_remember_11 q macts mnow mdiary x1 = some o → va_P D vwCl [(aM, .inr (7, [.int mref, .ref aMtext, .int msize, .ref aMnow, .ref aMtrial, .ref aMdiary, .int macts, .ref aMkept, .ref aMisKept, .ref aMside, .ref aMwas, .int mspot, .int mout])), (aMnow, .inl (cI 0, 79, .inl mnow)), (aMdiary, .inl (cI 0, 1106, .inl mdiary))] H → va_D A [(aM, .inr (7, [.int mref, .ref aMtext, .int msize, .ref aMnow, .ref aMtrial, .ref aMdiary, .int macts, .ref aMkept, .ref aMisKept, .ref aMside, .ref aMwas, .int mspot, .int mout])), (aMnow, .inl (cI 0, 79, .inl mnow)), (aMdiary, .inl (cI 0, 1106, .inl mdiary))] → va_S A s.heap H locs → lv_has ls 2 [(0, .ref aM), (1, .int x1)] → W p l e { frames := 1, cells := 0, slots := 0, locals := 24 } s m args below meth c H locs 0 0 Q (F0 m 11 ls []) := by
    intro q
    induction q with
    | zero =>
      intro H locs ls macts mdiary x1
      intro hq
      cases hq
    | succ q ih =>
      intro H locs ls macts mdiary x1
      intro hq hP hD hS hl
      refine lv_iload_n hx hb dX8_remember_11 rfl (lv_at hl 1 rfl) ?_
      refine lv_sipush (v := 1027) hx hb dX8_remember_12 (by decide) ?_
      refine lv_icmp_ge (tgt := 39) hx hb dX8_remember_15 (by decide) (fun c9 => ?_) (fun c9 => ?_)
      · have hq := kite_t c9 hq
        refine lv_aload_n hx hb dX8_remember_39 rfl (lv_at hl 0 rfl) ?_
        refine lv_dup hx hb dX8_remember_40 rfl ?_
        refine va_get (D := D) (ci := 7) (v := .int macts) (C := RX8) (T := TX8) (N := 13) hx hb hts iw_X8_remember_X8 hown hK.1 hP 0 rfl rfl 6 (by decide) (hts (.fieldLink RX8 170 "PinDeckModel" "acts" "I") (by decide +kernel)) (fun _ h9 => h9) rfl dX8_remember_41 ?_
        refine lv_iconst (v := 1) hx hb dX8_remember_44 (by decide) ?_
        refine lv_isub hx hb dX8_remember_45 ?_
        refine va_put (D := D) (ci := 7) (v := .int (macts - (1 : Int32))) (ty := .int) (C := RX8) (T := TX8) (N := 13) hx hb hts iw_X8_remember_X8 tyX8 tyX8_ok nmX8 hown hK.1 hP hD hS 0 rfl rfl 6 (by decide) (hts (.fieldLink RX8 170 "PinDeckModel" "acts" "I") (by decide +kernel)) (fun _ h9 => h9) rfl (by decide +kernel) rfl rfl (Nat.le_of_ble_eq_true rfl) dX8_remember_46 (fun H locs hP hD hS => ?_)
        have hP : va_P D vwCl [(aM, .inr (7, [.int mref, .ref aMtext, .int msize, .ref aMnow, .ref aMtrial, .ref aMdiary, .int (macts - (1 : Int32)), .ref aMkept, .ref aMisKept, .ref aMside, .ref aMwas, .int mspot, .int mout])), (aMnow, .inl (cI 0, 79, .inl mnow)), (aMdiary, .inl (cI 0, 1106, .inl mdiary))] H := hP
        have hD : va_D A [(aM, .inr (7, [.int mref, .ref aMtext, .int msize, .ref aMnow, .ref aMtrial, .ref aMdiary, .int (macts - (1 : Int32)), .ref aMkept, .ref aMisKept, .ref aMside, .ref aMwas, .int mspot, .int mout])), (aMnow, .inl (cI 0, 79, .inl mnow)), (aMdiary, .inl (cI 0, 1106, .inl mdiary))] := hD
        exact b_49  _ _ _ (macts - (1 : Int32)) mdiary hq hP hD hS (lv_sub hl [0] rfl)
      · have hq := kite_f c9 hq
        refine lv_aload_n hx hb dX8_remember_18 rfl (lv_at hl 0 rfl) ?_
        refine va_get (D := D) (ci := 7) (v := .ref aMdiary) (C := RX8) (T := TX8) (N := 13) hx hb hts iw_X8_remember_X8 hown hK.1 hP 0 rfl rfl 5 (by decide) (hts (.fieldLink RX8 19 "PinDeckModel" "diary" "[I") (by decide +kernel)) (fun _ h9 => h9) rfl dX8_remember_19 ?_
        refine lv_iload_n hx hb dX8_remember_22 rfl (lv_at hl 1 rfl) ?_
        refine lv_aload_n hx hb dX8_remember_23 rfl (lv_at hl 0 rfl) ?_
        refine va_get (D := D) (ci := 7) (v := .ref aMdiary) (C := RX8) (T := TX8) (N := 13) hx hb hts iw_X8_remember_X8 hown hK.1 hP 0 rfl rfl 5 (by decide) (hts (.fieldLink RX8 19 "PinDeckModel" "diary" "[I") (by decide +kernel)) (fun _ h9 => h9) rfl dX8_remember_24 ?_
        refine lv_iload_n hx hb dX8_remember_27 rfl (lv_at hl 1 rfl) ?_
        refine lv_bipush (v := 79) hx hb dX8_remember_28 (by decide) ?_
        refine lv_iadd hx hb dX8_remember_30 ?_
        obtain ⟨hz, hq⟩ := kite_n hq
        refine k_iald (j := ((x1 + (79 : Int32)).toNatClampNeg)) hx hb hK.1 hP 2 0 rfl rfl hz rfl dX8_remember_31 ?_
        obtain ⟨hz, hq⟩ := kite_n hq
        refine k_iast (j := (x1.toNatClampNeg)) hx hb hK.1 hP hD hS 2 0 rfl rfl hz rfl dX8_remember_32 (fun H locs hP hD hS => ?_)
        have hP : va_P D vwCl [(aM, .inr (7, [.int mref, .ref aMtext, .int msize, .ref aMnow, .ref aMtrial, .ref aMdiary, .int macts, .ref aMkept, .ref aMisKept, .ref aMside, .ref aMwas, .int mspot, .int mout])), (aMnow, .inl (cI 0, 79, .inl mnow)), (aMdiary, .inl (cI 0, 1106, .inl (upd mdiary (x1.toNatClampNeg) (mdiary ((x1 + (79 : Int32)).toNatClampNeg)))))] H := hP
        have hD : va_D A [(aM, .inr (7, [.int mref, .ref aMtext, .int msize, .ref aMnow, .ref aMtrial, .ref aMdiary, .int macts, .ref aMkept, .ref aMisKept, .ref aMside, .ref aMwas, .int mspot, .int mout])), (aMnow, .inl (cI 0, 79, .inl mnow)), (aMdiary, .inl (cI 0, 1106, .inl (upd mdiary (x1.toNatClampNeg) (mdiary ((x1 + (79 : Int32)).toNatClampNeg)))))] := hD
        refine lv_iinc (v := (x1 + 1)) (lv' := [(1, .int (x1 + 1)), (0, .ref aM)]) hx hb dX8_remember_33 hl (k := 1) rfl rfl (by decide) rfl (fun ls hl => ?_)
        refine lv_goto (tgt := 11) hx hb dX8_remember_36 (by decide) ?_
        exact ih _ _ _ macts (upd mdiary (x1.toNatClampNeg) (mdiary ((x1 + (79 : Int32)).toNatClampNeg))) (x1 + 1) hq hP hD hS (lv_sub hl [1, 0] rfl)
  refine lv_aload_n hx hb dX8_remember_0 rfl (lv_at hl 0 rfl) ?_
  refine va_get (D := D) (ci := 7) (v := .int macts) (C := RX8) (T := TX8) (N := 13) hx hb hts iw_X8_remember_X8 hown hK.1 hP 0 rfl rfl 6 (by decide) (hts (.fieldLink RX8 170 "PinDeckModel" "acts" "I") (by decide +kernel)) (fun _ h9 => h9) rfl dX8_remember_1 ?_
  refine lv_bipush (v := 14) hx hb dX8_remember_4 (by decide) ?_
  refine lv_icmp_ne (tgt := 49) hx hb dX8_remember_6 (by decide) (fun c9 => ?_) (fun c9 => ?_)
  · have hq := kite_f c9 hq
    exact b_49  _ _ _ macts mdiary hq hP hD hS (lv_sub hl [0] rfl)
  · have hq := kite_t c9 hq
    refine lv_iconst (v := 0) hx hb dX8_remember_9 (by decide) ?_
    refine lv_istore_n (lv' := [(1, .int (0 : Int32)), (0, .ref aM)]) hx hb dX8_remember_10 rfl hl (by decide) rfl (fun ls hl => ?_)
    exact b_11 4096 _ _ _ macts mdiary (0 : Int32) hq hP hD hS (lv_sub hl [1, 0] rfl)

theorem iw_X8_begin_X8 : ∀ w ∈ wsX80, w ∈ wsX8_begin := by decide +kernel
set_option maxHeartbeats 4000000 in
set_option maxRecDepth 100000 in
theorem mk_X8_begin (l : Launch) (D : va_G) (cI : Nat → ClassId) (aM aMtext aMnow aMtrial aMdiary aMkept aMisKept aMside aMwas : Nat) (sz : Nat) (mref : Int32) (msize : Int32) (macts : Int32) (mspot : Int32) (mout : Int32) (mnow : kF) (mdiary : kF) (o : Int32 × Int32 × Int32 × kF × kF) (hq : fn_X8_begin mref macts mnow mdiary = some o) : Met l yX8_begin wsX8_begin ({ frames := 5, cells := 0, slots := 0, locals := 111 }) (kPc D cI [(aM, .inr (7, [.int mref, .ref aMtext, .int msize, .ref aMnow, .ref aMtrial, .ref aMdiary, .int macts, .ref aMkept, .ref aMisKept, .ref aMside, .ref aMwas, .int mspot, .int mout])), (aMnow, .inl (cI 0, 79, .inl mnow)), (aMdiary, .inl (cI 0, 1106, .inl mdiary))] sz [.ref aM]) (kQi D [(aM, .inr (7, [.int mref, .ref aMtext, .int msize, .ref aMnow, .ref aMtrial, .ref aMdiary, .int macts, .ref aMkept, .ref aMisKept, .ref aMside, .ref aMwas, .int mspot, .int mout])), (aMnow, .inl (cI 0, 79, .inl mnow)), (aMdiary, .inl (cI 0, 1106, .inl mdiary))] [(aM, .inr (7, [.int o.2.1, .ref aMtext, .int msize, .ref aMnow, .ref aMtrial, .ref aMdiary, .int o.2.2.1, .ref aMkept, .ref aMisKept, .ref aMside, .ref aMwas, .int mspot, .int mout])), (aMnow, .inl (cI 0, 79, .inl o.2.2.2.1)), (aMdiary, .inl (cI 0, 1106, .inl o.2.2.2.2))] sz o.1) 0 0 (va_A [(aM, .inr (7, [.int mref, .ref aMtext, .int msize, .ref aMnow, .ref aMtrial, .ref aMdiary, .int macts, .ref aMkept, .ref aMisKept, .ref aMside, .ref aMwas, .int mspot, .int mout])), (aMnow, .inl (cI 0, 79, .inl mnow)), (aMdiary, .inl (cI 0, 1106, .inl mdiary))] sz) := by
  refine kM_i (cc := cX8_begin) (maxL := 1) (by decide +kernel) rfl (Nat.le_of_ble_eq_true rfl) ?_
  intro p e s m args below meth c A Q hF hK hG hD hA hend ls hP hS hl
  obtain ⟨hx, hb, hml, hown, hts⟩ := id hF
  have hl : lv_has ls 1 [(0, .ref aM)] := hl
  refine lv_aload_n hx hb dX8_begin_0 rfl (lv_at hl 0 rfl) ?_
  refine lv_iconst (v := 0) hx hb dX8_begin_1 (by decide) ?_
  refine va_put (D := D) (ci := 7) (v := .int (0 : Int32)) (ty := .int) (C := RX8) (T := TX8) (N := 13) hx hb hts iw_X8_begin_X8 tyX8 tyX8_ok nmX8 hown hK.1 hP hD hS 0 rfl rfl 0 (by decide) (hts (.fieldLink RX8 39 "PinDeckModel" "refusal" "I") (by decide +kernel)) (fun _ h9 => h9) rfl (by decide +kernel) rfl rfl (Nat.le_of_ble_eq_true rfl) dX8_begin_2 (fun H locs hP hD hS => ?_)
  have hP : va_P D vwCl [(aM, .inr (7, [.int (0 : Int32), .ref aMtext, .int msize, .ref aMnow, .ref aMtrial, .ref aMdiary, .int macts, .ref aMkept, .ref aMisKept, .ref aMside, .ref aMwas, .int mspot, .int mout])), (aMnow, .inl (cI 0, 79, .inl mnow)), (aMdiary, .inl (cI 0, 1106, .inl mdiary))] H := hP
  have hD : va_D A [(aM, .inr (7, [.int (0 : Int32), .ref aMtext, .int msize, .ref aMnow, .ref aMtrial, .ref aMdiary, .int macts, .ref aMkept, .ref aMisKept, .ref aMside, .ref aMwas, .int mspot, .int mout])), (aMnow, .inl (cI 0, 79, .inl mnow)), (aMdiary, .inl (cI 0, 1106, .inl mdiary))] := hD
  refine lv_aload_n hx hb dX8_begin_5 rfl (lv_at hl 0 rfl) ?_
  obtain ⟨o6, ho6, hq⟩ := kbind hq
  refine kc_Vv (av := []) (rest := []) hF hK hG hA (mk_X8_remember l D cI aM aMtext aMnow aMtrial aMdiary aMkept aMisKept aMside aMwas H.size (0 : Int32) msize macts mspot mout mnow mdiary o6 ho6) (cwV 0 hts gX8_begin_X8_remember rfl rfl rfl (by decide +kernel) ⟨Nat.le_of_ble_eq_true rfl, Nat.le_of_ble_eq_true rfl⟩) hP hD hS [0, 1, 2] (by decide) rfl rfl 0 rfl rfl rfl hl.1 rfl (Nat.le_of_ble_eq_true rfl) ⟨Nat.zero_le _, Nat.zero_le _⟩ dX8_begin_6 (fun H locs hP hD hS => ?_)
  have hP : va_P D vwCl [(aM, .inr (7, [.int (0 : Int32), .ref aMtext, .int msize, .ref aMnow, .ref aMtrial, .ref aMdiary, .int o6.1, .ref aMkept, .ref aMisKept, .ref aMside, .ref aMwas, .int mspot, .int mout])), (aMnow, .inl (cI 0, 79, .inl mnow)), (aMdiary, .inl (cI 0, 1106, .inl o6.2))] H := hP
  have hD : va_D A [(aM, .inr (7, [.int (0 : Int32), .ref aMtext, .int msize, .ref aMnow, .ref aMtrial, .ref aMdiary, .int o6.1, .ref aMkept, .ref aMisKept, .ref aMside, .ref aMwas, .int mspot, .int mout])), (aMnow, .inl (cI 0, 79, .inl mnow)), (aMdiary, .inl (cI 0, 1106, .inl o6.2))] := hD
  refine lv_aload_n hx hb dX8_begin_9 rfl (lv_at hl 0 rfl) ?_
  refine va_get (D := D) (ci := 7) (v := .ref aMnow) (C := RX8) (T := TX8) (N := 13) hx hb hts iw_X8_begin_X8 hown hK.1 hP 0 rfl rfl 3 (by decide) (hts (.fieldLink RX8 13 "PinDeckModel" "now" "[I") (by decide +kernel)) (fun _ h9 => h9) rfl dX8_begin_10 ?_
  obtain ⟨o13, ho13, hq⟩ := kbind hq
  refine kc_Si (av := [.ref aMnow]) (rest := []) hF hK hG hA (mk_X8_beginOn l D cI aMnow H.size mnow o13 ho13) (va_cwS 1 hts gX8_begin_X8_beginOn rfl rfl rfl (by decide +kernel) ⟨Nat.le_of_ble_eq_true rfl, Nat.le_of_ble_eq_true rfl⟩) hP hD hS [1] (by decide) rfl rfl rfl hl.1 rfl (Nat.le_of_ble_eq_true rfl) ⟨Nat.zero_le _, Nat.zero_le _⟩ dX8_begin_13 (fun H locs hP hD hS => ?_)
  have hP : va_P D vwCl [(aM, .inr (7, [.int (0 : Int32), .ref aMtext, .int msize, .ref aMnow, .ref aMtrial, .ref aMdiary, .int o6.1, .ref aMkept, .ref aMisKept, .ref aMside, .ref aMwas, .int mspot, .int mout])), (aMnow, .inl (cI 0, 79, .inl o13.2)), (aMdiary, .inl (cI 0, 1106, .inl o6.2))] H := hP
  have hD : va_D A [(aM, .inr (7, [.int (0 : Int32), .ref aMtext, .int msize, .ref aMnow, .ref aMtrial, .ref aMdiary, .int o6.1, .ref aMkept, .ref aMisKept, .ref aMside, .ref aMwas, .int mspot, .int mout])), (aMnow, .inl (cI 0, 79, .inl o13.2)), (aMdiary, .inl (cI 0, 1106, .inl o6.2))] := hD
  have ho := Option.some.inj hq
  subst ho
  exact hend _ _ _ _ hP hS dX8_begin_16

theorem iw_X8_roll_X8 : ∀ w ∈ wsX80, w ∈ wsX8_roll := by decide +kernel
set_option maxHeartbeats 4000000 in
set_option maxRecDepth 100000 in
theorem mk_X8_roll (l : Launch) (D : va_G) (cI : Nat → ClassId) (aM aMtext aMnow aMtrial aMdiary aMkept aMisKept aMside aMwas : Nat) (sz : Nat) (mref : Int32) (msize : Int32) (macts : Int32) (mspot : Int32) (mout : Int32) (mnow : kF) (mdiary : kF) (mside : kF) (mwas : kF) (x1 : Int32) (x2 : Int32) (x3 : Int32) (x4 : Int32) (o : Int32 × Int32 × Int32 × kF × kF × kF × kF) (hq : fn_X8_roll mref macts mnow mdiary mside mwas x1 x2 x3 x4 = some o) : Met l yX8_roll wsX8_roll ({ frames := 6, cells := 0, slots := 0, locals := 146 }) (kPc D cI [(aM, .inr (7, [.int mref, .ref aMtext, .int msize, .ref aMnow, .ref aMtrial, .ref aMdiary, .int macts, .ref aMkept, .ref aMisKept, .ref aMside, .ref aMwas, .int mspot, .int mout])), (aMnow, .inl (cI 0, 79, .inl mnow)), (aMdiary, .inl (cI 0, 1106, .inl mdiary)), (aMside, .inl (cI 0, 10, .inl mside)), (aMwas, .inl (cI 0, 30, .inl mwas))] sz [.ref aM, .int x1, .int x2, .int x3, .int x4]) (kQi D [(aM, .inr (7, [.int mref, .ref aMtext, .int msize, .ref aMnow, .ref aMtrial, .ref aMdiary, .int macts, .ref aMkept, .ref aMisKept, .ref aMside, .ref aMwas, .int mspot, .int mout])), (aMnow, .inl (cI 0, 79, .inl mnow)), (aMdiary, .inl (cI 0, 1106, .inl mdiary)), (aMside, .inl (cI 0, 10, .inl mside)), (aMwas, .inl (cI 0, 30, .inl mwas))] [(aM, .inr (7, [.int o.2.1, .ref aMtext, .int msize, .ref aMnow, .ref aMtrial, .ref aMdiary, .int o.2.2.1, .ref aMkept, .ref aMisKept, .ref aMside, .ref aMwas, .int mspot, .int mout])), (aMnow, .inl (cI 0, 79, .inl o.2.2.2.1)), (aMdiary, .inl (cI 0, 1106, .inl o.2.2.2.2.1)), (aMside, .inl (cI 0, 10, .inl o.2.2.2.2.2.1)), (aMwas, .inl (cI 0, 30, .inl o.2.2.2.2.2.2))] sz o.1) 0 0 (va_A [(aM, .inr (7, [.int mref, .ref aMtext, .int msize, .ref aMnow, .ref aMtrial, .ref aMdiary, .int macts, .ref aMkept, .ref aMisKept, .ref aMside, .ref aMwas, .int mspot, .int mout])), (aMnow, .inl (cI 0, 79, .inl mnow)), (aMdiary, .inl (cI 0, 1106, .inl mdiary)), (aMside, .inl (cI 0, 10, .inl mside)), (aMwas, .inl (cI 0, 30, .inl mwas))] sz) := by
  refine kM_i (cc := cX8_roll) (maxL := 5) (by decide +kernel) rfl (Nat.le_of_ble_eq_true rfl) ?_
  intro p e s m args below meth c A Q hF hK hG hD hA hend ls hP hS hl
  obtain ⟨hx, hb, hml, hown, hts⟩ := id hF
  have hl : lv_has ls 5 [(0, .ref aM), (1, .int x1), (2, .int x2), (3, .int x3), (4, .int x4)] := hl
  have b_40 : ∀ (H : Heap) (locs : List Loc) (ls : Array Slot) (mref : Int32) (macts : Int32) (mnow : kF) (mdiary : kF) (mside : kF) (mwas : kF) (x1 : Int32) (x2 : Int32) (x3 : Int32) (x4 : Int32) (k1 : Int32), fn_X8_roll_40 mref macts mnow mdiary mside mwas x1 x2 x3 x4 k1 = some o → va_P D vwCl [(aM, .inr (7, [.int mref, .ref aMtext, .int msize, .ref aMnow, .ref aMtrial, .ref aMdiary, .int macts, .ref aMkept, .ref aMisKept, .ref aMside, .ref aMwas, .int mspot, .int mout])), (aMnow, .inl (cI 0, 79, .inl mnow)), (aMdiary, .inl (cI 0, 1106, .inl mdiary)), (aMside, .inl (cI 0, 10, .inl mside)), (aMwas, .inl (cI 0, 30, .inl mwas))] H → va_D A [(aM, .inr (7, [.int mref, .ref aMtext, .int msize, .ref aMnow, .ref aMtrial, .ref aMdiary, .int macts, .ref aMkept, .ref aMisKept, .ref aMside, .ref aMwas, .int mspot, .int mout])), (aMnow, .inl (cI 0, 79, .inl mnow)), (aMdiary, .inl (cI 0, 1106, .inl mdiary)), (aMside, .inl (cI 0, 10, .inl mside)), (aMwas, .inl (cI 0, 30, .inl mwas))] → va_S A s.heap H locs → lv_has ls 5 [(0, .ref aM), (1, .int x1), (2, .int x2), (3, .int x3), (4, .int x4)] → W p l e { frames := 6, cells := 0, slots := 0, locals := 146 } s m args below meth c H locs 0 0 Q (F0 m 40 ls [.int k1, .ref aM]) := by
    intro H locs ls mref macts mnow mdiary mside mwas x1 x2 x3 x4 k1
    intro hq hP hD hS hl
    obtain ⟨o40, ho40, hq⟩ := kbind hq
    refine kc_Vi (av := [.int k1]) (rest := []) hF hK hG hA (mk_X8_refused l D cI aM aMtext aMnow aMtrial aMdiary aMkept aMisKept aMside aMwas H.size mref msize macts mspot mout k1 o40 ho40) (cwV 1 hts gX8_roll_X8_refused rfl rfl rfl (by decide +kernel) ⟨Nat.le_of_ble_eq_true rfl, Nat.le_of_ble_eq_true rfl⟩) hP hD hS [0] (by decide) rfl rfl 0 rfl rfl rfl hl.1 rfl (Nat.le_of_ble_eq_true rfl) ⟨Nat.zero_le _, Nat.zero_le _⟩ dX8_roll_40 (fun H locs hP hD hS => ?_)
    have hP : va_P D vwCl [(aM, .inr (7, [.int o40.2, .ref aMtext, .int msize, .ref aMnow, .ref aMtrial, .ref aMdiary, .int macts, .ref aMkept, .ref aMisKept, .ref aMside, .ref aMwas, .int mspot, .int mout])), (aMnow, .inl (cI 0, 79, .inl mnow)), (aMdiary, .inl (cI 0, 1106, .inl mdiary)), (aMside, .inl (cI 0, 10, .inl mside)), (aMwas, .inl (cI 0, 30, .inl mwas))] H := hP
    have hD : va_D A [(aM, .inr (7, [.int o40.2, .ref aMtext, .int msize, .ref aMnow, .ref aMtrial, .ref aMdiary, .int macts, .ref aMkept, .ref aMisKept, .ref aMside, .ref aMwas, .int mspot, .int mout])), (aMnow, .inl (cI 0, 79, .inl mnow)), (aMdiary, .inl (cI 0, 1106, .inl mdiary)), (aMside, .inl (cI 0, 10, .inl mside)), (aMwas, .inl (cI 0, 30, .inl mwas))] := hD
    refine lv_if_eq (tgt := 48) hx hb dX8_roll_43 (by decide) (fun c9 => ?_) (fun c9 => ?_)
    · have hq := kite_t c9 hq
      refine lv_aload_n hx hb dX8_roll_48 rfl (lv_at hl 0 rfl) ?_
      obtain ⟨o49, ho49, hq⟩ := kbind hq
      refine kc_Vv (av := []) (rest := []) hF hK hG hA (mk_X8_remember l D cI aM aMtext aMnow aMtrial aMdiary aMkept aMisKept aMside aMwas H.size o40.2 msize macts mspot mout mnow mdiary o49 ho49) (cwV 0 hts gX8_roll_X8_remember rfl rfl rfl (by decide +kernel) ⟨Nat.le_of_ble_eq_true rfl, Nat.le_of_ble_eq_true rfl⟩) hP hD hS [0, 1, 2] (by decide) rfl rfl 0 rfl rfl rfl hl.1 rfl (Nat.le_of_ble_eq_true rfl) ⟨Nat.zero_le _, Nat.zero_le _⟩ dX8_roll_49 (fun H locs hP hD hS => ?_)
      have hP : va_P D vwCl [(aM, .inr (7, [.int o40.2, .ref aMtext, .int msize, .ref aMnow, .ref aMtrial, .ref aMdiary, .int o49.1, .ref aMkept, .ref aMisKept, .ref aMside, .ref aMwas, .int mspot, .int mout])), (aMnow, .inl (cI 0, 79, .inl mnow)), (aMdiary, .inl (cI 0, 1106, .inl o49.2)), (aMside, .inl (cI 0, 10, .inl mside)), (aMwas, .inl (cI 0, 30, .inl mwas))] H := hP
      have hD : va_D A [(aM, .inr (7, [.int o40.2, .ref aMtext, .int msize, .ref aMnow, .ref aMtrial, .ref aMdiary, .int o49.1, .ref aMkept, .ref aMisKept, .ref aMside, .ref aMwas, .int mspot, .int mout])), (aMnow, .inl (cI 0, 79, .inl mnow)), (aMdiary, .inl (cI 0, 1106, .inl o49.2)), (aMside, .inl (cI 0, 10, .inl mside)), (aMwas, .inl (cI 0, 30, .inl mwas))] := hD
      refine lv_aload_n hx hb dX8_roll_52 rfl (lv_at hl 0 rfl) ?_
      refine lv_aload_n hx hb dX8_roll_53 rfl (lv_at hl 0 rfl) ?_
      refine va_get (D := D) (ci := 7) (v := .ref aMnow) (C := RX8) (T := TX8) (N := 13) hx hb hts iw_X8_roll_X8 hown hK.1 hP 0 rfl rfl 3 (by decide) (hts (.fieldLink RX8 13 "PinDeckModel" "now" "[I") (by decide +kernel)) (fun _ h9 => h9) rfl dX8_roll_54 ?_
      refine lv_iload_n hx hb dX8_roll_57 rfl (lv_at hl 1 rfl) ?_
      refine lv_iload_n hx hb dX8_roll_58 rfl (lv_at hl 2 rfl) ?_
      refine lv_iload_n hx hb dX8_roll_59 rfl (lv_at hl 3 rfl) ?_
      refine lv_iload hx hb dX8_roll_60 (lv_at hl 4 rfl) ?_
      obtain ⟨o62, ho62, hq⟩ := kbind hq
      refine kc_Vi (av := [.ref aMnow, .int x1, .int x2, .int x3, .int x4]) (rest := []) hF hK hG hA (mk_X8_throwOn l D cI aM aMtext aMnow aMtrial aMdiary aMkept aMisKept aMside aMwas aMnow H.size o40.2 msize o49.1 mspot mout mside mwas mnow x1 x2 x3 x4 o62 ho62) (cwV 5 hts gX8_roll_X8_throwOn rfl rfl rfl (by decide +kernel) ⟨Nat.le_of_ble_eq_true rfl, Nat.le_of_ble_eq_true rfl⟩) hP hD hS [0, 3, 4, 1] (by decide) rfl rfl 0 rfl rfl rfl hl.1 rfl (Nat.le_of_ble_eq_true rfl) ⟨Nat.zero_le _, Nat.zero_le _⟩ dX8_roll_62 (fun H locs hP hD hS => ?_)
      have hP : va_P D vwCl [(aM, .inr (7, [.int o40.2, .ref aMtext, .int msize, .ref aMnow, .ref aMtrial, .ref aMdiary, .int o49.1, .ref aMkept, .ref aMisKept, .ref aMside, .ref aMwas, .int mspot, .int mout])), (aMnow, .inl (cI 0, 79, .inl o62.2.2.2)), (aMdiary, .inl (cI 0, 1106, .inl o49.2)), (aMside, .inl (cI 0, 10, .inl o62.2.1)), (aMwas, .inl (cI 0, 30, .inl o62.2.2.1))] H := hP
      have hD : va_D A [(aM, .inr (7, [.int o40.2, .ref aMtext, .int msize, .ref aMnow, .ref aMtrial, .ref aMdiary, .int o49.1, .ref aMkept, .ref aMisKept, .ref aMside, .ref aMwas, .int mspot, .int mout])), (aMnow, .inl (cI 0, 79, .inl o62.2.2.2)), (aMdiary, .inl (cI 0, 1106, .inl o49.2)), (aMside, .inl (cI 0, 10, .inl o62.2.1)), (aMwas, .inl (cI 0, 30, .inl o62.2.2.1))] := hD
      have ho := Option.some.inj hq
      subst ho
      exact hend _ _ _ _ hP hS dX8_roll_65
    · have hq := kite_f c9 hq
      refine lv_iconst (v := 0) hx hb dX8_roll_46 (by decide) ?_
      have ho := Option.some.inj hq
      subst ho
      exact hend _ _ _ _ hP hS dX8_roll_47
  have b_21 : ∀ (H : Heap) (locs : List Loc) (ls : Array Slot) (mref : Int32) (macts : Int32) (mnow : kF) (mdiary : kF) (mside : kF) (mwas : kF) (x1 : Int32) (x2 : Int32) (x3 : Int32) (x4 : Int32), fn_X8_roll_21 mref macts mnow mdiary mside mwas x1 x2 x3 x4 = some o → va_P D vwCl [(aM, .inr (7, [.int mref, .ref aMtext, .int msize, .ref aMnow, .ref aMtrial, .ref aMdiary, .int macts, .ref aMkept, .ref aMisKept, .ref aMside, .ref aMwas, .int mspot, .int mout])), (aMnow, .inl (cI 0, 79, .inl mnow)), (aMdiary, .inl (cI 0, 1106, .inl mdiary)), (aMside, .inl (cI 0, 10, .inl mside)), (aMwas, .inl (cI 0, 30, .inl mwas))] H → va_D A [(aM, .inr (7, [.int mref, .ref aMtext, .int msize, .ref aMnow, .ref aMtrial, .ref aMdiary, .int macts, .ref aMkept, .ref aMisKept, .ref aMside, .ref aMwas, .int mspot, .int mout])), (aMnow, .inl (cI 0, 79, .inl mnow)), (aMdiary, .inl (cI 0, 1106, .inl mdiary)), (aMside, .inl (cI 0, 10, .inl mside)), (aMwas, .inl (cI 0, 30, .inl mwas))] → va_S A s.heap H locs → lv_has ls 5 [(0, .ref aM), (1, .int x1), (2, .int x2), (3, .int x3), (4, .int x4)] → W p l e { frames := 6, cells := 0, slots := 0, locals := 146 } s m args below meth c H locs 0 0 Q (F0 m 21 ls [.ref aM]) := by
    intro H locs ls mref macts mnow mdiary mside mwas x1 x2 x3 x4
    intro hq hP hD hS hl
    refine lv_iconst (v := 1) hx hb dX8_roll_21 (by decide) ?_
    refine lv_goto (tgt := 40) hx hb dX8_roll_22 (by decide) ?_
    exact b_40  _ _ _ mref macts mnow mdiary mside mwas x1 x2 x3 x4 (1 : Int32) hq hP hD hS (lv_sub hl [0, 1, 2, 3, 4] rfl)
  refine lv_aload_n hx hb dX8_roll_0 rfl (lv_at hl 0 rfl) ?_
  refine lv_iload_n hx hb dX8_roll_1 rfl (lv_at hl 1 rfl) ?_
  refine lv_iload_n hx hb dX8_roll_2 rfl (lv_at hl 2 rfl) ?_
  obtain ⟨o3, ho3, hq⟩ := kbind hq
  refine kc_Si (av := [.int x1, .int x2]) (rest := [.ref aM]) hF hK hG hA (mk_X8_isBall l D cI s.heap.size x1 x2 o3 ho3) (va_cwS 2 hts gX8_roll_X8_isBall rfl rfl rfl (by decide +kernel) ⟨Nat.le_of_ble_eq_true rfl, Nat.le_of_ble_eq_true rfl⟩) hP hD hS [] (by decide) rfl rfl rfl hl.1 rfl (Nat.le_of_ble_eq_true rfl) ⟨Nat.zero_le _, Nat.zero_le _⟩ dX8_roll_3 (fun H locs hP hD hS => ?_)
  have hP : va_P D vwCl [(aM, .inr (7, [.int mref, .ref aMtext, .int msize, .ref aMnow, .ref aMtrial, .ref aMdiary, .int macts, .ref aMkept, .ref aMisKept, .ref aMside, .ref aMwas, .int mspot, .int mout])), (aMnow, .inl (cI 0, 79, .inl mnow)), (aMdiary, .inl (cI 0, 1106, .inl mdiary)), (aMside, .inl (cI 0, 10, .inl mside)), (aMwas, .inl (cI 0, 30, .inl mwas))] H := hP
  have hD : va_D A [(aM, .inr (7, [.int mref, .ref aMtext, .int msize, .ref aMnow, .ref aMtrial, .ref aMdiary, .int macts, .ref aMkept, .ref aMisKept, .ref aMside, .ref aMwas, .int mspot, .int mout])), (aMnow, .inl (cI 0, 79, .inl mnow)), (aMdiary, .inl (cI 0, 1106, .inl mdiary)), (aMside, .inl (cI 0, 10, .inl mside)), (aMwas, .inl (cI 0, 30, .inl mwas))] := hD
  refine lv_if_eq (tgt := 21) hx hb dX8_roll_6 (by decide) (fun c9 => ?_) (fun c9 => ?_)
  · have hq := kite_t c9 hq
    exact b_21  _ _ _ mref macts mnow mdiary mside mwas x1 x2 x3 x4 hq hP hD hS (lv_sub hl [0, 1, 2, 3, 4] rfl)
  · have hq := kite_f c9 hq
    refine lv_iload_n hx hb dX8_roll_9 rfl (lv_at hl 3 rfl) ?_
    refine lv_i2l (v := (x3).toInt64) hx hb dX8_roll_10 rfl ?_
    refine lv_lconst (v := 1) hx hb dX8_roll_11 (by decide) ?_
    refine lv_ldc2 (v := 30) hx hb hown (hts (.constantLong RX8 189 (30 : Int64)) (by decide +kernel)) dX8_roll_12 ?_
    obtain ⟨o15, ho15, hq⟩ := kbind hq
    refine kc_Si (av := [.long ((x3).toInt64), .long (1 : Int64), .long (30 : Int64)]) (rest := [.ref aM]) hF hK hG hA (mk_X8_in l D cI H.size ((x3).toInt64) (1 : Int64) (30 : Int64) o15 ho15) (va_cwS 3 hts gX8_roll_X8_in rfl rfl rfl (by decide +kernel) ⟨Nat.le_of_ble_eq_true rfl, Nat.le_of_ble_eq_true rfl⟩) hP hD hS [] (by decide) rfl rfl rfl hl.1 rfl (Nat.le_of_ble_eq_true rfl) ⟨Nat.zero_le _, Nat.zero_le _⟩ dX8_roll_15 (fun H locs hP hD hS => ?_)
    have hP : va_P D vwCl [(aM, .inr (7, [.int mref, .ref aMtext, .int msize, .ref aMnow, .ref aMtrial, .ref aMdiary, .int macts, .ref aMkept, .ref aMisKept, .ref aMside, .ref aMwas, .int mspot, .int mout])), (aMnow, .inl (cI 0, 79, .inl mnow)), (aMdiary, .inl (cI 0, 1106, .inl mdiary)), (aMside, .inl (cI 0, 10, .inl mside)), (aMwas, .inl (cI 0, 30, .inl mwas))] H := hP
    have hD : va_D A [(aM, .inr (7, [.int mref, .ref aMtext, .int msize, .ref aMnow, .ref aMtrial, .ref aMdiary, .int macts, .ref aMkept, .ref aMisKept, .ref aMside, .ref aMwas, .int mspot, .int mout])), (aMnow, .inl (cI 0, 79, .inl mnow)), (aMdiary, .inl (cI 0, 1106, .inl mdiary)), (aMside, .inl (cI 0, 10, .inl mside)), (aMwas, .inl (cI 0, 30, .inl mwas))] := hD
    refine lv_if_ne (tgt := 25) hx hb dX8_roll_18 (by decide) (fun c9 => ?_) (fun c9 => ?_)
    · have hq := kite_f c9 hq
      refine lv_aload_n hx hb dX8_roll_25 rfl (lv_at hl 0 rfl) ?_
      refine va_get (D := D) (ci := 7) (v := .ref aMnow) (C := RX8) (T := TX8) (N := 13) hx hb hts iw_X8_roll_X8 hown hK.1 hP 0 rfl rfl 3 (by decide) (hts (.fieldLink RX8 13 "PinDeckModel" "now" "[I") (by decide +kernel)) (fun _ h9 => h9) rfl dX8_roll_26 ?_
      obtain ⟨o29, ho29, hq⟩ := kbind hq
      refine kc_Si (av := [.ref aMnow]) (rest := [.ref aM]) hF hK hG hA (mk_X8_isOver l D cI aMnow H.size mnow o29 ho29) (va_cwS 1 hts gX8_roll_X8_isOver rfl rfl rfl (by decide +kernel) ⟨Nat.le_of_ble_eq_true rfl, Nat.le_of_ble_eq_true rfl⟩) hP hD hS [1] (by decide) rfl rfl rfl hl.1 rfl (Nat.le_of_ble_eq_true rfl) ⟨Nat.zero_le _, Nat.zero_le _⟩ dX8_roll_29 (fun H locs hP hD hS => ?_)
      have hP : va_P D vwCl [(aM, .inr (7, [.int mref, .ref aMtext, .int msize, .ref aMnow, .ref aMtrial, .ref aMdiary, .int macts, .ref aMkept, .ref aMisKept, .ref aMside, .ref aMwas, .int mspot, .int mout])), (aMnow, .inl (cI 0, 79, .inl mnow)), (aMdiary, .inl (cI 0, 1106, .inl mdiary)), (aMside, .inl (cI 0, 10, .inl mside)), (aMwas, .inl (cI 0, 30, .inl mwas))] H := hP
      have hD : va_D A [(aM, .inr (7, [.int mref, .ref aMtext, .int msize, .ref aMnow, .ref aMtrial, .ref aMdiary, .int macts, .ref aMkept, .ref aMisKept, .ref aMside, .ref aMwas, .int mspot, .int mout])), (aMnow, .inl (cI 0, 79, .inl mnow)), (aMdiary, .inl (cI 0, 1106, .inl mdiary)), (aMside, .inl (cI 0, 10, .inl mside)), (aMwas, .inl (cI 0, 30, .inl mwas))] := hD
      refine lv_if_eq (tgt := 39) hx hb dX8_roll_32 (by decide) (fun c9 => ?_) (fun c9 => ?_)
      · have hq := kite_t c9 hq
        refine lv_iconst (v := 0) hx hb dX8_roll_39 (by decide) ?_
        exact b_40  _ _ _ mref macts mnow mdiary mside mwas x1 x2 x3 x4 (0 : Int32) hq hP hD hS (lv_sub hl [0, 1, 2, 3, 4] rfl)
      · have hq := kite_f c9 hq
        refine lv_iconst (v := 2) hx hb dX8_roll_35 (by decide) ?_
        refine lv_goto (tgt := 40) hx hb dX8_roll_36 (by decide) ?_
        exact b_40  _ _ _ mref macts mnow mdiary mside mwas x1 x2 x3 x4 (2 : Int32) hq hP hD hS (lv_sub hl [0, 1, 2, 3, 4] rfl)
    · have hq := kite_t c9 hq
      exact b_21  _ _ _ mref macts mnow mdiary mside mwas x1 x2 x3 x4 hq hP hD hS (lv_sub hl [0, 1, 2, 3, 4] rfl)

set_option maxHeartbeats 4000000 in
set_option maxRecDepth 100000 in
theorem mk_X8_touchOn (l : Launch) (D : va_G) (cI : Nat → ClassId) (aR : Nat) (sz : Nat) (r : kF) (x1 : Int32) (x2 : Int32) (o : Int32 × kF) (hq : fn_X8_touchOn r x1 x2 = some o) : Met l yX8_touchOn wsX8_touchOn ({ frames := 0, cells := 0, slots := 0, locals := 0 }) (kPc D cI [(aR, .inl (cI 0, 79, .inl r))] sz [.ref aR, .int x1, .int x2]) (kQi D [(aR, .inl (cI 0, 79, .inl r))] [(aR, .inl (cI 0, 79, .inl o.2))] sz o.1) 0 0 (va_A [(aR, .inl (cI 0, 79, .inl r))] sz) := by
  refine kM_i (cc := cX8_touchOn) (maxL := 4) (by decide +kernel) rfl (Nat.le_of_ble_eq_true rfl) ?_
  intro p e s m args below meth c A Q hF hK hG hD hA hend ls hP hS hl
  obtain ⟨hx, hb, hml, hown, hts⟩ := id hF
  have hl : lv_has ls 4 [(0, .ref aR), (1, .int x1), (2, .int x2)] := hl
  refine lv_aload_n hx hb dX8_touchOn_0 rfl (lv_at hl 0 rfl) ?_
  refine lv_iconst (v := 0) hx hb dX8_touchOn_1 (by decide) ?_
  refine lv_iload_n hx hb dX8_touchOn_2 rfl (lv_at hl 1 rfl) ?_
  refine lv_iadd hx hb dX8_touchOn_3 ?_
  obtain ⟨hz, hq⟩ := kite_n hq
  refine k_iald (j := (((0 : Int32) + x1).toNatClampNeg)) hx hb hK.1 hP 0 0 rfl rfl hz rfl dX8_touchOn_4 ?_
  refine lv_istore_n (lv' := [(3, .int (r (((0 : Int32) + x1).toNatClampNeg))), (0, .ref aR), (1, .int x1), (2, .int x2)]) hx hb dX8_touchOn_5 rfl hl (by decide) rfl (fun ls hl => ?_)
  refine lv_aload_n hx hb dX8_touchOn_6 rfl (lv_at hl 1 rfl) ?_
  refine lv_iconst (v := 0) hx hb dX8_touchOn_7 (by decide) ?_
  refine lv_iload_n hx hb dX8_touchOn_8 rfl (lv_at hl 2 rfl) ?_
  refine lv_iadd hx hb dX8_touchOn_9 ?_
  refine lv_iload_n hx hb dX8_touchOn_10 rfl (lv_at hl 3 rfl) ?_
  obtain ⟨hz, hq⟩ := kite_n hq
  refine k_iast (j := (((0 : Int32) + x1).toNatClampNeg)) hx hb hK.1 hP hD hS 0 0 rfl rfl hz rfl dX8_touchOn_11 (fun H locs hP hD hS => ?_)
  have hP : va_P D vwCl [(aR, .inl (cI 0, 79, .inl (upd r (((0 : Int32) + x1).toNatClampNeg) x2)))] H := hP
  have hD : va_D A [(aR, .inl (cI 0, 79, .inl (upd r (((0 : Int32) + x1).toNatClampNeg) x2)))] := hD
  refine lv_iload_n hx hb dX8_touchOn_12 rfl (lv_at hl 0 rfl) ?_
  have ho := Option.some.inj hq
  subst ho
  exact hend _ _ _ _ hP hS dX8_touchOn_13

theorem iw_X8_touch_X8 : ∀ w ∈ wsX80, w ∈ wsX8_touch := by decide +kernel
set_option maxHeartbeats 4000000 in
set_option maxRecDepth 100000 in
theorem mk_X8_touch (l : Launch) (D : va_G) (cI : Nat → ClassId) (aM aMtext aMnow aMtrial aMdiary aMkept aMisKept aMside aMwas : Nat) (sz : Nat) (mref : Int32) (msize : Int32) (macts : Int32) (mspot : Int32) (mout : Int32) (mnow : kF) (mdiary : kF) (x1 : Int32) (x2 : Int32) (o : Int32 × Int32 × Int32 × kF × kF) (hq : fn_X8_touch mref macts mnow mdiary x1 x2 = some o) : Met l yX8_touch wsX8_touch ({ frames := 2, cells := 0, slots := 0, locals := 45 }) (kPc D cI [(aM, .inr (7, [.int mref, .ref aMtext, .int msize, .ref aMnow, .ref aMtrial, .ref aMdiary, .int macts, .ref aMkept, .ref aMisKept, .ref aMside, .ref aMwas, .int mspot, .int mout])), (aMnow, .inl (cI 0, 79, .inl mnow)), (aMdiary, .inl (cI 0, 1106, .inl mdiary))] sz [.ref aM, .int x1, .int x2]) (kQi D [(aM, .inr (7, [.int mref, .ref aMtext, .int msize, .ref aMnow, .ref aMtrial, .ref aMdiary, .int macts, .ref aMkept, .ref aMisKept, .ref aMside, .ref aMwas, .int mspot, .int mout])), (aMnow, .inl (cI 0, 79, .inl mnow)), (aMdiary, .inl (cI 0, 1106, .inl mdiary))] [(aM, .inr (7, [.int o.2.1, .ref aMtext, .int msize, .ref aMnow, .ref aMtrial, .ref aMdiary, .int o.2.2.1, .ref aMkept, .ref aMisKept, .ref aMside, .ref aMwas, .int mspot, .int mout])), (aMnow, .inl (cI 0, 79, .inl o.2.2.2.1)), (aMdiary, .inl (cI 0, 1106, .inl o.2.2.2.2))] sz o.1) 0 0 (va_A [(aM, .inr (7, [.int mref, .ref aMtext, .int msize, .ref aMnow, .ref aMtrial, .ref aMdiary, .int macts, .ref aMkept, .ref aMisKept, .ref aMside, .ref aMwas, .int mspot, .int mout])), (aMnow, .inl (cI 0, 79, .inl mnow)), (aMdiary, .inl (cI 0, 1106, .inl mdiary))] sz) := by
  refine kM_i (cc := cX8_touch) (maxL := 3) (by decide +kernel) rfl (Nat.le_of_ble_eq_true rfl) ?_
  intro p e s m args below meth c A Q hF hK hG hD hA hend ls hP hS hl
  obtain ⟨hx, hb, hml, hown, hts⟩ := id hF
  have hl : lv_has ls 3 [(0, .ref aM), (1, .int x1), (2, .int x2)] := hl
  have b_45 : ∀ (H : Heap) (locs : List Loc) (ls : Array Slot) (mref : Int32) (macts : Int32) (mnow : kF) (mdiary : kF) (x1 : Int32) (x2 : Int32) (k1 : Int32), fn_X8_touch_45 mref macts mnow mdiary x1 x2 k1 = some o → va_P D vwCl [(aM, .inr (7, [.int mref, .ref aMtext, .int msize, .ref aMnow, .ref aMtrial, .ref aMdiary, .int macts, .ref aMkept, .ref aMisKept, .ref aMside, .ref aMwas, .int mspot, .int mout])), (aMnow, .inl (cI 0, 79, .inl mnow)), (aMdiary, .inl (cI 0, 1106, .inl mdiary))] H → va_D A [(aM, .inr (7, [.int mref, .ref aMtext, .int msize, .ref aMnow, .ref aMtrial, .ref aMdiary, .int macts, .ref aMkept, .ref aMisKept, .ref aMside, .ref aMwas, .int mspot, .int mout])), (aMnow, .inl (cI 0, 79, .inl mnow)), (aMdiary, .inl (cI 0, 1106, .inl mdiary))] → va_S A s.heap H locs → lv_has ls 3 [(0, .ref aM), (1, .int x1), (2, .int x2)] → W p l e { frames := 2, cells := 0, slots := 0, locals := 45 } s m args below meth c H locs 0 0 Q (F0 m 45 ls [.int k1, .ref aM]) := by
    intro H locs ls mref macts mnow mdiary x1 x2 k1
    intro hq hP hD hS hl
    obtain ⟨o45, ho45, hq⟩ := kbind hq
    refine kc_Vi (av := [.int k1]) (rest := []) hF hK hG hA (mk_X8_refused l D cI aM aMtext aMnow aMtrial aMdiary aMkept aMisKept aMside aMwas H.size mref msize macts mspot mout k1 o45 ho45) (cwV 1 hts gX8_touch_X8_refused rfl rfl rfl (by decide +kernel) ⟨Nat.le_of_ble_eq_true rfl, Nat.le_of_ble_eq_true rfl⟩) hP hD hS [0] (by decide) rfl rfl 0 rfl rfl rfl hl.1 rfl (Nat.le_of_ble_eq_true rfl) ⟨Nat.zero_le _, Nat.zero_le _⟩ dX8_touch_45 (fun H locs hP hD hS => ?_)
    have hP : va_P D vwCl [(aM, .inr (7, [.int o45.2, .ref aMtext, .int msize, .ref aMnow, .ref aMtrial, .ref aMdiary, .int macts, .ref aMkept, .ref aMisKept, .ref aMside, .ref aMwas, .int mspot, .int mout])), (aMnow, .inl (cI 0, 79, .inl mnow)), (aMdiary, .inl (cI 0, 1106, .inl mdiary))] H := hP
    have hD : va_D A [(aM, .inr (7, [.int o45.2, .ref aMtext, .int msize, .ref aMnow, .ref aMtrial, .ref aMdiary, .int macts, .ref aMkept, .ref aMisKept, .ref aMside, .ref aMwas, .int mspot, .int mout])), (aMnow, .inl (cI 0, 79, .inl mnow)), (aMdiary, .inl (cI 0, 1106, .inl mdiary))] := hD
    refine lv_if_eq (tgt := 53) hx hb dX8_touch_48 (by decide) (fun c9 => ?_) (fun c9 => ?_)
    · have hq := kite_t c9 hq
      refine lv_aload_n hx hb dX8_touch_53 rfl (lv_at hl 0 rfl) ?_
      obtain ⟨o54, ho54, hq⟩ := kbind hq
      refine kc_Vv (av := []) (rest := []) hF hK hG hA (mk_X8_remember l D cI aM aMtext aMnow aMtrial aMdiary aMkept aMisKept aMside aMwas H.size o45.2 msize macts mspot mout mnow mdiary o54 ho54) (cwV 0 hts gX8_touch_X8_remember rfl rfl rfl (by decide +kernel) ⟨Nat.le_of_ble_eq_true rfl, Nat.le_of_ble_eq_true rfl⟩) hP hD hS [0, 1, 2] (by decide) rfl rfl 0 rfl rfl rfl hl.1 rfl (Nat.le_of_ble_eq_true rfl) ⟨Nat.zero_le _, Nat.zero_le _⟩ dX8_touch_54 (fun H locs hP hD hS => ?_)
      have hP : va_P D vwCl [(aM, .inr (7, [.int o45.2, .ref aMtext, .int msize, .ref aMnow, .ref aMtrial, .ref aMdiary, .int o54.1, .ref aMkept, .ref aMisKept, .ref aMside, .ref aMwas, .int mspot, .int mout])), (aMnow, .inl (cI 0, 79, .inl mnow)), (aMdiary, .inl (cI 0, 1106, .inl o54.2))] H := hP
      have hD : va_D A [(aM, .inr (7, [.int o45.2, .ref aMtext, .int msize, .ref aMnow, .ref aMtrial, .ref aMdiary, .int o54.1, .ref aMkept, .ref aMisKept, .ref aMside, .ref aMwas, .int mspot, .int mout])), (aMnow, .inl (cI 0, 79, .inl mnow)), (aMdiary, .inl (cI 0, 1106, .inl o54.2))] := hD
      refine lv_aload_n hx hb dX8_touch_57 rfl (lv_at hl 0 rfl) ?_
      refine va_get (D := D) (ci := 7) (v := .ref aMnow) (C := RX8) (T := TX8) (N := 13) hx hb hts iw_X8_touch_X8 hown hK.1 hP 0 rfl rfl 3 (by decide) (hts (.fieldLink RX8 13 "PinDeckModel" "now" "[I") (by decide +kernel)) (fun _ h9 => h9) rfl dX8_touch_58 ?_
      refine lv_iload_n hx hb dX8_touch_61 rfl (lv_at hl 1 rfl) ?_
      refine lv_iload_n hx hb dX8_touch_62 rfl (lv_at hl 2 rfl) ?_
      obtain ⟨o63, ho63, hq⟩ := kbind hq
      refine kc_Si (av := [.ref aMnow, .int x1, .int x2]) (rest := []) hF hK hG hA (mk_X8_touchOn l D cI aMnow H.size mnow x1 x2 o63 ho63) (va_cwS 3 hts gX8_touch_X8_touchOn rfl rfl rfl (by decide +kernel) ⟨Nat.le_of_ble_eq_true rfl, Nat.le_of_ble_eq_true rfl⟩) hP hD hS [1] (by decide) rfl rfl rfl hl.1 rfl (Nat.le_of_ble_eq_true rfl) ⟨Nat.zero_le _, Nat.zero_le _⟩ dX8_touch_63 (fun H locs hP hD hS => ?_)
      have hP : va_P D vwCl [(aM, .inr (7, [.int o45.2, .ref aMtext, .int msize, .ref aMnow, .ref aMtrial, .ref aMdiary, .int o54.1, .ref aMkept, .ref aMisKept, .ref aMside, .ref aMwas, .int mspot, .int mout])), (aMnow, .inl (cI 0, 79, .inl o63.2)), (aMdiary, .inl (cI 0, 1106, .inl o54.2))] H := hP
      have hD : va_D A [(aM, .inr (7, [.int o45.2, .ref aMtext, .int msize, .ref aMnow, .ref aMtrial, .ref aMdiary, .int o54.1, .ref aMkept, .ref aMisKept, .ref aMside, .ref aMwas, .int mspot, .int mout])), (aMnow, .inl (cI 0, 79, .inl o63.2)), (aMdiary, .inl (cI 0, 1106, .inl o54.2))] := hD
      have ho := Option.some.inj hq
      subst ho
      exact hend _ _ _ _ hP hS dX8_touch_66
    · have hq := kite_f c9 hq
      refine lv_iconst (v := 0) hx hb dX8_touch_51 (by decide) ?_
      have ho := Option.some.inj hq
      subst ho
      exact hend _ _ _ _ hP hS dX8_touch_52
  refine lv_aload_n hx hb dX8_touch_0 rfl (lv_at hl 0 rfl) ?_
  refine lv_iload_n hx hb dX8_touch_1 rfl (lv_at hl 1 rfl) ?_
  obtain ⟨o2, ho2, hq⟩ := kbind hq
  refine kc_Si (av := [.int x1]) (rest := [.ref aM]) hF hK hG hA (mk_X8_isPin l D cI s.heap.size x1 o2 ho2) (va_cwS 1 hts gX8_touch_X8_isPin rfl rfl rfl (by decide +kernel) ⟨Nat.le_of_ble_eq_true rfl, Nat.le_of_ble_eq_true rfl⟩) hP hD hS [] (by decide) rfl rfl rfl hl.1 rfl (Nat.le_of_ble_eq_true rfl) ⟨Nat.zero_le _, Nat.zero_le _⟩ dX8_touch_2 (fun H locs hP hD hS => ?_)
  have hP : va_P D vwCl [(aM, .inr (7, [.int mref, .ref aMtext, .int msize, .ref aMnow, .ref aMtrial, .ref aMdiary, .int macts, .ref aMkept, .ref aMisKept, .ref aMside, .ref aMwas, .int mspot, .int mout])), (aMnow, .inl (cI 0, 79, .inl mnow)), (aMdiary, .inl (cI 0, 1106, .inl mdiary))] H := hP
  have hD : va_D A [(aM, .inr (7, [.int mref, .ref aMtext, .int msize, .ref aMnow, .ref aMtrial, .ref aMdiary, .int macts, .ref aMkept, .ref aMisKept, .ref aMside, .ref aMwas, .int mspot, .int mout])), (aMnow, .inl (cI 0, 79, .inl mnow)), (aMdiary, .inl (cI 0, 1106, .inl mdiary))] := hD
  refine lv_if_ne (tgt := 12) hx hb dX8_touch_5 (by decide) (fun c9 => ?_) (fun c9 => ?_)
  · have hq := kite_f c9 hq
    refine lv_iload_n hx hb dX8_touch_12 rfl (lv_at hl 2 rfl) ?_
    refine lv_i2l (v := (x2).toInt64) hx hb dX8_touch_13 rfl ?_
    refine lv_lconst (v := 0) hx hb dX8_touch_14 (by decide) ?_
    refine lv_ldc2 (v := 3) hx hb hown (hts (.constantLong RX8 71 (3 : Int64)) (by decide +kernel)) dX8_touch_15 ?_
    obtain ⟨o18, ho18, hq⟩ := kbind hq
    refine kc_Si (av := [.long ((x2).toInt64), .long (0 : Int64), .long (3 : Int64)]) (rest := [.ref aM]) hF hK hG hA (mk_X8_in l D cI H.size ((x2).toInt64) (0 : Int64) (3 : Int64) o18 ho18) (va_cwS 3 hts gX8_touch_X8_in rfl rfl rfl (by decide +kernel) ⟨Nat.le_of_ble_eq_true rfl, Nat.le_of_ble_eq_true rfl⟩) hP hD hS [] (by decide) rfl rfl rfl hl.1 rfl (Nat.le_of_ble_eq_true rfl) ⟨Nat.zero_le _, Nat.zero_le _⟩ dX8_touch_18 (fun H locs hP hD hS => ?_)
    have hP : va_P D vwCl [(aM, .inr (7, [.int mref, .ref aMtext, .int msize, .ref aMnow, .ref aMtrial, .ref aMdiary, .int macts, .ref aMkept, .ref aMisKept, .ref aMside, .ref aMwas, .int mspot, .int mout])), (aMnow, .inl (cI 0, 79, .inl mnow)), (aMdiary, .inl (cI 0, 1106, .inl mdiary))] H := hP
    have hD : va_D A [(aM, .inr (7, [.int mref, .ref aMtext, .int msize, .ref aMnow, .ref aMtrial, .ref aMdiary, .int macts, .ref aMkept, .ref aMisKept, .ref aMside, .ref aMwas, .int mspot, .int mout])), (aMnow, .inl (cI 0, 79, .inl mnow)), (aMdiary, .inl (cI 0, 1106, .inl mdiary))] := hD
    refine lv_if_ne (tgt := 28) hx hb dX8_touch_21 (by decide) (fun c9 => ?_) (fun c9 => ?_)
    · have hq := kite_f c9 hq
      refine lv_aload_n hx hb dX8_touch_28 rfl (lv_at hl 0 rfl) ?_
      refine va_get (D := D) (ci := 7) (v := .ref aMnow) (C := RX8) (T := TX8) (N := 13) hx hb hts iw_X8_touch_X8 hown hK.1 hP 0 rfl rfl 3 (by decide) (hts (.fieldLink RX8 13 "PinDeckModel" "now" "[I") (by decide +kernel)) (fun _ h9 => h9) rfl dX8_touch_29 ?_
      refine lv_iconst (v := 0) hx hb dX8_touch_32 (by decide) ?_
      refine lv_iload_n hx hb dX8_touch_33 rfl (lv_at hl 1 rfl) ?_
      refine lv_iadd hx hb dX8_touch_34 ?_
      obtain ⟨hz, hq⟩ := kite_n hq
      refine k_iald (j := (((0 : Int32) + x1).toNatClampNeg)) hx hb hK.1 hP 1 0 rfl rfl hz rfl dX8_touch_35 ?_
      refine lv_iconst (v := 4) hx hb dX8_touch_36 (by decide) ?_
      refine lv_icmp_ne (tgt := 44) hx hb dX8_touch_37 (by decide) (fun c9 => ?_) (fun c9 => ?_)
      · have hq := kite_f c9 hq
        refine lv_iconst (v := 0) hx hb dX8_touch_44 (by decide) ?_
        exact b_45  _ _ _ mref macts mnow mdiary x1 x2 (0 : Int32) hq hP hD hS (lv_sub hl [0, 1, 2] rfl)
      · have hq := kite_t c9 hq
        refine lv_iconst (v := 3) hx hb dX8_touch_40 (by decide) ?_
        refine lv_goto (tgt := 45) hx hb dX8_touch_41 (by decide) ?_
        exact b_45  _ _ _ mref macts mnow mdiary x1 x2 (3 : Int32) hq hP hD hS (lv_sub hl [0, 1, 2] rfl)
    · have hq := kite_t c9 hq
      refine lv_iconst (v := 2) hx hb dX8_touch_24 (by decide) ?_
      refine lv_goto (tgt := 45) hx hb dX8_touch_25 (by decide) ?_
      exact b_45  _ _ _ mref macts mnow mdiary x1 x2 (2 : Int32) hq hP hD hS (lv_sub hl [0, 1, 2] rfl)
  · have hq := kite_t c9 hq
    refine lv_iconst (v := 1) hx hb dX8_touch_8 (by decide) ?_
    refine lv_goto (tgt := 45) hx hb dX8_touch_9 (by decide) ?_
    exact b_45  _ _ _ mref macts mnow mdiary x1 x2 (1 : Int32) hq hP hD hS (lv_sub hl [0, 1, 2] rfl)

theorem iw_X8_set_X8 : ∀ w ∈ wsX80, w ∈ wsX8_set := by decide +kernel
set_option maxHeartbeats 4000000 in
set_option maxRecDepth 100000 in
theorem mk_X8_set (l : Launch) (D : va_G) (cI : Nat → ClassId) (aM aMtext aMnow aMtrial aMdiary aMkept aMisKept aMside aMwas : Nat) (sz : Nat) (mref : Int32) (msize : Int32) (macts : Int32) (mspot : Int32) (mout : Int32) (mnow : kF) (mdiary : kF) (x1 : Int32) (x2 : Int32) (o : Int32 × Int32 × Int32 × kF × kF) (hq : fn_X8_set mref macts mnow mdiary x1 x2 = some o) : Met l yX8_set wsX8_set ({ frames := 2, cells := 0, slots := 0, locals := 46 }) (kPc D cI [(aM, .inr (7, [.int mref, .ref aMtext, .int msize, .ref aMnow, .ref aMtrial, .ref aMdiary, .int macts, .ref aMkept, .ref aMisKept, .ref aMside, .ref aMwas, .int mspot, .int mout])), (aMnow, .inl (cI 0, 79, .inl mnow)), (aMdiary, .inl (cI 0, 1106, .inl mdiary))] sz [.ref aM, .int x1, .int x2]) (kQi D [(aM, .inr (7, [.int mref, .ref aMtext, .int msize, .ref aMnow, .ref aMtrial, .ref aMdiary, .int macts, .ref aMkept, .ref aMisKept, .ref aMside, .ref aMwas, .int mspot, .int mout])), (aMnow, .inl (cI 0, 79, .inl mnow)), (aMdiary, .inl (cI 0, 1106, .inl mdiary))] [(aM, .inr (7, [.int o.2.1, .ref aMtext, .int msize, .ref aMnow, .ref aMtrial, .ref aMdiary, .int o.2.2.1, .ref aMkept, .ref aMisKept, .ref aMside, .ref aMwas, .int mspot, .int mout])), (aMnow, .inl (cI 0, 79, .inl o.2.2.2.1)), (aMdiary, .inl (cI 0, 1106, .inl o.2.2.2.2))] sz o.1) 0 0 (va_A [(aM, .inr (7, [.int mref, .ref aMtext, .int msize, .ref aMnow, .ref aMtrial, .ref aMdiary, .int macts, .ref aMkept, .ref aMisKept, .ref aMside, .ref aMwas, .int mspot, .int mout])), (aMnow, .inl (cI 0, 79, .inl mnow)), (aMdiary, .inl (cI 0, 1106, .inl mdiary))] sz) := by
  refine kM_i (cc := cX8_set) (maxL := 4) (by decide +kernel) rfl (Nat.le_of_ble_eq_true rfl) ?_
  intro p e s m args below meth c A Q hF hK hG hD hA hend ls hP hS hl
  obtain ⟨hx, hb, hml, hown, hts⟩ := id hF
  have hl : lv_has ls 4 [(0, .ref aM), (1, .int x1), (2, .int x2)] := hl
  have b_14 : ∀ (H : Heap) (locs : List Loc) (ls : Array Slot) (mref : Int32) (macts : Int32) (mnow : kF) (mdiary : kF) (x1 : Int32) (x2 : Int32) (k1 : Int32), fn_X8_set_14 mref macts mnow mdiary x1 x2 k1 = some o → va_P D vwCl [(aM, .inr (7, [.int mref, .ref aMtext, .int msize, .ref aMnow, .ref aMtrial, .ref aMdiary, .int macts, .ref aMkept, .ref aMisKept, .ref aMside, .ref aMwas, .int mspot, .int mout])), (aMnow, .inl (cI 0, 79, .inl mnow)), (aMdiary, .inl (cI 0, 1106, .inl mdiary))] H → va_D A [(aM, .inr (7, [.int mref, .ref aMtext, .int msize, .ref aMnow, .ref aMtrial, .ref aMdiary, .int macts, .ref aMkept, .ref aMisKept, .ref aMside, .ref aMwas, .int mspot, .int mout])), (aMnow, .inl (cI 0, 79, .inl mnow)), (aMdiary, .inl (cI 0, 1106, .inl mdiary))] → va_S A s.heap H locs → lv_has ls 4 [(0, .ref aM), (1, .int x1), (2, .int x2)] → W p l e { frames := 2, cells := 0, slots := 0, locals := 46 } s m args below meth c H locs 0 0 Q (F0 m 14 ls [.int k1, .ref aM]) := by
    intro H locs ls mref macts mnow mdiary x1 x2 k1
    intro hq hP hD hS hl
    obtain ⟨o14, ho14, hq⟩ := kbind hq
    refine kc_Vi (av := [.int k1]) (rest := []) hF hK hG hA (mk_X8_refused l D cI aM aMtext aMnow aMtrial aMdiary aMkept aMisKept aMside aMwas H.size mref msize macts mspot mout k1 o14 ho14) (cwV 1 hts gX8_set_X8_refused rfl rfl rfl (by decide +kernel) ⟨Nat.le_of_ble_eq_true rfl, Nat.le_of_ble_eq_true rfl⟩) hP hD hS [0] (by decide) rfl rfl 0 rfl rfl rfl hl.1 rfl (Nat.le_of_ble_eq_true rfl) ⟨Nat.zero_le _, Nat.zero_le _⟩ dX8_set_14 (fun H locs hP hD hS => ?_)
    have hP : va_P D vwCl [(aM, .inr (7, [.int o14.2, .ref aMtext, .int msize, .ref aMnow, .ref aMtrial, .ref aMdiary, .int macts, .ref aMkept, .ref aMisKept, .ref aMside, .ref aMwas, .int mspot, .int mout])), (aMnow, .inl (cI 0, 79, .inl mnow)), (aMdiary, .inl (cI 0, 1106, .inl mdiary))] H := hP
    have hD : va_D A [(aM, .inr (7, [.int o14.2, .ref aMtext, .int msize, .ref aMnow, .ref aMtrial, .ref aMdiary, .int macts, .ref aMkept, .ref aMisKept, .ref aMside, .ref aMwas, .int mspot, .int mout])), (aMnow, .inl (cI 0, 79, .inl mnow)), (aMdiary, .inl (cI 0, 1106, .inl mdiary))] := hD
    refine lv_if_eq (tgt := 22) hx hb dX8_set_17 (by decide) (fun c9 => ?_) (fun c9 => ?_)
    · have hq := kite_t c9 hq
      refine lv_aload_n hx hb dX8_set_22 rfl (lv_at hl 0 rfl) ?_
      obtain ⟨o23, ho23, hq⟩ := kbind hq
      refine kc_Vv (av := []) (rest := []) hF hK hG hA (mk_X8_remember l D cI aM aMtext aMnow aMtrial aMdiary aMkept aMisKept aMside aMwas H.size o14.2 msize macts mspot mout mnow mdiary o23 ho23) (cwV 0 hts gX8_set_X8_remember rfl rfl rfl (by decide +kernel) ⟨Nat.le_of_ble_eq_true rfl, Nat.le_of_ble_eq_true rfl⟩) hP hD hS [0, 1, 2] (by decide) rfl rfl 0 rfl rfl rfl hl.1 rfl (Nat.le_of_ble_eq_true rfl) ⟨Nat.zero_le _, Nat.zero_le _⟩ dX8_set_23 (fun H locs hP hD hS => ?_)
      have hP : va_P D vwCl [(aM, .inr (7, [.int o14.2, .ref aMtext, .int msize, .ref aMnow, .ref aMtrial, .ref aMdiary, .int o23.1, .ref aMkept, .ref aMisKept, .ref aMside, .ref aMwas, .int mspot, .int mout])), (aMnow, .inl (cI 0, 79, .inl mnow)), (aMdiary, .inl (cI 0, 1106, .inl o23.2))] H := hP
      have hD : va_D A [(aM, .inr (7, [.int o14.2, .ref aMtext, .int msize, .ref aMnow, .ref aMtrial, .ref aMdiary, .int o23.1, .ref aMkept, .ref aMisKept, .ref aMside, .ref aMwas, .int mspot, .int mout])), (aMnow, .inl (cI 0, 79, .inl mnow)), (aMdiary, .inl (cI 0, 1106, .inl o23.2))] := hD
      refine lv_aload_n hx hb dX8_set_26 rfl (lv_at hl 0 rfl) ?_
      refine va_get (D := D) (ci := 7) (v := .ref aMnow) (C := RX8) (T := TX8) (N := 13) hx hb hts iw_X8_set_X8 hown hK.1 hP 0 rfl rfl 3 (by decide) (hts (.fieldLink RX8 13 "PinDeckModel" "now" "[I") (by decide +kernel)) (fun _ h9 => h9) rfl dX8_set_27 ?_
      refine lv_bipush (v := 76) hx hb dX8_set_30 (by decide) ?_
      refine lv_iload_n hx hb dX8_set_32 rfl (lv_at hl 1 rfl) ?_
      refine lv_iadd hx hb dX8_set_33 ?_
      obtain ⟨hz, hq⟩ := kite_n hq
      refine k_iald (j := (((76 : Int32) + x1).toNatClampNeg)) hx hb hK.1 hP 1 0 rfl rfl hz rfl dX8_set_34 ?_
      refine lv_istore_n (lv' := [(3, .int (mnow (((76 : Int32) + x1).toNatClampNeg))), (0, .ref aM), (1, .int x1), (2, .int x2)]) hx hb dX8_set_35 rfl hl (by decide) rfl (fun ls hl => ?_)
      refine lv_aload_n hx hb dX8_set_36 rfl (lv_at hl 1 rfl) ?_
      refine va_get (D := D) (ci := 7) (v := .ref aMnow) (C := RX8) (T := TX8) (N := 13) hx hb hts iw_X8_set_X8 hown hK.1 hP 0 rfl rfl 3 (by decide) (hts (.fieldLink RX8 13 "PinDeckModel" "now" "[I") (by decide +kernel)) (fun _ h9 => h9) rfl dX8_set_37 ?_
      refine lv_bipush (v := 76) hx hb dX8_set_40 (by decide) ?_
      refine lv_iload_n hx hb dX8_set_42 rfl (lv_at hl 2 rfl) ?_
      refine lv_iadd hx hb dX8_set_43 ?_
      refine lv_iload_n hx hb dX8_set_44 rfl (lv_at hl 3 rfl) ?_
      obtain ⟨hz, hq⟩ := kite_n hq
      refine k_iast (j := (((76 : Int32) + x1).toNatClampNeg)) hx hb hK.1 hP hD hS 1 0 rfl rfl hz rfl dX8_set_45 (fun H locs hP hD hS => ?_)
      have hP : va_P D vwCl [(aM, .inr (7, [.int o14.2, .ref aMtext, .int msize, .ref aMnow, .ref aMtrial, .ref aMdiary, .int o23.1, .ref aMkept, .ref aMisKept, .ref aMside, .ref aMwas, .int mspot, .int mout])), (aMnow, .inl (cI 0, 79, .inl (upd mnow (((76 : Int32) + x1).toNatClampNeg) x2))), (aMdiary, .inl (cI 0, 1106, .inl o23.2))] H := hP
      have hD : va_D A [(aM, .inr (7, [.int o14.2, .ref aMtext, .int msize, .ref aMnow, .ref aMtrial, .ref aMdiary, .int o23.1, .ref aMkept, .ref aMisKept, .ref aMside, .ref aMwas, .int mspot, .int mout])), (aMnow, .inl (cI 0, 79, .inl (upd mnow (((76 : Int32) + x1).toNatClampNeg) x2))), (aMdiary, .inl (cI 0, 1106, .inl o23.2))] := hD
      refine lv_iload_n hx hb dX8_set_46 rfl (lv_at hl 0 rfl) ?_
      have ho := Option.some.inj hq
      subst ho
      exact hend _ _ _ _ hP hS dX8_set_47
    · have hq := kite_f c9 hq
      refine lv_iconst (v := 0) hx hb dX8_set_20 (by decide) ?_
      have ho := Option.some.inj hq
      subst ho
      exact hend _ _ _ _ hP hS dX8_set_21
  refine lv_aload_n hx hb dX8_set_0 rfl (lv_at hl 0 rfl) ?_
  refine lv_iload_n hx hb dX8_set_1 rfl (lv_at hl 1 rfl) ?_
  refine lv_iload_n hx hb dX8_set_2 rfl (lv_at hl 2 rfl) ?_
  obtain ⟨o3, ho3, hq⟩ := kbind hq
  refine kc_Si (av := [.int x1, .int x2]) (rest := [.ref aM]) hF hK hG hA (mk_X8_isSetting l D cI s.heap.size x1 x2 o3 ho3) (va_cwS 2 hts gX8_set_X8_isSetting rfl rfl rfl (by decide +kernel) ⟨Nat.le_of_ble_eq_true rfl, Nat.le_of_ble_eq_true rfl⟩) hP hD hS [] (by decide) rfl rfl rfl hl.1 rfl (Nat.le_of_ble_eq_true rfl) ⟨Nat.zero_le _, Nat.zero_le _⟩ dX8_set_3 (fun H locs hP hD hS => ?_)
  have hP : va_P D vwCl [(aM, .inr (7, [.int mref, .ref aMtext, .int msize, .ref aMnow, .ref aMtrial, .ref aMdiary, .int macts, .ref aMkept, .ref aMisKept, .ref aMside, .ref aMwas, .int mspot, .int mout])), (aMnow, .inl (cI 0, 79, .inl mnow)), (aMdiary, .inl (cI 0, 1106, .inl mdiary))] H := hP
  have hD : va_D A [(aM, .inr (7, [.int mref, .ref aMtext, .int msize, .ref aMnow, .ref aMtrial, .ref aMdiary, .int macts, .ref aMkept, .ref aMisKept, .ref aMside, .ref aMwas, .int mspot, .int mout])), (aMnow, .inl (cI 0, 79, .inl mnow)), (aMdiary, .inl (cI 0, 1106, .inl mdiary))] := hD
  refine lv_if_eq (tgt := 13) hx hb dX8_set_6 (by decide) (fun c9 => ?_) (fun c9 => ?_)
  · have hq := kite_t c9 hq
    refine lv_iconst (v := 1) hx hb dX8_set_13 (by decide) ?_
    exact b_14  _ _ _ mref macts mnow mdiary x1 x2 (1 : Int32) hq hP hD hS (lv_sub hl [0, 1, 2] rfl)
  · have hq := kite_f c9 hq
    refine lv_iconst (v := 0) hx hb dX8_set_9 (by decide) ?_
    refine lv_goto (tgt := 14) hx hb dX8_set_10 (by decide) ?_
    exact b_14  _ _ _ mref macts mnow mdiary x1 x2 (0 : Int32) hq hP hD hS (lv_sub hl [0, 1, 2] rfl)

theorem iw_X8_undo_X8 : ∀ w ∈ wsX80, w ∈ wsX8_undo := by decide +kernel
set_option maxHeartbeats 4000000 in
set_option maxRecDepth 100000 in
theorem mk_X8_undo (l : Launch) (D : va_G) (cI : Nat → ClassId) (aM aMtext aMnow aMtrial aMdiary aMkept aMisKept aMside aMwas : Nat) (sz : Nat) (mref : Int32) (msize : Int32) (macts : Int32) (mspot : Int32) (mout : Int32) (mnow : kF) (mdiary : kF) (o : Int32 × Int32 × Int32 × kF) (hq : fn_X8_undo mref macts mnow mdiary = some o) : Met l yX8_undo wsX8_undo ({ frames := 1, cells := 0, slots := 0, locals := 24 }) (kPc D cI [(aM, .inr (7, [.int mref, .ref aMtext, .int msize, .ref aMnow, .ref aMtrial, .ref aMdiary, .int macts, .ref aMkept, .ref aMisKept, .ref aMside, .ref aMwas, .int mspot, .int mout])), (aMnow, .inl (cI 0, 79, .inl mnow)), (aMdiary, .inl (cI 0, 1106, .inl mdiary))] sz [.ref aM]) (kQi D [(aM, .inr (7, [.int mref, .ref aMtext, .int msize, .ref aMnow, .ref aMtrial, .ref aMdiary, .int macts, .ref aMkept, .ref aMisKept, .ref aMside, .ref aMwas, .int mspot, .int mout])), (aMnow, .inl (cI 0, 79, .inl mnow)), (aMdiary, .inl (cI 0, 1106, .inl mdiary))] [(aM, .inr (7, [.int o.2.1, .ref aMtext, .int msize, .ref aMnow, .ref aMtrial, .ref aMdiary, .int o.2.2.1, .ref aMkept, .ref aMisKept, .ref aMside, .ref aMwas, .int mspot, .int mout])), (aMnow, .inl (cI 0, 79, .inl o.2.2.2)), (aMdiary, .inl (cI 0, 1106, .inl mdiary))] sz o.1) 0 0 (va_A [(aM, .inr (7, [.int mref, .ref aMtext, .int msize, .ref aMnow, .ref aMtrial, .ref aMdiary, .int macts, .ref aMkept, .ref aMisKept, .ref aMside, .ref aMwas, .int mspot, .int mout])), (aMnow, .inl (cI 0, 79, .inl mnow)), (aMdiary, .inl (cI 0, 1106, .inl mdiary))] sz) := by
  refine kM_i (cc := cX8_undo) (maxL := 1) (by decide +kernel) rfl (Nat.le_of_ble_eq_true rfl) ?_
  intro p e s m args below meth c A Q hF hK hG hD hA hend ls hP hS hl
  obtain ⟨hx, hb, hml, hown, hts⟩ := id hF
  have hl : lv_has ls 1 [(0, .ref aM)] := hl
  have b_13 : ∀ (H : Heap) (locs : List Loc) (ls : Array Slot) (mref : Int32) (macts : Int32) (mnow : kF) (k1 : Int32), fn_X8_undo_13 mref macts mnow mdiary k1 = some o → va_P D vwCl [(aM, .inr (7, [.int mref, .ref aMtext, .int msize, .ref aMnow, .ref aMtrial, .ref aMdiary, .int macts, .ref aMkept, .ref aMisKept, .ref aMside, .ref aMwas, .int mspot, .int mout])), (aMnow, .inl (cI 0, 79, .inl mnow)), (aMdiary, .inl (cI 0, 1106, .inl mdiary))] H → va_D A [(aM, .inr (7, [.int mref, .ref aMtext, .int msize, .ref aMnow, .ref aMtrial, .ref aMdiary, .int macts, .ref aMkept, .ref aMisKept, .ref aMside, .ref aMwas, .int mspot, .int mout])), (aMnow, .inl (cI 0, 79, .inl mnow)), (aMdiary, .inl (cI 0, 1106, .inl mdiary))] → va_S A s.heap H locs → lv_has ls 1 [(0, .ref aM)] → W p l e { frames := 1, cells := 0, slots := 0, locals := 24 } s m args below meth c H locs 0 0 Q (F0 m 13 ls [.int k1, .ref aM]) := by
    intro H locs ls mref macts mnow k1
    intro hq hP hD hS hl
    obtain ⟨o13, ho13, hq⟩ := kbind hq
    refine kc_Vi (av := [.int k1]) (rest := []) hF hK hG hA (mk_X8_refused l D cI aM aMtext aMnow aMtrial aMdiary aMkept aMisKept aMside aMwas H.size mref msize macts mspot mout k1 o13 ho13) (cwV 1 hts gX8_undo_X8_refused rfl rfl rfl (by decide +kernel) ⟨Nat.le_of_ble_eq_true rfl, Nat.le_of_ble_eq_true rfl⟩) hP hD hS [0] (by decide) rfl rfl 0 rfl rfl rfl hl.1 rfl (Nat.le_of_ble_eq_true rfl) ⟨Nat.zero_le _, Nat.zero_le _⟩ dX8_undo_13 (fun H locs hP hD hS => ?_)
    have hP : va_P D vwCl [(aM, .inr (7, [.int o13.2, .ref aMtext, .int msize, .ref aMnow, .ref aMtrial, .ref aMdiary, .int macts, .ref aMkept, .ref aMisKept, .ref aMside, .ref aMwas, .int mspot, .int mout])), (aMnow, .inl (cI 0, 79, .inl mnow)), (aMdiary, .inl (cI 0, 1106, .inl mdiary))] H := hP
    have hD : va_D A [(aM, .inr (7, [.int o13.2, .ref aMtext, .int msize, .ref aMnow, .ref aMtrial, .ref aMdiary, .int macts, .ref aMkept, .ref aMisKept, .ref aMside, .ref aMwas, .int mspot, .int mout])), (aMnow, .inl (cI 0, 79, .inl mnow)), (aMdiary, .inl (cI 0, 1106, .inl mdiary))] := hD
    refine lv_if_eq (tgt := 21) hx hb dX8_undo_16 (by decide) (fun c9 => ?_) (fun c9 => ?_)
    · have hq := kite_t c9 hq
      refine lv_aload_n hx hb dX8_undo_21 rfl (lv_at hl 0 rfl) ?_
      refine lv_dup hx hb dX8_undo_22 rfl ?_
      refine va_get (D := D) (ci := 7) (v := .int macts) (C := RX8) (T := TX8) (N := 13) hx hb hts iw_X8_undo_X8 hown hK.1 hP 0 rfl rfl 6 (by decide) (hts (.fieldLink RX8 170 "PinDeckModel" "acts" "I") (by decide +kernel)) (fun _ h9 => h9) rfl dX8_undo_23 ?_
      refine lv_iconst (v := 1) hx hb dX8_undo_26 (by decide) ?_
      refine lv_isub hx hb dX8_undo_27 ?_
      refine va_put (D := D) (ci := 7) (v := .int (macts - (1 : Int32))) (ty := .int) (C := RX8) (T := TX8) (N := 13) hx hb hts iw_X8_undo_X8 tyX8 tyX8_ok nmX8 hown hK.1 hP hD hS 0 rfl rfl 6 (by decide) (hts (.fieldLink RX8 170 "PinDeckModel" "acts" "I") (by decide +kernel)) (fun _ h9 => h9) rfl (by decide +kernel) rfl rfl (Nat.le_of_ble_eq_true rfl) dX8_undo_28 (fun H locs hP hD hS => ?_)
      have hP : va_P D vwCl [(aM, .inr (7, [.int o13.2, .ref aMtext, .int msize, .ref aMnow, .ref aMtrial, .ref aMdiary, .int (macts - (1 : Int32)), .ref aMkept, .ref aMisKept, .ref aMside, .ref aMwas, .int mspot, .int mout])), (aMnow, .inl (cI 0, 79, .inl mnow)), (aMdiary, .inl (cI 0, 1106, .inl mdiary))] H := hP
      have hD : va_D A [(aM, .inr (7, [.int o13.2, .ref aMtext, .int msize, .ref aMnow, .ref aMtrial, .ref aMdiary, .int (macts - (1 : Int32)), .ref aMkept, .ref aMisKept, .ref aMside, .ref aMwas, .int mspot, .int mout])), (aMnow, .inl (cI 0, 79, .inl mnow)), (aMdiary, .inl (cI 0, 1106, .inl mdiary))] := hD
      refine lv_aload_n hx hb dX8_undo_31 rfl (lv_at hl 0 rfl) ?_
      refine va_get (D := D) (ci := 7) (v := .ref aMdiary) (C := RX8) (T := TX8) (N := 13) hx hb hts iw_X8_undo_X8 hown hK.1 hP 0 rfl rfl 5 (by decide) (hts (.fieldLink RX8 19 "PinDeckModel" "diary" "[I") (by decide +kernel)) (fun _ h9 => h9) rfl dX8_undo_32 ?_
      refine lv_bipush (v := 79) hx hb dX8_undo_35 (by decide) ?_
      refine lv_aload_n hx hb dX8_undo_37 rfl (lv_at hl 0 rfl) ?_
      refine va_get (D := D) (ci := 7) (v := .int (macts - (1 : Int32))) (C := RX8) (T := TX8) (N := 13) hx hb hts iw_X8_undo_X8 hown hK.1 hP 0 rfl rfl 6 (by decide) (hts (.fieldLink RX8 170 "PinDeckModel" "acts" "I") (by decide +kernel)) (fun _ h9 => h9) rfl dX8_undo_38 ?_
      refine lv_imul hx hb dX8_undo_41 ?_
      refine lv_aload_n hx hb dX8_undo_42 rfl (lv_at hl 0 rfl) ?_
      refine va_get (D := D) (ci := 7) (v := .ref aMnow) (C := RX8) (T := TX8) (N := 13) hx hb hts iw_X8_undo_X8 hown hK.1 hP 0 rfl rfl 3 (by decide) (hts (.fieldLink RX8 13 "PinDeckModel" "now" "[I") (by decide +kernel)) (fun _ h9 => h9) rfl dX8_undo_43 ?_
      refine lv_iconst (v := 0) hx hb dX8_undo_46 (by decide) ?_
      obtain ⟨o47, ho47, hq⟩ := kbind hq
      refine kc_Sv (av := [.ref aMdiary, .int ((79 : Int32) * (macts - (1 : Int32))), .ref aMnow, .int (0 : Int32)]) (rest := []) hF hK hG hA (mk_X8_copyState l D cI 1106 79 aMdiary aMnow H.size mdiary mnow ((79 : Int32) * (macts - (1 : Int32))) (0 : Int32) o47 ho47) (va_cwS 4 hts gX8_undo_X8_copyState rfl rfl rfl (by decide +kernel) ⟨Nat.le_of_ble_eq_true rfl, Nat.le_of_ble_eq_true rfl⟩) hP hD hS [2, 1] (by decide) rfl rfl rfl hl.1 rfl (Nat.le_of_ble_eq_true rfl) ⟨Nat.zero_le _, Nat.zero_le _⟩ dX8_undo_47 (fun H locs hP hD hS => ?_)
      have hP : va_P D vwCl [(aM, .inr (7, [.int o13.2, .ref aMtext, .int msize, .ref aMnow, .ref aMtrial, .ref aMdiary, .int (macts - (1 : Int32)), .ref aMkept, .ref aMisKept, .ref aMside, .ref aMwas, .int mspot, .int mout])), (aMnow, .inl (cI 0, 79, .inl o47)), (aMdiary, .inl (cI 0, 1106, .inl mdiary))] H := hP
      have hD : va_D A [(aM, .inr (7, [.int o13.2, .ref aMtext, .int msize, .ref aMnow, .ref aMtrial, .ref aMdiary, .int (macts - (1 : Int32)), .ref aMkept, .ref aMisKept, .ref aMside, .ref aMwas, .int mspot, .int mout])), (aMnow, .inl (cI 0, 79, .inl o47)), (aMdiary, .inl (cI 0, 1106, .inl mdiary))] := hD
      refine lv_aload_n hx hb dX8_undo_50 rfl (lv_at hl 0 rfl) ?_
      refine va_get (D := D) (ci := 7) (v := .int (macts - (1 : Int32))) (C := RX8) (T := TX8) (N := 13) hx hb hts iw_X8_undo_X8 hown hK.1 hP 0 rfl rfl 6 (by decide) (hts (.fieldLink RX8 170 "PinDeckModel" "acts" "I") (by decide +kernel)) (fun _ h9 => h9) rfl dX8_undo_51 ?_
      have ho := Option.some.inj hq
      subst ho
      exact hend _ _ _ _ hP hS dX8_undo_54
    · have hq := kite_f c9 hq
      refine lv_iconst (v := 0) hx hb dX8_undo_19 (by decide) ?_
      have ho := Option.some.inj hq
      subst ho
      exact hend _ _ _ _ hP hS dX8_undo_20
  refine lv_aload_n hx hb dX8_undo_0 rfl (lv_at hl 0 rfl) ?_
  refine lv_aload_n hx hb dX8_undo_1 rfl (lv_at hl 0 rfl) ?_
  refine va_get (D := D) (ci := 7) (v := .int macts) (C := RX8) (T := TX8) (N := 13) hx hb hts iw_X8_undo_X8 hown hK.1 hP 0 rfl rfl 6 (by decide) (hts (.fieldLink RX8 170 "PinDeckModel" "acts" "I") (by decide +kernel)) (fun _ h9 => h9) rfl dX8_undo_2 ?_
  refine lv_if_ne (tgt := 12) hx hb dX8_undo_5 (by decide) (fun c9 => ?_) (fun c9 => ?_)
  · have hq := kite_f c9 hq
    refine lv_iconst (v := 0) hx hb dX8_undo_12 (by decide) ?_
    exact b_13  _ _ _ mref macts mnow (0 : Int32) hq hP hD hS (lv_sub hl [0] rfl)
  · have hq := kite_t c9 hq
    refine lv_iconst (v := 1) hx hb dX8_undo_8 (by decide) ?_
    refine lv_goto (tgt := 13) hx hb dX8_undo_9 (by decide) ?_
    exact b_13  _ _ _ mref macts mnow (1 : Int32) hq hP hD hS (lv_sub hl [0] rfl)

theorem iw_X8_tryBall_X8 : ∀ w ∈ wsX80, w ∈ wsX8_tryBall := by decide +kernel
set_option maxHeartbeats 4000000 in
set_option maxRecDepth 100000 in
theorem mk_X8_tryBall (l : Launch) (D : va_G) (cI : Nat → ClassId) (aM aMtext aMnow aMtrial aMdiary aMkept aMisKept aMside aMwas : Nat) (sz : Nat) (mref : Int32) (msize : Int32) (macts : Int32) (mspot : Int32) (mout : Int32) (mnow : kF) (mtrial : kF) (mside : kF) (x1 : Int32) (x2 : Int32) (o : Int32 × kF × kF) (hq : fn_X8_tryBall mnow mtrial mside x1 x2 = some o) : Met l yX8_tryBall wsX8_tryBall ({ frames := 4, cells := 0, slots := 0, locals := 94 }) (kPc D cI [(aM, .inr (7, [.int mref, .ref aMtext, .int msize, .ref aMnow, .ref aMtrial, .ref aMdiary, .int macts, .ref aMkept, .ref aMisKept, .ref aMside, .ref aMwas, .int mspot, .int mout])), (aMnow, .inl (cI 0, 79, .inl mnow)), (aMtrial, .inl (cI 0, 79, .inl mtrial)), (aMside, .inl (cI 0, 10, .inl mside))] sz [.ref aM, .int x1, .int x2]) (kQi D [(aM, .inr (7, [.int mref, .ref aMtext, .int msize, .ref aMnow, .ref aMtrial, .ref aMdiary, .int macts, .ref aMkept, .ref aMisKept, .ref aMside, .ref aMwas, .int mspot, .int mout])), (aMnow, .inl (cI 0, 79, .inl mnow)), (aMtrial, .inl (cI 0, 79, .inl mtrial)), (aMside, .inl (cI 0, 10, .inl mside))] [(aM, .inr (7, [.int mref, .ref aMtext, .int msize, .ref aMnow, .ref aMtrial, .ref aMdiary, .int macts, .ref aMkept, .ref aMisKept, .ref aMside, .ref aMwas, .int mspot, .int mout])), (aMnow, .inl (cI 0, 79, .inl mnow)), (aMtrial, .inl (cI 0, 79, .inl o.2.1)), (aMside, .inl (cI 0, 10, .inl o.2.2))] sz o.1) 0 0 (va_A [(aM, .inr (7, [.int mref, .ref aMtext, .int msize, .ref aMnow, .ref aMtrial, .ref aMdiary, .int macts, .ref aMkept, .ref aMisKept, .ref aMside, .ref aMwas, .int mspot, .int mout])), (aMnow, .inl (cI 0, 79, .inl mnow)), (aMtrial, .inl (cI 0, 79, .inl mtrial)), (aMside, .inl (cI 0, 10, .inl mside))] sz) := by
  refine kM_i (cc := cX8_tryBall) (maxL := 3) (by decide +kernel) rfl (Nat.le_of_ble_eq_true rfl) ?_
  intro p e s m args below meth c A Q hF hK hG hD hA hend ls hP hS hl
  obtain ⟨hx, hb, hml, hown, hts⟩ := id hF
  have hl : lv_has ls 3 [(0, .ref aM), (1, .int x1), (2, .int x2)] := hl
  refine lv_aload_n hx hb dX8_tryBall_0 rfl (lv_at hl 0 rfl) ?_
  refine va_get (D := D) (ci := 7) (v := .ref aMnow) (C := RX8) (T := TX8) (N := 13) hx hb hts iw_X8_tryBall_X8 hown hK.1 hP 0 rfl rfl 3 (by decide) (hts (.fieldLink RX8 13 "PinDeckModel" "now" "[I") (by decide +kernel)) (fun _ h9 => h9) rfl dX8_tryBall_1 ?_
  refine lv_iconst (v := 0) hx hb dX8_tryBall_4 (by decide) ?_
  refine lv_aload_n hx hb dX8_tryBall_5 rfl (lv_at hl 0 rfl) ?_
  refine va_get (D := D) (ci := 7) (v := .ref aMtrial) (C := RX8) (T := TX8) (N := 13) hx hb hts iw_X8_tryBall_X8 hown hK.1 hP 0 rfl rfl 4 (by decide) (hts (.fieldLink RX8 16 "PinDeckModel" "trial" "[I") (by decide +kernel)) (fun _ h9 => h9) rfl dX8_tryBall_6 ?_
  refine lv_iconst (v := 0) hx hb dX8_tryBall_9 (by decide) ?_
  obtain ⟨o10, ho10, hq⟩ := kbind hq
  refine kc_Sv (av := [.ref aMnow, .int (0 : Int32), .ref aMtrial, .int (0 : Int32)]) (rest := []) hF hK hG hA (mk_X8_copyState l D cI 79 79 aMnow aMtrial s.heap.size mnow mtrial (0 : Int32) (0 : Int32) o10 ho10) (va_cwS 4 hts gX8_tryBall_X8_copyState rfl rfl rfl (by decide +kernel) ⟨Nat.le_of_ble_eq_true rfl, Nat.le_of_ble_eq_true rfl⟩) hP hD hS [1, 2] (by decide) rfl rfl rfl hl.1 rfl (Nat.le_of_ble_eq_true rfl) ⟨Nat.zero_le _, Nat.zero_le _⟩ dX8_tryBall_10 (fun H locs hP hD hS => ?_)
  have hP : va_P D vwCl [(aM, .inr (7, [.int mref, .ref aMtext, .int msize, .ref aMnow, .ref aMtrial, .ref aMdiary, .int macts, .ref aMkept, .ref aMisKept, .ref aMside, .ref aMwas, .int mspot, .int mout])), (aMnow, .inl (cI 0, 79, .inl mnow)), (aMtrial, .inl (cI 0, 79, .inl o10)), (aMside, .inl (cI 0, 10, .inl mside))] H := hP
  have hD : va_D A [(aM, .inr (7, [.int mref, .ref aMtext, .int msize, .ref aMnow, .ref aMtrial, .ref aMdiary, .int macts, .ref aMkept, .ref aMisKept, .ref aMside, .ref aMwas, .int mspot, .int mout])), (aMnow, .inl (cI 0, 79, .inl mnow)), (aMtrial, .inl (cI 0, 79, .inl o10)), (aMside, .inl (cI 0, 10, .inl mside))] := hD
  refine lv_aload_n hx hb dX8_tryBall_13 rfl (lv_at hl 0 rfl) ?_
  refine lv_aload_n hx hb dX8_tryBall_14 rfl (lv_at hl 0 rfl) ?_
  refine va_get (D := D) (ci := 7) (v := .ref aMtrial) (C := RX8) (T := TX8) (N := 13) hx hb hts iw_X8_tryBall_X8 hown hK.1 hP 0 rfl rfl 4 (by decide) (hts (.fieldLink RX8 16 "PinDeckModel" "trial" "[I") (by decide +kernel)) (fun _ h9 => h9) rfl dX8_tryBall_15 ?_
  refine lv_iload_n hx hb dX8_tryBall_18 rfl (lv_at hl 1 rfl) ?_
  refine lv_iload_n hx hb dX8_tryBall_19 rfl (lv_at hl 2 rfl) ?_
  obtain ⟨o20, ho20, hq⟩ := kbind hq
  refine kc_Vv (av := [.ref aMtrial, .int x1, .int x2]) (rest := []) hF hK hG hA (mk_X8_ball l D cI aM aMtext aMnow aMtrial aMdiary aMkept aMisKept aMside aMwas aMtrial H.size mref msize macts mspot mout mside o10 x1 x2 o20 ho20) (cwV 3 hts gX8_tryBall_X8_ball rfl rfl rfl (by decide +kernel) ⟨Nat.le_of_ble_eq_true rfl, Nat.le_of_ble_eq_true rfl⟩) hP hD hS [0, 3, 2] (by decide) rfl rfl 0 rfl rfl rfl hl.1 rfl (Nat.le_of_ble_eq_true rfl) ⟨Nat.zero_le _, Nat.zero_le _⟩ dX8_tryBall_20 (fun H locs hP hD hS => ?_)
  have hP : va_P D vwCl [(aM, .inr (7, [.int mref, .ref aMtext, .int msize, .ref aMnow, .ref aMtrial, .ref aMdiary, .int macts, .ref aMkept, .ref aMisKept, .ref aMside, .ref aMwas, .int mspot, .int mout])), (aMnow, .inl (cI 0, 79, .inl mnow)), (aMtrial, .inl (cI 0, 79, .inl o20.2)), (aMside, .inl (cI 0, 10, .inl o20.1))] H := hP
  have hD : va_D A [(aM, .inr (7, [.int mref, .ref aMtext, .int msize, .ref aMnow, .ref aMtrial, .ref aMdiary, .int macts, .ref aMkept, .ref aMisKept, .ref aMside, .ref aMwas, .int mspot, .int mout])), (aMnow, .inl (cI 0, 79, .inl mnow)), (aMtrial, .inl (cI 0, 79, .inl o20.2)), (aMside, .inl (cI 0, 10, .inl o20.1))] := hD
  refine lv_aload_n hx hb dX8_tryBall_23 rfl (lv_at hl 0 rfl) ?_
  refine va_get (D := D) (ci := 7) (v := .ref aMtrial) (C := RX8) (T := TX8) (N := 13) hx hb hts iw_X8_tryBall_X8 hown hK.1 hP 0 rfl rfl 4 (by decide) (hts (.fieldLink RX8 16 "PinDeckModel" "trial" "[I") (by decide +kernel)) (fun _ h9 => h9) rfl dX8_tryBall_24 ?_
  obtain ⟨o27, ho27, hq⟩ := kbind hq
  refine kc_Sv (av := [.ref aMtrial]) (rest := []) hF hK hG hA (mk_X8_tell l D cI aMtrial H.size o20.2 o27 ho27) (va_cwS 1 hts gX8_tryBall_X8_tell rfl rfl rfl (by decide +kernel) ⟨Nat.le_of_ble_eq_true rfl, Nat.le_of_ble_eq_true rfl⟩) hP hD hS [2] (by decide) rfl rfl rfl hl.1 rfl (Nat.le_of_ble_eq_true rfl) ⟨Nat.zero_le _, Nat.zero_le _⟩ dX8_tryBall_27 (fun H locs hP hD hS => ?_)
  have hP : va_P D vwCl [(aM, .inr (7, [.int mref, .ref aMtext, .int msize, .ref aMnow, .ref aMtrial, .ref aMdiary, .int macts, .ref aMkept, .ref aMisKept, .ref aMside, .ref aMwas, .int mspot, .int mout])), (aMnow, .inl (cI 0, 79, .inl mnow)), (aMtrial, .inl (cI 0, 79, .inl o27)), (aMside, .inl (cI 0, 10, .inl o20.1))] H := hP
  have hD : va_D A [(aM, .inr (7, [.int mref, .ref aMtext, .int msize, .ref aMnow, .ref aMtrial, .ref aMdiary, .int macts, .ref aMkept, .ref aMisKept, .ref aMside, .ref aMwas, .int mspot, .int mout])), (aMnow, .inl (cI 0, 79, .inl mnow)), (aMtrial, .inl (cI 0, 79, .inl o27)), (aMside, .inl (cI 0, 10, .inl o20.1))] := hD
  refine lv_aload_n hx hb dX8_tryBall_30 rfl (lv_at hl 0 rfl) ?_
  refine va_get (D := D) (ci := 7) (v := .ref aMnow) (C := RX8) (T := TX8) (N := 13) hx hb hts iw_X8_tryBall_X8 hown hK.1 hP 0 rfl rfl 3 (by decide) (hts (.fieldLink RX8 13 "PinDeckModel" "now" "[I") (by decide +kernel)) (fun _ h9 => h9) rfl dX8_tryBall_31 ?_
  obtain ⟨o34, ho34, hq⟩ := kbind hq
  refine kc_Si (av := [.ref aMnow]) (rest := []) hF hK hG hA (mk_X8_toldOf l D cI aMnow H.size mnow o34 ho34) (va_cwS 1 hts gX8_tryBall_X8_toldOf rfl rfl rfl (by decide +kernel) ⟨Nat.le_of_ble_eq_true rfl, Nat.le_of_ble_eq_true rfl⟩) hP hD hS [1] (by decide) rfl rfl rfl hl.1 rfl (Nat.le_of_ble_eq_true rfl) ⟨Nat.zero_le _, Nat.zero_le _⟩ dX8_tryBall_34 (fun H locs hP hD hS => ?_)
  have hP : va_P D vwCl [(aM, .inr (7, [.int mref, .ref aMtext, .int msize, .ref aMnow, .ref aMtrial, .ref aMdiary, .int macts, .ref aMkept, .ref aMisKept, .ref aMside, .ref aMwas, .int mspot, .int mout])), (aMnow, .inl (cI 0, 79, .inl mnow)), (aMtrial, .inl (cI 0, 79, .inl o27)), (aMside, .inl (cI 0, 10, .inl o20.1))] H := hP
  have hD : va_D A [(aM, .inr (7, [.int mref, .ref aMtext, .int msize, .ref aMnow, .ref aMtrial, .ref aMdiary, .int macts, .ref aMkept, .ref aMisKept, .ref aMside, .ref aMwas, .int mspot, .int mout])), (aMnow, .inl (cI 0, 79, .inl mnow)), (aMtrial, .inl (cI 0, 79, .inl o27)), (aMside, .inl (cI 0, 10, .inl o20.1))] := hD
  refine lv_aload_n hx hb dX8_tryBall_37 rfl (lv_at hl 0 rfl) ?_
  refine va_get (D := D) (ci := 7) (v := .ref aMtrial) (C := RX8) (T := TX8) (N := 13) hx hb hts iw_X8_tryBall_X8 hown hK.1 hP 0 rfl rfl 4 (by decide) (hts (.fieldLink RX8 16 "PinDeckModel" "trial" "[I") (by decide +kernel)) (fun _ h9 => h9) rfl dX8_tryBall_38 ?_
  obtain ⟨o41, ho41, hq⟩ := kbind hq
  refine kc_Si (av := [.ref aMtrial]) (rest := [.int o34]) hF hK hG hA (mk_X8_toldOf l D cI aMtrial H.size o27 o41 ho41) (va_cwS 1 hts gX8_tryBall_X8_toldOf rfl rfl rfl (by decide +kernel) ⟨Nat.le_of_ble_eq_true rfl, Nat.le_of_ble_eq_true rfl⟩) hP hD hS [2] (by decide) rfl rfl rfl hl.1 rfl (Nat.le_of_ble_eq_true rfl) ⟨Nat.zero_le _, Nat.zero_le _⟩ dX8_tryBall_41 (fun H locs hP hD hS => ?_)
  have hP : va_P D vwCl [(aM, .inr (7, [.int mref, .ref aMtext, .int msize, .ref aMnow, .ref aMtrial, .ref aMdiary, .int macts, .ref aMkept, .ref aMisKept, .ref aMside, .ref aMwas, .int mspot, .int mout])), (aMnow, .inl (cI 0, 79, .inl mnow)), (aMtrial, .inl (cI 0, 79, .inl o27)), (aMside, .inl (cI 0, 10, .inl o20.1))] H := hP
  have hD : va_D A [(aM, .inr (7, [.int mref, .ref aMtext, .int msize, .ref aMnow, .ref aMtrial, .ref aMdiary, .int macts, .ref aMkept, .ref aMisKept, .ref aMside, .ref aMwas, .int mspot, .int mout])), (aMnow, .inl (cI 0, 79, .inl mnow)), (aMtrial, .inl (cI 0, 79, .inl o27)), (aMside, .inl (cI 0, 10, .inl o20.1))] := hD
  refine lv_isub hx hb dX8_tryBall_44 ?_
  have ho := Option.some.inj hq
  subst ho
  exact hend _ _ _ _ hP hS dX8_tryBall_45

theorem iw_X8_would_X8 : ∀ w ∈ wsX80, w ∈ wsX8_would := by decide +kernel
set_option maxHeartbeats 4000000 in
set_option maxRecDepth 100000 in
theorem mk_X8_would (l : Launch) (D : va_G) (cI : Nat → ClassId) (aM aMtext aMnow aMtrial aMdiary aMkept aMisKept aMside aMwas : Nat) (sz : Nat) (mref : Int32) (msize : Int32) (macts : Int32) (mspot : Int32) (mout : Int32) (mnow : kF) (mtrial : kF) (mside : kF) (x1 : Int32) (x2 : Int32) (x3 : Int32) (o : Int32 × Int32 × kF × kF) (hq : fn_X8_would mref mnow mtrial mside x1 x2 x3 = some o) : Met l yX8_would wsX8_would ({ frames := 5, cells := 0, slots := 0, locals := 116 }) (kPc D cI [(aM, .inr (7, [.int mref, .ref aMtext, .int msize, .ref aMnow, .ref aMtrial, .ref aMdiary, .int macts, .ref aMkept, .ref aMisKept, .ref aMside, .ref aMwas, .int mspot, .int mout])), (aMnow, .inl (cI 0, 79, .inl mnow)), (aMtrial, .inl (cI 0, 79, .inl mtrial)), (aMside, .inl (cI 0, 10, .inl mside))] sz [.ref aM, .int x1, .int x2, .int x3]) (kQi D [(aM, .inr (7, [.int mref, .ref aMtext, .int msize, .ref aMnow, .ref aMtrial, .ref aMdiary, .int macts, .ref aMkept, .ref aMisKept, .ref aMside, .ref aMwas, .int mspot, .int mout])), (aMnow, .inl (cI 0, 79, .inl mnow)), (aMtrial, .inl (cI 0, 79, .inl mtrial)), (aMside, .inl (cI 0, 10, .inl mside))] [(aM, .inr (7, [.int o.2.1, .ref aMtext, .int msize, .ref aMnow, .ref aMtrial, .ref aMdiary, .int macts, .ref aMkept, .ref aMisKept, .ref aMside, .ref aMwas, .int mspot, .int mout])), (aMnow, .inl (cI 0, 79, .inl mnow)), (aMtrial, .inl (cI 0, 79, .inl o.2.2.1)), (aMside, .inl (cI 0, 10, .inl o.2.2.2))] sz o.1) 0 0 (va_A [(aM, .inr (7, [.int mref, .ref aMtext, .int msize, .ref aMnow, .ref aMtrial, .ref aMdiary, .int macts, .ref aMkept, .ref aMisKept, .ref aMside, .ref aMwas, .int mspot, .int mout])), (aMnow, .inl (cI 0, 79, .inl mnow)), (aMtrial, .inl (cI 0, 79, .inl mtrial)), (aMside, .inl (cI 0, 10, .inl mside))] sz) := by
  refine kM_i (cc := cX8_would) (maxL := 10) (by decide +kernel) rfl (Nat.le_of_ble_eq_true rfl) ?_
  intro p e s m args below meth c A Q hF hK hG hD hA hend ls hP hS hl
  obtain ⟨hx, hb, hml, hown, hts⟩ := id hF
  have hl : lv_has ls 10 [(0, .ref aM), (1, .int x1), (2, .int x2), (3, .int x3)] := hl
  have b_221 : ∀ (H : Heap) (locs : List Loc) (ls : Array Slot) (mref : Int32) (mtrial : kF) (mside : kF) (k0 : Int32), fn_X8_would_221 mref mnow mtrial mside k0 = some o → va_P D vwCl [(aM, .inr (7, [.int mref, .ref aMtext, .int msize, .ref aMnow, .ref aMtrial, .ref aMdiary, .int macts, .ref aMkept, .ref aMisKept, .ref aMside, .ref aMwas, .int mspot, .int mout])), (aMnow, .inl (cI 0, 79, .inl mnow)), (aMtrial, .inl (cI 0, 79, .inl mtrial)), (aMside, .inl (cI 0, 10, .inl mside))] H → va_D A [(aM, .inr (7, [.int mref, .ref aMtext, .int msize, .ref aMnow, .ref aMtrial, .ref aMdiary, .int macts, .ref aMkept, .ref aMisKept, .ref aMside, .ref aMwas, .int mspot, .int mout])), (aMnow, .inl (cI 0, 79, .inl mnow)), (aMtrial, .inl (cI 0, 79, .inl mtrial)), (aMside, .inl (cI 0, 10, .inl mside))] → va_S A s.heap H locs → lv_has ls 10 [] → W p l e { frames := 5, cells := 0, slots := 0, locals := 116 } s m args below meth c H locs 0 0 Q (F0 m 221 ls [.int k0]) := by
    intro H locs ls mref mtrial mside k0
    intro hq hP hD hS hl
    have ho := Option.some.inj hq
    subst ho
    exact hend _ _ _ _ hP hS dX8_would_221
  have b_181 : ∀ (q54 : Int32 → kF → kF → kF → Int32 → Int32 → Int32 → Int32 → Int32 → Int32 → Option (Int32 × Int32 × kF × kF)), (∀ (H : Heap) (locs : List Loc) (ls : Array Slot) (mref : Int32) (mtrial : kF) (mside : kF) (x3 : Int32) (x4 : Int32) (x5 : Int32) (x6 : Int32) (x7 : Int32) (x8 : Int32), q54 mref mnow mtrial mside x3 x4 x5 x6 x7 x8 = some o → va_P D vwCl [(aM, .inr (7, [.int mref, .ref aMtext, .int msize, .ref aMnow, .ref aMtrial, .ref aMdiary, .int macts, .ref aMkept, .ref aMisKept, .ref aMside, .ref aMwas, .int mspot, .int mout])), (aMnow, .inl (cI 0, 79, .inl mnow)), (aMtrial, .inl (cI 0, 79, .inl mtrial)), (aMside, .inl (cI 0, 10, .inl mside))] H → va_D A [(aM, .inr (7, [.int mref, .ref aMtext, .int msize, .ref aMnow, .ref aMtrial, .ref aMdiary, .int macts, .ref aMkept, .ref aMisKept, .ref aMside, .ref aMwas, .int mspot, .int mout])), (aMnow, .inl (cI 0, 79, .inl mnow)), (aMtrial, .inl (cI 0, 79, .inl mtrial)), (aMside, .inl (cI 0, 10, .inl mside))] → va_S A s.heap H locs → lv_has ls 10 [(0, .ref aM), (3, .int x3), (4, .int x4), (5, .int x5), (6, .int x6), (7, .int x7), (8, .int x8)] → W p l e { frames := 5, cells := 0, slots := 0, locals := 116 } s m args below meth c H locs 0 0 Q (F0 m 54 ls [])) → ∀ (H : Heap) (locs : List Loc) (ls : Array Slot) (mref : Int32) (mtrial : kF) (mside : kF) (x3 : Int32) (x4 : Int32) (x5 : Int32) (x6 : Int32) (x8 : Int32) (k0 : Int32) (k1 : Int32), fn_X8_would_181 q54 mref mnow mtrial mside x3 x4 x5 x6 x8 k0 k1 = some o → va_P D vwCl [(aM, .inr (7, [.int mref, .ref aMtext, .int msize, .ref aMnow, .ref aMtrial, .ref aMdiary, .int macts, .ref aMkept, .ref aMisKept, .ref aMside, .ref aMwas, .int mspot, .int mout])), (aMnow, .inl (cI 0, 79, .inl mnow)), (aMtrial, .inl (cI 0, 79, .inl mtrial)), (aMside, .inl (cI 0, 10, .inl mside))] H → va_D A [(aM, .inr (7, [.int mref, .ref aMtext, .int msize, .ref aMnow, .ref aMtrial, .ref aMdiary, .int macts, .ref aMkept, .ref aMisKept, .ref aMside, .ref aMwas, .int mspot, .int mout])), (aMnow, .inl (cI 0, 79, .inl mnow)), (aMtrial, .inl (cI 0, 79, .inl mtrial)), (aMside, .inl (cI 0, 10, .inl mside))] → va_S A s.heap H locs → lv_has ls 10 [(0, .ref aM), (3, .int x3), (4, .int x4), (5, .int x5), (6, .int x6), (8, .int x8)] → W p l e { frames := 5, cells := 0, slots := 0, locals := 116 } s m args below meth c H locs 0 0 Q (F0 m 181 ls [.int k1, .int k0]) := by
    intro q54 i54
    intro H locs ls mref mtrial mside x3 x4 x5 x6 x8 k0 k1
    intro hq hP hD hS hl
    refine lv_iadd hx hb dX8_would_181 ?_
    refine lv_istore (lv' := [(7, .int (k0 + k1)), (0, .ref aM), (3, .int x3), (4, .int x4), (5, .int x5), (6, .int x6), (8, .int x8)]) hx hb dX8_would_182 hl (by decide) rfl (fun ls hl => ?_)
    refine lv_iinc (v := (x8 + 1)) (lv' := [(8, .int (x8 + 1)), (7, .int (k0 + k1)), (0, .ref aM), (3, .int x3), (4, .int x4), (5, .int x5), (6, .int x6)]) hx hb dX8_would_184 hl (k := 6) rfl rfl (by decide) rfl (fun ls hl => ?_)
    refine lv_goto (tgt := 54) hx hb dX8_would_187 (by decide) ?_
    exact i54 _ _ _ mref mtrial mside x3 x4 x5 x6 (k0 + k1) (x8 + 1) hq hP hD hS (lv_sub hl [2, 3, 4, 5, 6, 1, 0] rfl)
  have b_180 : ∀ (q54 : Int32 → kF → kF → kF → Int32 → Int32 → Int32 → Int32 → Int32 → Int32 → Option (Int32 × Int32 × kF × kF)), (∀ (H : Heap) (locs : List Loc) (ls : Array Slot) (mref : Int32) (mtrial : kF) (mside : kF) (x3 : Int32) (x4 : Int32) (x5 : Int32) (x6 : Int32) (x7 : Int32) (x8 : Int32), q54 mref mnow mtrial mside x3 x4 x5 x6 x7 x8 = some o → va_P D vwCl [(aM, .inr (7, [.int mref, .ref aMtext, .int msize, .ref aMnow, .ref aMtrial, .ref aMdiary, .int macts, .ref aMkept, .ref aMisKept, .ref aMside, .ref aMwas, .int mspot, .int mout])), (aMnow, .inl (cI 0, 79, .inl mnow)), (aMtrial, .inl (cI 0, 79, .inl mtrial)), (aMside, .inl (cI 0, 10, .inl mside))] H → va_D A [(aM, .inr (7, [.int mref, .ref aMtext, .int msize, .ref aMnow, .ref aMtrial, .ref aMdiary, .int macts, .ref aMkept, .ref aMisKept, .ref aMside, .ref aMwas, .int mspot, .int mout])), (aMnow, .inl (cI 0, 79, .inl mnow)), (aMtrial, .inl (cI 0, 79, .inl mtrial)), (aMside, .inl (cI 0, 10, .inl mside))] → va_S A s.heap H locs → lv_has ls 10 [(0, .ref aM), (3, .int x3), (4, .int x4), (5, .int x5), (6, .int x6), (7, .int x7), (8, .int x8)] → W p l e { frames := 5, cells := 0, slots := 0, locals := 116 } s m args below meth c H locs 0 0 Q (F0 m 54 ls [])) → ∀ (H : Heap) (locs : List Loc) (ls : Array Slot) (mref : Int32) (mtrial : kF) (mside : kF) (x3 : Int32) (x4 : Int32) (x5 : Int32) (x6 : Int32) (x8 : Int32) (k0 : Int32), fn_X8_would_180 q54 mref mnow mtrial mside x3 x4 x5 x6 x8 k0 = some o → va_P D vwCl [(aM, .inr (7, [.int mref, .ref aMtext, .int msize, .ref aMnow, .ref aMtrial, .ref aMdiary, .int macts, .ref aMkept, .ref aMisKept, .ref aMside, .ref aMwas, .int mspot, .int mout])), (aMnow, .inl (cI 0, 79, .inl mnow)), (aMtrial, .inl (cI 0, 79, .inl mtrial)), (aMside, .inl (cI 0, 10, .inl mside))] H → va_D A [(aM, .inr (7, [.int mref, .ref aMtext, .int msize, .ref aMnow, .ref aMtrial, .ref aMdiary, .int macts, .ref aMkept, .ref aMisKept, .ref aMside, .ref aMwas, .int mspot, .int mout])), (aMnow, .inl (cI 0, 79, .inl mnow)), (aMtrial, .inl (cI 0, 79, .inl mtrial)), (aMside, .inl (cI 0, 10, .inl mside))] → va_S A s.heap H locs → lv_has ls 10 [(0, .ref aM), (3, .int x3), (4, .int x4), (5, .int x5), (6, .int x6), (8, .int x8)] → W p l e { frames := 5, cells := 0, slots := 0, locals := 116 } s m args below meth c H locs 0 0 Q (F0 m 180 ls [.int k0]) := by
    intro q54 i54
    intro H locs ls mref mtrial mside x3 x4 x5 x6 x8 k0
    intro hq hP hD hS hl
    refine lv_iconst (v := 0) hx hb dX8_would_180 (by decide) ?_
    exact b_181 q54 i54 _ _ _ mref mtrial mside x3 x4 x5 x6 x8 k0 (0 : Int32) hq hP hD hS (lv_sub hl [0, 1, 2, 3, 4, 5] rfl)
  have b_139 : ∀ (q54 : Int32 → kF → kF → kF → Int32 → Int32 → Int32 → Int32 → Int32 → Int32 → Option (Int32 × Int32 × kF × kF)), (∀ (H : Heap) (locs : List Loc) (ls : Array Slot) (mref : Int32) (mtrial : kF) (mside : kF) (x3 : Int32) (x4 : Int32) (x5 : Int32) (x6 : Int32) (x7 : Int32) (x8 : Int32), q54 mref mnow mtrial mside x3 x4 x5 x6 x7 x8 = some o → va_P D vwCl [(aM, .inr (7, [.int mref, .ref aMtext, .int msize, .ref aMnow, .ref aMtrial, .ref aMdiary, .int macts, .ref aMkept, .ref aMisKept, .ref aMside, .ref aMwas, .int mspot, .int mout])), (aMnow, .inl (cI 0, 79, .inl mnow)), (aMtrial, .inl (cI 0, 79, .inl mtrial)), (aMside, .inl (cI 0, 10, .inl mside))] H → va_D A [(aM, .inr (7, [.int mref, .ref aMtext, .int msize, .ref aMnow, .ref aMtrial, .ref aMdiary, .int macts, .ref aMkept, .ref aMisKept, .ref aMside, .ref aMwas, .int mspot, .int mout])), (aMnow, .inl (cI 0, 79, .inl mnow)), (aMtrial, .inl (cI 0, 79, .inl mtrial)), (aMside, .inl (cI 0, 10, .inl mside))] → va_S A s.heap H locs → lv_has ls 10 [(0, .ref aM), (3, .int x3), (4, .int x4), (5, .int x5), (6, .int x6), (7, .int x7), (8, .int x8)] → W p l e { frames := 5, cells := 0, slots := 0, locals := 116 } s m args below meth c H locs 0 0 Q (F0 m 54 ls [])) → ∀ (H : Heap) (locs : List Loc) (ls : Array Slot) (mref : Int32) (mtrial : kF) (mside : kF) (x3 : Int32) (x4 : Int32) (x5 : Int32) (x7 : Int32) (x8 : Int32) (x9 : Int32) (k0 : Int32) (k1 : Int32), fn_X8_would_139 q54 mref mnow mtrial mside x3 x4 x5 x7 x8 x9 k0 k1 = some o → va_P D vwCl [(aM, .inr (7, [.int mref, .ref aMtext, .int msize, .ref aMnow, .ref aMtrial, .ref aMdiary, .int macts, .ref aMkept, .ref aMisKept, .ref aMside, .ref aMwas, .int mspot, .int mout])), (aMnow, .inl (cI 0, 79, .inl mnow)), (aMtrial, .inl (cI 0, 79, .inl mtrial)), (aMside, .inl (cI 0, 10, .inl mside))] H → va_D A [(aM, .inr (7, [.int mref, .ref aMtext, .int msize, .ref aMnow, .ref aMtrial, .ref aMdiary, .int macts, .ref aMkept, .ref aMisKept, .ref aMside, .ref aMwas, .int mspot, .int mout])), (aMnow, .inl (cI 0, 79, .inl mnow)), (aMtrial, .inl (cI 0, 79, .inl mtrial)), (aMside, .inl (cI 0, 10, .inl mside))] → va_S A s.heap H locs → lv_has ls 10 [(0, .ref aM), (3, .int x3), (4, .int x4), (5, .int x5), (7, .int x7), (8, .int x8), (9, .int x9)] → W p l e { frames := 5, cells := 0, slots := 0, locals := 116 } s m args below meth c H locs 0 0 Q (F0 m 139 ls [.int k1, .int k0]) := by
    intro q54 i54
    intro H locs ls mref mtrial mside x3 x4 x5 x7 x8 x9 k0 k1
    intro hq hP hD hS hl
    refine lv_ior hx hb dX8_would_139 ?_
    refine lv_istore (lv' := [(6, .int (k0 ||| k1)), (0, .ref aM), (3, .int x3), (4, .int x4), (5, .int x5), (7, .int x7), (8, .int x8), (9, .int x9)]) hx hb dX8_would_140 hl (by decide) rfl (fun ls hl => ?_)
    refine lv_iload hx hb dX8_would_142 (lv_at hl 5 rfl) ?_
    refine lv_iload hx hb dX8_would_144 (lv_at hl 7 rfl) ?_
    refine lv_if_ne (tgt := 180) hx hb dX8_would_146 (by decide) (fun c9 => ?_) (fun c9 => ?_)
    · have hq := kite_f c9 hq
      exact b_180 q54 i54 _ _ _ mref mtrial mside x3 x4 x5 (k0 ||| k1) x8 x7 hq hP hD hS (lv_sub hl [1, 2, 3, 4, 0, 6] rfl)
    · have hq := kite_t c9 hq
      refine lv_aload_n hx hb dX8_would_149 rfl (lv_at hl 1 rfl) ?_
      refine va_get (D := D) (ci := 7) (v := .ref aMnow) (C := RX8) (T := TX8) (N := 13) hx hb hts iw_X8_would_X8 hown hK.1 hP 0 rfl rfl 3 (by decide) (hts (.fieldLink RX8 13 "PinDeckModel" "now" "[I") (by decide +kernel)) (fun _ h9 => h9) rfl dX8_would_150 ?_
      refine lv_bipush (v := 20) hx hb dX8_would_153 (by decide) ?_
      refine lv_iload hx hb dX8_would_155 (lv_at hl 6 rfl) ?_
      refine lv_iadd hx hb dX8_would_157 ?_
      obtain ⟨hz, hq⟩ := kite_n hq
      refine k_iald (j := (((20 : Int32) + x8).toNatClampNeg)) hx hb hK.1 hP 1 0 rfl rfl hz rfl dX8_would_158 ?_
      refine lv_iconst (v := 1) hx hb dX8_would_159 (by decide) ?_
      refine lv_icmp_ne (tgt := 180) hx hb dX8_would_160 (by decide) (fun c9 => ?_) (fun c9 => ?_)
      · have hq := kite_f c9 hq
        exact b_180 q54 i54 _ _ _ mref mtrial mside x3 x4 x5 (k0 ||| k1) x8 x7 hq hP hD hS (lv_sub hl [1, 2, 3, 4, 0, 6] rfl)
      · have hq := kite_t c9 hq
        refine lv_aload_n hx hb dX8_would_163 rfl (lv_at hl 1 rfl) ?_
        refine va_get (D := D) (ci := 7) (v := .ref aMtrial) (C := RX8) (T := TX8) (N := 13) hx hb hts iw_X8_would_X8 hown hK.1 hP 0 rfl rfl 4 (by decide) (hts (.fieldLink RX8 16 "PinDeckModel" "trial" "[I") (by decide +kernel)) (fun _ h9 => h9) rfl dX8_would_164 ?_
        refine lv_bipush (v := 20) hx hb dX8_would_167 (by decide) ?_
        refine lv_iload hx hb dX8_would_169 (lv_at hl 6 rfl) ?_
        refine lv_iadd hx hb dX8_would_171 ?_
        obtain ⟨hz, hq⟩ := kite_n hq
        refine k_iald (j := (((20 : Int32) + x8).toNatClampNeg)) hx hb hK.1 hP 2 0 rfl rfl hz rfl dX8_would_172 ?_
        refine lv_if_ne (tgt := 180) hx hb dX8_would_173 (by decide) (fun c9 => ?_) (fun c9 => ?_)
        · have hq := kite_f c9 hq
          exact b_180 q54 i54 _ _ _ mref mtrial mside x3 x4 x5 (k0 ||| k1) x8 x7 hq hP hD hS (lv_sub hl [1, 2, 3, 4, 0, 6] rfl)
        · have hq := kite_t c9 hq
          refine lv_iconst (v := 1) hx hb dX8_would_176 (by decide) ?_
          refine lv_goto (tgt := 181) hx hb dX8_would_177 (by decide) ?_
          exact b_181 q54 i54 _ _ _ mref mtrial mside x3 x4 x5 (k0 ||| k1) x8 x7 (1 : Int32) hq hP hD hS (lv_sub hl [1, 2, 3, 4, 0, 6] rfl)
  have b_138 : ∀ (q54 : Int32 → kF → kF → kF → Int32 → Int32 → Int32 → Int32 → Int32 → Int32 → Option (Int32 × Int32 × kF × kF)), (∀ (H : Heap) (locs : List Loc) (ls : Array Slot) (mref : Int32) (mtrial : kF) (mside : kF) (x3 : Int32) (x4 : Int32) (x5 : Int32) (x6 : Int32) (x7 : Int32) (x8 : Int32), q54 mref mnow mtrial mside x3 x4 x5 x6 x7 x8 = some o → va_P D vwCl [(aM, .inr (7, [.int mref, .ref aMtext, .int msize, .ref aMnow, .ref aMtrial, .ref aMdiary, .int macts, .ref aMkept, .ref aMisKept, .ref aMside, .ref aMwas, .int mspot, .int mout])), (aMnow, .inl (cI 0, 79, .inl mnow)), (aMtrial, .inl (cI 0, 79, .inl mtrial)), (aMside, .inl (cI 0, 10, .inl mside))] H → va_D A [(aM, .inr (7, [.int mref, .ref aMtext, .int msize, .ref aMnow, .ref aMtrial, .ref aMdiary, .int macts, .ref aMkept, .ref aMisKept, .ref aMside, .ref aMwas, .int mspot, .int mout])), (aMnow, .inl (cI 0, 79, .inl mnow)), (aMtrial, .inl (cI 0, 79, .inl mtrial)), (aMside, .inl (cI 0, 10, .inl mside))] → va_S A s.heap H locs → lv_has ls 10 [(0, .ref aM), (3, .int x3), (4, .int x4), (5, .int x5), (6, .int x6), (7, .int x7), (8, .int x8)] → W p l e { frames := 5, cells := 0, slots := 0, locals := 116 } s m args below meth c H locs 0 0 Q (F0 m 54 ls [])) → ∀ (H : Heap) (locs : List Loc) (ls : Array Slot) (mref : Int32) (mtrial : kF) (mside : kF) (x3 : Int32) (x4 : Int32) (x5 : Int32) (x7 : Int32) (x8 : Int32) (x9 : Int32) (k0 : Int32), fn_X8_would_138 q54 mref mnow mtrial mside x3 x4 x5 x7 x8 x9 k0 = some o → va_P D vwCl [(aM, .inr (7, [.int mref, .ref aMtext, .int msize, .ref aMnow, .ref aMtrial, .ref aMdiary, .int macts, .ref aMkept, .ref aMisKept, .ref aMside, .ref aMwas, .int mspot, .int mout])), (aMnow, .inl (cI 0, 79, .inl mnow)), (aMtrial, .inl (cI 0, 79, .inl mtrial)), (aMside, .inl (cI 0, 10, .inl mside))] H → va_D A [(aM, .inr (7, [.int mref, .ref aMtext, .int msize, .ref aMnow, .ref aMtrial, .ref aMdiary, .int macts, .ref aMkept, .ref aMisKept, .ref aMside, .ref aMwas, .int mspot, .int mout])), (aMnow, .inl (cI 0, 79, .inl mnow)), (aMtrial, .inl (cI 0, 79, .inl mtrial)), (aMside, .inl (cI 0, 10, .inl mside))] → va_S A s.heap H locs → lv_has ls 10 [(0, .ref aM), (3, .int x3), (4, .int x4), (5, .int x5), (7, .int x7), (8, .int x8), (9, .int x9)] → W p l e { frames := 5, cells := 0, slots := 0, locals := 116 } s m args below meth c H locs 0 0 Q (F0 m 138 ls [.int k0]) := by
    intro q54 i54
    intro H locs ls mref mtrial mside x3 x4 x5 x7 x8 x9 k0
    intro hq hP hD hS hl
    refine lv_iconst (v := 0) hx hb dX8_would_138 (by decide) ?_
    exact b_139 q54 i54 _ _ _ mref mtrial mside x3 x4 x5 x7 x8 x9 k0 (0 : Int32) hq hP hD hS (lv_sub hl [0, 1, 2, 3, 4, 5, 6] rfl)
  have b_109 : ∀ (q54 : Int32 → kF → kF → kF → Int32 → Int32 → Int32 → Int32 → Int32 → Int32 → Option (Int32 × Int32 × kF × kF)), (∀ (H : Heap) (locs : List Loc) (ls : Array Slot) (mref : Int32) (mtrial : kF) (mside : kF) (x3 : Int32) (x4 : Int32) (x5 : Int32) (x6 : Int32) (x7 : Int32) (x8 : Int32), q54 mref mnow mtrial mside x3 x4 x5 x6 x7 x8 = some o → va_P D vwCl [(aM, .inr (7, [.int mref, .ref aMtext, .int msize, .ref aMnow, .ref aMtrial, .ref aMdiary, .int macts, .ref aMkept, .ref aMisKept, .ref aMside, .ref aMwas, .int mspot, .int mout])), (aMnow, .inl (cI 0, 79, .inl mnow)), (aMtrial, .inl (cI 0, 79, .inl mtrial)), (aMside, .inl (cI 0, 10, .inl mside))] H → va_D A [(aM, .inr (7, [.int mref, .ref aMtext, .int msize, .ref aMnow, .ref aMtrial, .ref aMdiary, .int macts, .ref aMkept, .ref aMisKept, .ref aMside, .ref aMwas, .int mspot, .int mout])), (aMnow, .inl (cI 0, 79, .inl mnow)), (aMtrial, .inl (cI 0, 79, .inl mtrial)), (aMside, .inl (cI 0, 10, .inl mside))] → va_S A s.heap H locs → lv_has ls 10 [(0, .ref aM), (3, .int x3), (4, .int x4), (5, .int x5), (6, .int x6), (7, .int x7), (8, .int x8)] → W p l e { frames := 5, cells := 0, slots := 0, locals := 116 } s m args below meth c H locs 0 0 Q (F0 m 54 ls [])) → ∀ (H : Heap) (locs : List Loc) (ls : Array Slot) (mref : Int32) (mtrial : kF) (mside : kF) (x3 : Int32) (x4 : Int32) (x6 : Int32) (x7 : Int32) (x8 : Int32) (x9 : Int32) (k0 : Int32) (k1 : Int32), fn_X8_would_109 q54 mref mnow mtrial mside x3 x4 x6 x7 x8 x9 k0 k1 = some o → va_P D vwCl [(aM, .inr (7, [.int mref, .ref aMtext, .int msize, .ref aMnow, .ref aMtrial, .ref aMdiary, .int macts, .ref aMkept, .ref aMisKept, .ref aMside, .ref aMwas, .int mspot, .int mout])), (aMnow, .inl (cI 0, 79, .inl mnow)), (aMtrial, .inl (cI 0, 79, .inl mtrial)), (aMside, .inl (cI 0, 10, .inl mside))] H → va_D A [(aM, .inr (7, [.int mref, .ref aMtext, .int msize, .ref aMnow, .ref aMtrial, .ref aMdiary, .int macts, .ref aMkept, .ref aMisKept, .ref aMside, .ref aMwas, .int mspot, .int mout])), (aMnow, .inl (cI 0, 79, .inl mnow)), (aMtrial, .inl (cI 0, 79, .inl mtrial)), (aMside, .inl (cI 0, 10, .inl mside))] → va_S A s.heap H locs → lv_has ls 10 [(0, .ref aM), (3, .int x3), (4, .int x4), (6, .int x6), (7, .int x7), (8, .int x8), (9, .int x9)] → W p l e { frames := 5, cells := 0, slots := 0, locals := 116 } s m args below meth c H locs 0 0 Q (F0 m 109 ls [.int k1, .int k0]) := by
    intro q54 i54
    intro H locs ls mref mtrial mside x3 x4 x6 x7 x8 x9 k0 k1
    intro hq hP hD hS hl
    refine lv_ior hx hb dX8_would_109 ?_
    refine lv_istore (lv' := [(5, .int (k0 ||| k1)), (0, .ref aM), (3, .int x3), (4, .int x4), (6, .int x6), (7, .int x7), (8, .int x8), (9, .int x9)]) hx hb dX8_would_110 hl (by decide) rfl (fun ls hl => ?_)
    refine lv_iload hx hb dX8_would_112 (lv_at hl 4 rfl) ?_
    refine lv_iload hx hb dX8_would_114 (lv_at hl 7 rfl) ?_
    refine lv_if_ne (tgt := 138) hx hb dX8_would_116 (by decide) (fun c9 => ?_) (fun c9 => ?_)
    · have hq := kite_f c9 hq
      exact b_138 q54 i54 _ _ _ mref mtrial mside x3 x4 (k0 ||| k1) x7 x8 x9 x6 hq hP hD hS (lv_sub hl [1, 2, 3, 0, 5, 6, 7] rfl)
    · have hq := kite_t c9 hq
      refine lv_aload_n hx hb dX8_would_119 rfl (lv_at hl 1 rfl) ?_
      refine va_get (D := D) (ci := 7) (v := .ref aMtrial) (C := RX8) (T := TX8) (N := 13) hx hb hts iw_X8_would_X8 hown hK.1 hP 0 rfl rfl 4 (by decide) (hts (.fieldLink RX8 16 "PinDeckModel" "trial" "[I") (by decide +kernel)) (fun _ h9 => h9) rfl dX8_would_120 ?_
      refine lv_iconst (v := 0) hx hb dX8_would_123 (by decide) ?_
      refine lv_iload hx hb dX8_would_124 (lv_at hl 6 rfl) ?_
      refine lv_iadd hx hb dX8_would_126 ?_
      obtain ⟨hz, hq⟩ := kite_n hq
      refine k_iald (j := (((0 : Int32) + x8).toNatClampNeg)) hx hb hK.1 hP 2 0 rfl rfl hz rfl dX8_would_127 ?_
      refine lv_if_le (tgt := 138) hx hb dX8_would_128 (by decide) (fun c9 => ?_) (fun c9 => ?_)
      · have hq := kite_t c9 hq
        exact b_138 q54 i54 _ _ _ mref mtrial mside x3 x4 (k0 ||| k1) x7 x8 x9 x6 hq hP hD hS (lv_sub hl [1, 2, 3, 0, 5, 6, 7] rfl)
      · have hq := kite_f c9 hq
        refine lv_iconst (v := 1) hx hb dX8_would_131 (by decide) ?_
        refine lv_iload hx hb dX8_would_132 (lv_at hl 6 rfl) ?_
        refine lv_ishl hx hb dX8_would_134 ?_
        refine lv_goto (tgt := 139) hx hb dX8_would_135 (by decide) ?_
        exact b_139 q54 i54 _ _ _ mref mtrial mside x3 x4 (k0 ||| k1) x7 x8 x9 x6 ((1 : Int32) <<< (x8 &&& 31)) hq hP hD hS (lv_sub hl [1, 2, 3, 0, 5, 6, 7] rfl)
  have b_108 : ∀ (q54 : Int32 → kF → kF → kF → Int32 → Int32 → Int32 → Int32 → Int32 → Int32 → Option (Int32 × Int32 × kF × kF)), (∀ (H : Heap) (locs : List Loc) (ls : Array Slot) (mref : Int32) (mtrial : kF) (mside : kF) (x3 : Int32) (x4 : Int32) (x5 : Int32) (x6 : Int32) (x7 : Int32) (x8 : Int32), q54 mref mnow mtrial mside x3 x4 x5 x6 x7 x8 = some o → va_P D vwCl [(aM, .inr (7, [.int mref, .ref aMtext, .int msize, .ref aMnow, .ref aMtrial, .ref aMdiary, .int macts, .ref aMkept, .ref aMisKept, .ref aMside, .ref aMwas, .int mspot, .int mout])), (aMnow, .inl (cI 0, 79, .inl mnow)), (aMtrial, .inl (cI 0, 79, .inl mtrial)), (aMside, .inl (cI 0, 10, .inl mside))] H → va_D A [(aM, .inr (7, [.int mref, .ref aMtext, .int msize, .ref aMnow, .ref aMtrial, .ref aMdiary, .int macts, .ref aMkept, .ref aMisKept, .ref aMside, .ref aMwas, .int mspot, .int mout])), (aMnow, .inl (cI 0, 79, .inl mnow)), (aMtrial, .inl (cI 0, 79, .inl mtrial)), (aMside, .inl (cI 0, 10, .inl mside))] → va_S A s.heap H locs → lv_has ls 10 [(0, .ref aM), (3, .int x3), (4, .int x4), (5, .int x5), (6, .int x6), (7, .int x7), (8, .int x8)] → W p l e { frames := 5, cells := 0, slots := 0, locals := 116 } s m args below meth c H locs 0 0 Q (F0 m 54 ls [])) → ∀ (H : Heap) (locs : List Loc) (ls : Array Slot) (mref : Int32) (mtrial : kF) (mside : kF) (x3 : Int32) (x4 : Int32) (x6 : Int32) (x7 : Int32) (x8 : Int32) (x9 : Int32) (k0 : Int32), fn_X8_would_108 q54 mref mnow mtrial mside x3 x4 x6 x7 x8 x9 k0 = some o → va_P D vwCl [(aM, .inr (7, [.int mref, .ref aMtext, .int msize, .ref aMnow, .ref aMtrial, .ref aMdiary, .int macts, .ref aMkept, .ref aMisKept, .ref aMside, .ref aMwas, .int mspot, .int mout])), (aMnow, .inl (cI 0, 79, .inl mnow)), (aMtrial, .inl (cI 0, 79, .inl mtrial)), (aMside, .inl (cI 0, 10, .inl mside))] H → va_D A [(aM, .inr (7, [.int mref, .ref aMtext, .int msize, .ref aMnow, .ref aMtrial, .ref aMdiary, .int macts, .ref aMkept, .ref aMisKept, .ref aMside, .ref aMwas, .int mspot, .int mout])), (aMnow, .inl (cI 0, 79, .inl mnow)), (aMtrial, .inl (cI 0, 79, .inl mtrial)), (aMside, .inl (cI 0, 10, .inl mside))] → va_S A s.heap H locs → lv_has ls 10 [(0, .ref aM), (3, .int x3), (4, .int x4), (6, .int x6), (7, .int x7), (8, .int x8), (9, .int x9)] → W p l e { frames := 5, cells := 0, slots := 0, locals := 116 } s m args below meth c H locs 0 0 Q (F0 m 108 ls [.int k0]) := by
    intro q54 i54
    intro H locs ls mref mtrial mside x3 x4 x6 x7 x8 x9 k0
    intro hq hP hD hS hl
    refine lv_iconst (v := 0) hx hb dX8_would_108 (by decide) ?_
    exact b_109 q54 i54 _ _ _ mref mtrial mside x3 x4 x6 x7 x8 x9 k0 (0 : Int32) hq hP hD hS (lv_sub hl [0, 1, 2, 3, 4, 5, 6] rfl)
  have b_79 : ∀ (q54 : Int32 → kF → kF → kF → Int32 → Int32 → Int32 → Int32 → Int32 → Int32 → Option (Int32 × Int32 × kF × kF)), (∀ (H : Heap) (locs : List Loc) (ls : Array Slot) (mref : Int32) (mtrial : kF) (mside : kF) (x3 : Int32) (x4 : Int32) (x5 : Int32) (x6 : Int32) (x7 : Int32) (x8 : Int32), q54 mref mnow mtrial mside x3 x4 x5 x6 x7 x8 = some o → va_P D vwCl [(aM, .inr (7, [.int mref, .ref aMtext, .int msize, .ref aMnow, .ref aMtrial, .ref aMdiary, .int macts, .ref aMkept, .ref aMisKept, .ref aMside, .ref aMwas, .int mspot, .int mout])), (aMnow, .inl (cI 0, 79, .inl mnow)), (aMtrial, .inl (cI 0, 79, .inl mtrial)), (aMside, .inl (cI 0, 10, .inl mside))] H → va_D A [(aM, .inr (7, [.int mref, .ref aMtext, .int msize, .ref aMnow, .ref aMtrial, .ref aMdiary, .int macts, .ref aMkept, .ref aMisKept, .ref aMside, .ref aMwas, .int mspot, .int mout])), (aMnow, .inl (cI 0, 79, .inl mnow)), (aMtrial, .inl (cI 0, 79, .inl mtrial)), (aMside, .inl (cI 0, 10, .inl mside))] → va_S A s.heap H locs → lv_has ls 10 [(0, .ref aM), (3, .int x3), (4, .int x4), (5, .int x5), (6, .int x6), (7, .int x7), (8, .int x8)] → W p l e { frames := 5, cells := 0, slots := 0, locals := 116 } s m args below meth c H locs 0 0 Q (F0 m 54 ls [])) → ∀ (H : Heap) (locs : List Loc) (ls : Array Slot) (mref : Int32) (mtrial : kF) (mside : kF) (x3 : Int32) (x4 : Int32) (x5 : Int32) (x6 : Int32) (x7 : Int32) (x8 : Int32) (k0 : Int32), fn_X8_would_79 q54 mref mnow mtrial mside x3 x4 x5 x6 x7 x8 k0 = some o → va_P D vwCl [(aM, .inr (7, [.int mref, .ref aMtext, .int msize, .ref aMnow, .ref aMtrial, .ref aMdiary, .int macts, .ref aMkept, .ref aMisKept, .ref aMside, .ref aMwas, .int mspot, .int mout])), (aMnow, .inl (cI 0, 79, .inl mnow)), (aMtrial, .inl (cI 0, 79, .inl mtrial)), (aMside, .inl (cI 0, 10, .inl mside))] H → va_D A [(aM, .inr (7, [.int mref, .ref aMtext, .int msize, .ref aMnow, .ref aMtrial, .ref aMdiary, .int macts, .ref aMkept, .ref aMisKept, .ref aMside, .ref aMwas, .int mspot, .int mout])), (aMnow, .inl (cI 0, 79, .inl mnow)), (aMtrial, .inl (cI 0, 79, .inl mtrial)), (aMside, .inl (cI 0, 10, .inl mside))] → va_S A s.heap H locs → lv_has ls 10 [(0, .ref aM), (3, .int x3), (4, .int x4), (5, .int x5), (6, .int x6), (7, .int x7), (8, .int x8)] → W p l e { frames := 5, cells := 0, slots := 0, locals := 116 } s m args below meth c H locs 0 0 Q (F0 m 79 ls [.int k0]) := by
    intro q54 i54
    intro H locs ls mref mtrial mside x3 x4 x5 x6 x7 x8 k0
    intro hq hP hD hS hl
    refine lv_istore (lv' := [(9, .int k0), (0, .ref aM), (3, .int x3), (4, .int x4), (5, .int x5), (6, .int x6), (7, .int x7), (8, .int x8)]) hx hb dX8_would_79 hl (by decide) rfl (fun ls hl => ?_)
    refine lv_iload hx hb dX8_would_81 (lv_at hl 4 rfl) ?_
    refine lv_iload hx hb dX8_would_83 (lv_at hl 0 rfl) ?_
    refine lv_if_eq (tgt := 108) hx hb dX8_would_85 (by decide) (fun c9 => ?_) (fun c9 => ?_)
    · have hq := kite_t c9 hq
      exact b_108 q54 i54 _ _ _ mref mtrial mside x3 x4 x6 x7 x8 k0 x5 hq hP hD hS (lv_sub hl [1, 2, 3, 5, 6, 7, 0] rfl)
    · have hq := kite_f c9 hq
      refine lv_aload_n hx hb dX8_would_88 rfl (lv_at hl 1 rfl) ?_
      refine va_get (D := D) (ci := 7) (v := .ref aMnow) (C := RX8) (T := TX8) (N := 13) hx hb hts iw_X8_would_X8 hown hK.1 hP 0 rfl rfl 3 (by decide) (hts (.fieldLink RX8 13 "PinDeckModel" "now" "[I") (by decide +kernel)) (fun _ h9 => h9) rfl dX8_would_89 ?_
      refine lv_iconst (v := 0) hx hb dX8_would_92 (by decide) ?_
      refine lv_iload hx hb dX8_would_93 (lv_at hl 7 rfl) ?_
      refine lv_iadd hx hb dX8_would_95 ?_
      obtain ⟨hz, hq⟩ := kite_n hq
      refine k_iald (j := (((0 : Int32) + x8).toNatClampNeg)) hx hb hK.1 hP 1 0 rfl rfl hz rfl dX8_would_96 ?_
      refine lv_iconst (v := 4) hx hb dX8_would_97 (by decide) ?_
      refine lv_icmp_eq (tgt := 108) hx hb dX8_would_98 (by decide) (fun c9 => ?_) (fun c9 => ?_)
      · have hq := kite_t c9 hq
        exact b_108 q54 i54 _ _ _ mref mtrial mside x3 x4 x6 x7 x8 k0 x5 hq hP hD hS (lv_sub hl [1, 2, 3, 5, 6, 7, 0] rfl)
      · have hq := kite_f c9 hq
        refine lv_iconst (v := 1) hx hb dX8_would_101 (by decide) ?_
        refine lv_iload hx hb dX8_would_102 (lv_at hl 7 rfl) ?_
        refine lv_ishl hx hb dX8_would_104 ?_
        refine lv_goto (tgt := 109) hx hb dX8_would_105 (by decide) ?_
        exact b_109 q54 i54 _ _ _ mref mtrial mside x3 x4 x6 x7 x8 k0 x5 ((1 : Int32) <<< (x8 &&& 31)) hq hP hD hS (lv_sub hl [1, 2, 3, 5, 6, 7, 0] rfl)
  have b_54 : ∀ (q : Nat), ∀ (H : Heap) (locs : List Loc) (ls : Array Slot) (mref : Int32) (mtrial : kF) (mside : kF) (x3 : Int32) (x4 : Int32) (x5 : Int32) (x6 : Int32) (x7 : Int32) (x8 : Int32), fn_X8_would_54 q mref mnow mtrial mside x3 x4 x5 x6 x7 x8 = some o → va_P D vwCl [(aM, .inr (7, [.int mref, .ref aMtext, .int msize, .ref aMnow, .ref aMtrial, .ref aMdiary, .int macts, .ref aMkept, .ref aMisKept, .ref aMside, .ref aMwas, .int mspot, .int mout])), (aMnow, .inl (cI 0, 79, .inl mnow)), (aMtrial, .inl (cI 0, 79, .inl mtrial)), (aMside, .inl (cI 0, 10, .inl mside))] H → va_D A [(aM, .inr (7, [.int mref, .ref aMtext, .int msize, .ref aMnow, .ref aMtrial, .ref aMdiary, .int macts, .ref aMkept, .ref aMisKept, .ref aMside, .ref aMwas, .int mspot, .int mout])), (aMnow, .inl (cI 0, 79, .inl mnow)), (aMtrial, .inl (cI 0, 79, .inl mtrial)), (aMside, .inl (cI 0, 10, .inl mside))] → va_S A s.heap H locs → lv_has ls 10 [(0, .ref aM), (3, .int x3), (4, .int x4), (5, .int x5), (6, .int x6), (7, .int x7), (8, .int x8)] → W p l e { frames := 5, cells := 0, slots := 0, locals := 116 } s m args below meth c H locs 0 0 Q (F0 m 54 ls []) := by
    intro q
    induction q with
    | zero =>
      intro H locs ls mref mtrial mside x3 x4 x5 x6 x7 x8
      intro hq
      cases hq
    | succ q ih =>
      intro H locs ls mref mtrial mside x3 x4 x5 x6 x7 x8
      intro hq hP hD hS hl
      refine lv_iload hx hb dX8_would_54 (lv_at hl 6 rfl) ?_
      refine lv_bipush (v := 10) hx hb dX8_would_56 (by decide) ?_
      refine lv_icmp_ge (tgt := 190) hx hb dX8_would_58 (by decide) (fun c9 => ?_) (fun c9 => ?_)
      · have hq := kite_t c9 hq
        refine lv_iload_n hx hb dX8_would_190 rfl (lv_at hl 1 rfl) ?_
        refine lv_if_ne (tgt := 199) hx hb dX8_would_191 (by decide) (fun c9 => ?_) (fun c9 => ?_)
        · have hq := kite_f c9 hq
          refine lv_iload_n hx hb dX8_would_199 rfl (lv_at hl 1 rfl) ?_
          refine lv_iconst (v := 1) hx hb dX8_would_200 (by decide) ?_
          refine lv_icmp_ne (tgt := 209) hx hb dX8_would_201 (by decide) (fun c9 => ?_) (fun c9 => ?_)
          · have hq := kite_f c9 hq
            refine lv_iload_n hx hb dX8_would_209 rfl (lv_at hl 1 rfl) ?_
            refine lv_iconst (v := 2) hx hb dX8_would_210 (by decide) ?_
            refine lv_icmp_ne (tgt := 219) hx hb dX8_would_211 (by decide) (fun c9 => ?_) (fun c9 => ?_)
            · have hq := kite_f c9 hq
              refine lv_iload hx hb dX8_would_219 (lv_at hl 5 rfl) ?_
              exact b_221  _ _ _ mref mtrial mside x7 hq hP hD hS (lv_sub hl [] rfl)
            · have hq := kite_t c9 hq
              refine lv_iload hx hb dX8_would_214 (lv_at hl 2 rfl) ?_
              refine lv_goto (tgt := 221) hx hb dX8_would_216 (by decide) ?_
              exact b_221  _ _ _ mref mtrial mside x4 hq hP hD hS (lv_sub hl [] rfl)
          · have hq := kite_t c9 hq
            refine lv_iload hx hb dX8_would_204 (lv_at hl 4 rfl) ?_
            refine lv_goto (tgt := 221) hx hb dX8_would_206 (by decide) ?_
            exact b_221  _ _ _ mref mtrial mside x6 hq hP hD hS (lv_sub hl [] rfl)
        · have hq := kite_t c9 hq
          refine lv_iload hx hb dX8_would_194 (lv_at hl 3 rfl) ?_
          refine lv_goto (tgt := 221) hx hb dX8_would_196 (by decide) ?_
          exact b_221  _ _ _ mref mtrial mside x5 hq hP hD hS (lv_sub hl [] rfl)
      · have hq := kite_f c9 hq
        refine lv_aload_n hx hb dX8_would_61 rfl (lv_at hl 0 rfl) ?_
        refine va_get (D := D) (ci := 7) (v := .ref aMtrial) (C := RX8) (T := TX8) (N := 13) hx hb hts iw_X8_would_X8 hown hK.1 hP 0 rfl rfl 4 (by decide) (hts (.fieldLink RX8 16 "PinDeckModel" "trial" "[I") (by decide +kernel)) (fun _ h9 => h9) rfl dX8_would_62 ?_
        refine lv_iconst (v := 0) hx hb dX8_would_65 (by decide) ?_
        refine lv_iload hx hb dX8_would_66 (lv_at hl 6 rfl) ?_
        refine lv_iadd hx hb dX8_would_68 ?_
        obtain ⟨hz, hq⟩ := kite_n hq
        refine k_iald (j := (((0 : Int32) + x8).toNatClampNeg)) hx hb hK.1 hP 2 0 rfl rfl hz rfl dX8_would_69 ?_
        refine lv_iconst (v := 4) hx hb dX8_would_70 (by decide) ?_
        refine lv_icmp_ne (tgt := 78) hx hb dX8_would_71 (by decide) (fun c9 => ?_) (fun c9 => ?_)
        · have hq := kite_f c9 hq
          refine lv_iconst (v := 0) hx hb dX8_would_78 (by decide) ?_
          exact b_79 (fn_X8_would_54 q) ih _ _ _ mref mtrial mside x3 x4 x5 x6 x7 x8 (0 : Int32) hq hP hD hS (lv_sub hl [0, 1, 2, 3, 4, 5, 6] rfl)
        · have hq := kite_t c9 hq
          refine lv_iconst (v := 1) hx hb dX8_would_74 (by decide) ?_
          refine lv_goto (tgt := 79) hx hb dX8_would_75 (by decide) ?_
          exact b_79 (fn_X8_would_54 q) ih _ _ _ mref mtrial mside x3 x4 x5 x6 x7 x8 (1 : Int32) hq hP hD hS (lv_sub hl [0, 1, 2, 3, 4, 5, 6] rfl)
  have b_26 : ∀ (H : Heap) (locs : List Loc) (ls : Array Slot) (mref : Int32) (mtrial : kF) (mside : kF) (x1 : Int32) (x2 : Int32) (x3 : Int32) (k1 : Int32), fn_X8_would_26 mref mnow mtrial mside x1 x2 x3 k1 = some o → va_P D vwCl [(aM, .inr (7, [.int mref, .ref aMtext, .int msize, .ref aMnow, .ref aMtrial, .ref aMdiary, .int macts, .ref aMkept, .ref aMisKept, .ref aMside, .ref aMwas, .int mspot, .int mout])), (aMnow, .inl (cI 0, 79, .inl mnow)), (aMtrial, .inl (cI 0, 79, .inl mtrial)), (aMside, .inl (cI 0, 10, .inl mside))] H → va_D A [(aM, .inr (7, [.int mref, .ref aMtext, .int msize, .ref aMnow, .ref aMtrial, .ref aMdiary, .int macts, .ref aMkept, .ref aMisKept, .ref aMside, .ref aMwas, .int mspot, .int mout])), (aMnow, .inl (cI 0, 79, .inl mnow)), (aMtrial, .inl (cI 0, 79, .inl mtrial)), (aMside, .inl (cI 0, 10, .inl mside))] → va_S A s.heap H locs → lv_has ls 10 [(0, .ref aM), (1, .int x1), (2, .int x2), (3, .int x3)] → W p l e { frames := 5, cells := 0, slots := 0, locals := 116 } s m args below meth c H locs 0 0 Q (F0 m 26 ls [.int k1, .ref aM]) := by
    intro H locs ls mref mtrial mside x1 x2 x3 k1
    intro hq hP hD hS hl
    obtain ⟨o26, ho26, hq⟩ := kbind hq
    refine kc_Vi (av := [.int k1]) (rest := []) hF hK hG hA (mk_X8_refused l D cI aM aMtext aMnow aMtrial aMdiary aMkept aMisKept aMside aMwas H.size mref msize macts mspot mout k1 o26 ho26) (cwV 1 hts gX8_would_X8_refused rfl rfl rfl (by decide +kernel) ⟨Nat.le_of_ble_eq_true rfl, Nat.le_of_ble_eq_true rfl⟩) hP hD hS [0] (by decide) rfl rfl 0 rfl rfl rfl hl.1 rfl (Nat.le_of_ble_eq_true rfl) ⟨Nat.zero_le _, Nat.zero_le _⟩ dX8_would_26 (fun H locs hP hD hS => ?_)
    have hP : va_P D vwCl [(aM, .inr (7, [.int o26.2, .ref aMtext, .int msize, .ref aMnow, .ref aMtrial, .ref aMdiary, .int macts, .ref aMkept, .ref aMisKept, .ref aMside, .ref aMwas, .int mspot, .int mout])), (aMnow, .inl (cI 0, 79, .inl mnow)), (aMtrial, .inl (cI 0, 79, .inl mtrial)), (aMside, .inl (cI 0, 10, .inl mside))] H := hP
    have hD : va_D A [(aM, .inr (7, [.int o26.2, .ref aMtext, .int msize, .ref aMnow, .ref aMtrial, .ref aMdiary, .int macts, .ref aMkept, .ref aMisKept, .ref aMside, .ref aMwas, .int mspot, .int mout])), (aMnow, .inl (cI 0, 79, .inl mnow)), (aMtrial, .inl (cI 0, 79, .inl mtrial)), (aMside, .inl (cI 0, 10, .inl mside))] := hD
    refine lv_if_eq (tgt := 34) hx hb dX8_would_29 (by decide) (fun c9 => ?_) (fun c9 => ?_)
    · have hq := kite_t c9 hq
      refine lv_aload_n hx hb dX8_would_34 rfl (lv_at hl 0 rfl) ?_
      refine lv_iload_n hx hb dX8_would_35 rfl (lv_at hl 1 rfl) ?_
      refine lv_iload_n hx hb dX8_would_36 rfl (lv_at hl 2 rfl) ?_
      obtain ⟨o37, ho37, hq⟩ := kbind hq
      refine kc_Vi (av := [.int x1, .int x2]) (rest := []) hF hK hG hA (mk_X8_tryBall l D cI aM aMtext aMnow aMtrial aMdiary aMkept aMisKept aMside aMwas H.size o26.2 msize macts mspot mout mnow mtrial mside x1 x2 o37 ho37) (cwV 2 hts gX8_would_X8_tryBall rfl rfl rfl (by decide +kernel) ⟨Nat.le_of_ble_eq_true rfl, Nat.le_of_ble_eq_true rfl⟩) hP hD hS [0, 1, 2, 3] (by decide) rfl rfl 0 rfl rfl rfl hl.1 rfl (Nat.le_of_ble_eq_true rfl) ⟨Nat.zero_le _, Nat.zero_le _⟩ dX8_would_37 (fun H locs hP hD hS => ?_)
      have hP : va_P D vwCl [(aM, .inr (7, [.int o26.2, .ref aMtext, .int msize, .ref aMnow, .ref aMtrial, .ref aMdiary, .int macts, .ref aMkept, .ref aMisKept, .ref aMside, .ref aMwas, .int mspot, .int mout])), (aMnow, .inl (cI 0, 79, .inl mnow)), (aMtrial, .inl (cI 0, 79, .inl o37.2.1)), (aMside, .inl (cI 0, 10, .inl o37.2.2))] H := hP
      have hD : va_D A [(aM, .inr (7, [.int o26.2, .ref aMtext, .int msize, .ref aMnow, .ref aMtrial, .ref aMdiary, .int macts, .ref aMkept, .ref aMisKept, .ref aMside, .ref aMwas, .int mspot, .int mout])), (aMnow, .inl (cI 0, 79, .inl mnow)), (aMtrial, .inl (cI 0, 79, .inl o37.2.1)), (aMside, .inl (cI 0, 10, .inl o37.2.2))] := hD
      refine lv_istore (lv' := [(4, .int o37.1), (0, .ref aM), (1, .int x1), (2, .int x2), (3, .int x3)]) hx hb dX8_would_40 hl (by decide) rfl (fun ls hl => ?_)
      refine lv_iconst (v := 0) hx hb dX8_would_42 (by decide) ?_
      refine lv_istore (lv' := [(5, .int (0 : Int32)), (4, .int o37.1), (0, .ref aM), (1, .int x1), (2, .int x2), (3, .int x3)]) hx hb dX8_would_43 hl (by decide) rfl (fun ls hl => ?_)
      refine lv_iconst (v := 0) hx hb dX8_would_45 (by decide) ?_
      refine lv_istore (lv' := [(6, .int (0 : Int32)), (5, .int (0 : Int32)), (4, .int o37.1), (0, .ref aM), (1, .int x1), (2, .int x2), (3, .int x3)]) hx hb dX8_would_46 hl (by decide) rfl (fun ls hl => ?_)
      refine lv_iconst (v := 0) hx hb dX8_would_48 (by decide) ?_
      refine lv_istore (lv' := [(7, .int (0 : Int32)), (6, .int (0 : Int32)), (5, .int (0 : Int32)), (4, .int o37.1), (0, .ref aM), (1, .int x1), (2, .int x2), (3, .int x3)]) hx hb dX8_would_49 hl (by decide) rfl (fun ls hl => ?_)
      refine lv_iconst (v := 0) hx hb dX8_would_51 (by decide) ?_
      refine lv_istore (lv' := [(8, .int (0 : Int32)), (7, .int (0 : Int32)), (6, .int (0 : Int32)), (5, .int (0 : Int32)), (4, .int o37.1), (0, .ref aM), (1, .int x1), (2, .int x2), (3, .int x3)]) hx hb dX8_would_52 hl (by decide) rfl (fun ls hl => ?_)
      exact b_54 4096 _ _ _ o26.2 o37.2.1 o37.2.2 x3 o37.1 (0 : Int32) (0 : Int32) (0 : Int32) (0 : Int32) hq hP hD hS (lv_sub hl [5, 8, 4, 3, 2, 1, 0] rfl)
    · have hq := kite_f c9 hq
      refine lv_iconst (v := 0) hx hb dX8_would_32 (by decide) ?_
      have ho := Option.some.inj hq
      subst ho
      exact hend _ _ _ _ hP hS dX8_would_33
  have b_25 : ∀ (H : Heap) (locs : List Loc) (ls : Array Slot) (mref : Int32) (mtrial : kF) (mside : kF) (x1 : Int32) (x2 : Int32) (x3 : Int32), fn_X8_would_25 mref mnow mtrial mside x1 x2 x3 = some o → va_P D vwCl [(aM, .inr (7, [.int mref, .ref aMtext, .int msize, .ref aMnow, .ref aMtrial, .ref aMdiary, .int macts, .ref aMkept, .ref aMisKept, .ref aMside, .ref aMwas, .int mspot, .int mout])), (aMnow, .inl (cI 0, 79, .inl mnow)), (aMtrial, .inl (cI 0, 79, .inl mtrial)), (aMside, .inl (cI 0, 10, .inl mside))] H → va_D A [(aM, .inr (7, [.int mref, .ref aMtext, .int msize, .ref aMnow, .ref aMtrial, .ref aMdiary, .int macts, .ref aMkept, .ref aMisKept, .ref aMside, .ref aMwas, .int mspot, .int mout])), (aMnow, .inl (cI 0, 79, .inl mnow)), (aMtrial, .inl (cI 0, 79, .inl mtrial)), (aMside, .inl (cI 0, 10, .inl mside))] → va_S A s.heap H locs → lv_has ls 10 [(0, .ref aM), (1, .int x1), (2, .int x2), (3, .int x3)] → W p l e { frames := 5, cells := 0, slots := 0, locals := 116 } s m args below meth c H locs 0 0 Q (F0 m 25 ls [.ref aM]) := by
    intro H locs ls mref mtrial mside x1 x2 x3
    intro hq hP hD hS hl
    refine lv_iconst (v := 1) hx hb dX8_would_25 (by decide) ?_
    exact b_26  _ _ _ mref mtrial mside x1 x2 x3 (1 : Int32) hq hP hD hS (lv_sub hl [0, 1, 2, 3] rfl)
  refine lv_aload_n hx hb dX8_would_0 rfl (lv_at hl 0 rfl) ?_
  refine lv_iload_n hx hb dX8_would_1 rfl (lv_at hl 1 rfl) ?_
  refine lv_iload_n hx hb dX8_would_2 rfl (lv_at hl 2 rfl) ?_
  obtain ⟨o3, ho3, hq⟩ := kbind hq
  refine kc_Si (av := [.int x1, .int x2]) (rest := [.ref aM]) hF hK hG hA (mk_X8_isBall l D cI s.heap.size x1 x2 o3 ho3) (va_cwS 2 hts gX8_would_X8_isBall rfl rfl rfl (by decide +kernel) ⟨Nat.le_of_ble_eq_true rfl, Nat.le_of_ble_eq_true rfl⟩) hP hD hS [] (by decide) rfl rfl rfl hl.1 rfl (Nat.le_of_ble_eq_true rfl) ⟨Nat.zero_le _, Nat.zero_le _⟩ dX8_would_3 (fun H locs hP hD hS => ?_)
  have hP : va_P D vwCl [(aM, .inr (7, [.int mref, .ref aMtext, .int msize, .ref aMnow, .ref aMtrial, .ref aMdiary, .int macts, .ref aMkept, .ref aMisKept, .ref aMside, .ref aMwas, .int mspot, .int mout])), (aMnow, .inl (cI 0, 79, .inl mnow)), (aMtrial, .inl (cI 0, 79, .inl mtrial)), (aMside, .inl (cI 0, 10, .inl mside))] H := hP
  have hD : va_D A [(aM, .inr (7, [.int mref, .ref aMtext, .int msize, .ref aMnow, .ref aMtrial, .ref aMdiary, .int macts, .ref aMkept, .ref aMisKept, .ref aMside, .ref aMwas, .int mspot, .int mout])), (aMnow, .inl (cI 0, 79, .inl mnow)), (aMtrial, .inl (cI 0, 79, .inl mtrial)), (aMside, .inl (cI 0, 10, .inl mside))] := hD
  refine lv_if_eq (tgt := 25) hx hb dX8_would_6 (by decide) (fun c9 => ?_) (fun c9 => ?_)
  · have hq := kite_t c9 hq
    exact b_25  _ _ _ mref mtrial mside x1 x2 x3 hq hP hD hS (lv_sub hl [0, 1, 2, 3] rfl)
  · have hq := kite_f c9 hq
    refine lv_iload_n hx hb dX8_would_9 rfl (lv_at hl 3 rfl) ?_
    refine lv_i2l (v := (x3).toInt64) hx hb dX8_would_10 rfl ?_
    refine lv_lconst (v := 0) hx hb dX8_would_11 (by decide) ?_
    refine lv_ldc2 (v := 3) hx hb hown (hts (.constantLong RX8 71 (3 : Int64)) (by decide +kernel)) dX8_would_12 ?_
    obtain ⟨o15, ho15, hq⟩ := kbind hq
    refine kc_Si (av := [.long ((x3).toInt64), .long (0 : Int64), .long (3 : Int64)]) (rest := [.ref aM]) hF hK hG hA (mk_X8_in l D cI H.size ((x3).toInt64) (0 : Int64) (3 : Int64) o15 ho15) (va_cwS 3 hts gX8_would_X8_in rfl rfl rfl (by decide +kernel) ⟨Nat.le_of_ble_eq_true rfl, Nat.le_of_ble_eq_true rfl⟩) hP hD hS [] (by decide) rfl rfl rfl hl.1 rfl (Nat.le_of_ble_eq_true rfl) ⟨Nat.zero_le _, Nat.zero_le _⟩ dX8_would_15 (fun H locs hP hD hS => ?_)
    have hP : va_P D vwCl [(aM, .inr (7, [.int mref, .ref aMtext, .int msize, .ref aMnow, .ref aMtrial, .ref aMdiary, .int macts, .ref aMkept, .ref aMisKept, .ref aMside, .ref aMwas, .int mspot, .int mout])), (aMnow, .inl (cI 0, 79, .inl mnow)), (aMtrial, .inl (cI 0, 79, .inl mtrial)), (aMside, .inl (cI 0, 10, .inl mside))] H := hP
    have hD : va_D A [(aM, .inr (7, [.int mref, .ref aMtext, .int msize, .ref aMnow, .ref aMtrial, .ref aMdiary, .int macts, .ref aMkept, .ref aMisKept, .ref aMside, .ref aMwas, .int mspot, .int mout])), (aMnow, .inl (cI 0, 79, .inl mnow)), (aMtrial, .inl (cI 0, 79, .inl mtrial)), (aMside, .inl (cI 0, 10, .inl mside))] := hD
    refine lv_if_eq (tgt := 25) hx hb dX8_would_18 (by decide) (fun c9 => ?_) (fun c9 => ?_)
    · have hq := kite_t c9 hq
      exact b_25  _ _ _ mref mtrial mside x1 x2 x3 hq hP hD hS (lv_sub hl [0, 1, 2, 3] rfl)
    · have hq := kite_f c9 hq
      refine lv_iconst (v := 0) hx hb dX8_would_21 (by decide) ?_
      refine lv_goto (tgt := 26) hx hb dX8_would_22 (by decide) ?_
      exact b_26  _ _ _ mref mtrial mside x1 x2 x3 (0 : Int32) hq hP hD hS (lv_sub hl [0, 1, 2, 3] rfl)

set_option maxHeartbeats 4000000 in
set_option maxRecDepth 100000 in
theorem mk_X8_bestBoard (l : Launch) (D : va_G) (cI : Nat → ClassId) (aM aMtext aMnow aMtrial aMdiary aMkept aMisKept aMside aMwas : Nat) (sz : Nat) (mref : Int32) (msize : Int32) (macts : Int32) (mspot : Int32) (mout : Int32) (mnow : kF) (mtrial : kF) (mside : kF) (x1 : Int32) (o : Int32 × Int32 × kF × kF) (hq : fn_X8_bestBoard mref mnow mtrial mside x1 = some o) : Met l yX8_bestBoard wsX8_bestBoard ({ frames := 5, cells := 0, slots := 0, locals := 116 }) (kPc D cI [(aM, .inr (7, [.int mref, .ref aMtext, .int msize, .ref aMnow, .ref aMtrial, .ref aMdiary, .int macts, .ref aMkept, .ref aMisKept, .ref aMside, .ref aMwas, .int mspot, .int mout])), (aMnow, .inl (cI 0, 79, .inl mnow)), (aMtrial, .inl (cI 0, 79, .inl mtrial)), (aMside, .inl (cI 0, 10, .inl mside))] sz [.ref aM, .int x1]) (kQi D [(aM, .inr (7, [.int mref, .ref aMtext, .int msize, .ref aMnow, .ref aMtrial, .ref aMdiary, .int macts, .ref aMkept, .ref aMisKept, .ref aMside, .ref aMwas, .int mspot, .int mout])), (aMnow, .inl (cI 0, 79, .inl mnow)), (aMtrial, .inl (cI 0, 79, .inl mtrial)), (aMside, .inl (cI 0, 10, .inl mside))] [(aM, .inr (7, [.int o.2.1, .ref aMtext, .int msize, .ref aMnow, .ref aMtrial, .ref aMdiary, .int macts, .ref aMkept, .ref aMisKept, .ref aMside, .ref aMwas, .int mspot, .int mout])), (aMnow, .inl (cI 0, 79, .inl mnow)), (aMtrial, .inl (cI 0, 79, .inl o.2.2.1)), (aMside, .inl (cI 0, 10, .inl o.2.2.2))] sz o.1) 0 0 (va_A [(aM, .inr (7, [.int mref, .ref aMtext, .int msize, .ref aMnow, .ref aMtrial, .ref aMdiary, .int macts, .ref aMkept, .ref aMisKept, .ref aMside, .ref aMwas, .int mspot, .int mout])), (aMnow, .inl (cI 0, 79, .inl mnow)), (aMtrial, .inl (cI 0, 79, .inl mtrial)), (aMside, .inl (cI 0, 10, .inl mside))] sz) := by
  refine kM_i (cc := cX8_bestBoard) (maxL := 6) (by decide +kernel) rfl (Nat.le_of_ble_eq_true rfl) ?_
  intro p e s m args below meth c A Q hF hK hG hD hA hend ls hP hS hl
  obtain ⟨hx, hb, hml, hown, hts⟩ := id hF
  have hl : lv_has ls 6 [(0, .ref aM), (1, .int x1)] := hl
  have b_81 : ∀ (q40 : Int32 → kF → kF → kF → Int32 → Int32 → Int32 → Int32 → Option (Int32 × Int32 × kF × kF)), (∀ (H : Heap) (locs : List Loc) (ls : Array Slot) (mref : Int32) (mtrial : kF) (mside : kF) (x1 : Int32) (x2 : Int32) (x3 : Int32) (x4 : Int32), q40 mref mnow mtrial mside x1 x2 x3 x4 = some o → va_P D vwCl [(aM, .inr (7, [.int mref, .ref aMtext, .int msize, .ref aMnow, .ref aMtrial, .ref aMdiary, .int macts, .ref aMkept, .ref aMisKept, .ref aMside, .ref aMwas, .int mspot, .int mout])), (aMnow, .inl (cI 0, 79, .inl mnow)), (aMtrial, .inl (cI 0, 79, .inl mtrial)), (aMside, .inl (cI 0, 10, .inl mside))] H → va_D A [(aM, .inr (7, [.int mref, .ref aMtext, .int msize, .ref aMnow, .ref aMtrial, .ref aMdiary, .int macts, .ref aMkept, .ref aMisKept, .ref aMside, .ref aMwas, .int mspot, .int mout])), (aMnow, .inl (cI 0, 79, .inl mnow)), (aMtrial, .inl (cI 0, 79, .inl mtrial)), (aMside, .inl (cI 0, 10, .inl mside))] → va_S A s.heap H locs → lv_has ls 6 [(0, .ref aM), (1, .int x1), (2, .int x2), (3, .int x3), (4, .int x4)] → W p l e { frames := 5, cells := 0, slots := 0, locals := 116 } s m args below meth c H locs 0 0 Q (F0 m 40 ls [])) → ∀ (H : Heap) (locs : List Loc) (ls : Array Slot) (mref : Int32) (mtrial : kF) (mside : kF) (x1 : Int32) (x2 : Int32) (x4 : Int32) (k0 : Int32), fn_X8_bestBoard_81 q40 mref mnow mtrial mside x1 x2 x4 k0 = some o → va_P D vwCl [(aM, .inr (7, [.int mref, .ref aMtext, .int msize, .ref aMnow, .ref aMtrial, .ref aMdiary, .int macts, .ref aMkept, .ref aMisKept, .ref aMside, .ref aMwas, .int mspot, .int mout])), (aMnow, .inl (cI 0, 79, .inl mnow)), (aMtrial, .inl (cI 0, 79, .inl mtrial)), (aMside, .inl (cI 0, 10, .inl mside))] H → va_D A [(aM, .inr (7, [.int mref, .ref aMtext, .int msize, .ref aMnow, .ref aMtrial, .ref aMdiary, .int macts, .ref aMkept, .ref aMisKept, .ref aMside, .ref aMwas, .int mspot, .int mout])), (aMnow, .inl (cI 0, 79, .inl mnow)), (aMtrial, .inl (cI 0, 79, .inl mtrial)), (aMside, .inl (cI 0, 10, .inl mside))] → va_S A s.heap H locs → lv_has ls 6 [(0, .ref aM), (1, .int x1), (2, .int x2), (4, .int x4)] → W p l e { frames := 5, cells := 0, slots := 0, locals := 116 } s m args below meth c H locs 0 0 Q (F0 m 81 ls [.int k0]) := by
    intro q40 i40
    intro H locs ls mref mtrial mside x1 x2 x4 k0
    intro hq hP hD hS hl
    refine lv_istore_n (lv' := [(3, .int k0), (0, .ref aM), (1, .int x1), (2, .int x2), (4, .int x4)]) hx hb dX8_bestBoard_81 rfl hl (by decide) rfl (fun ls hl => ?_)
    refine lv_iinc (v := (x4 + 1)) (lv' := [(4, .int (x4 + 1)), (3, .int k0), (0, .ref aM), (1, .int x1), (2, .int x2)]) hx hb dX8_bestBoard_82 hl (k := 4) rfl rfl (by decide) rfl (fun ls hl => ?_)
    refine lv_goto (tgt := 40) hx hb dX8_bestBoard_85 (by decide) ?_
    exact i40 _ _ _ mref mtrial mside x1 x2 k0 (x4 + 1) hq hP hD hS (lv_sub hl [2, 3, 4, 1, 0] rfl)
  have b_68 : ∀ (q40 : Int32 → kF → kF → kF → Int32 → Int32 → Int32 → Int32 → Option (Int32 × Int32 × kF × kF)), (∀ (H : Heap) (locs : List Loc) (ls : Array Slot) (mref : Int32) (mtrial : kF) (mside : kF) (x1 : Int32) (x2 : Int32) (x3 : Int32) (x4 : Int32), q40 mref mnow mtrial mside x1 x2 x3 x4 = some o → va_P D vwCl [(aM, .inr (7, [.int mref, .ref aMtext, .int msize, .ref aMnow, .ref aMtrial, .ref aMdiary, .int macts, .ref aMkept, .ref aMisKept, .ref aMside, .ref aMwas, .int mspot, .int mout])), (aMnow, .inl (cI 0, 79, .inl mnow)), (aMtrial, .inl (cI 0, 79, .inl mtrial)), (aMside, .inl (cI 0, 10, .inl mside))] H → va_D A [(aM, .inr (7, [.int mref, .ref aMtext, .int msize, .ref aMnow, .ref aMtrial, .ref aMdiary, .int macts, .ref aMkept, .ref aMisKept, .ref aMside, .ref aMwas, .int mspot, .int mout])), (aMnow, .inl (cI 0, 79, .inl mnow)), (aMtrial, .inl (cI 0, 79, .inl mtrial)), (aMside, .inl (cI 0, 10, .inl mside))] → va_S A s.heap H locs → lv_has ls 6 [(0, .ref aM), (1, .int x1), (2, .int x2), (3, .int x3), (4, .int x4)] → W p l e { frames := 5, cells := 0, slots := 0, locals := 116 } s m args below meth c H locs 0 0 Q (F0 m 40 ls [])) → ∀ (H : Heap) (locs : List Loc) (ls : Array Slot) (mref : Int32) (mtrial : kF) (mside : kF) (x1 : Int32) (x3 : Int32) (x4 : Int32) (x5 : Int32) (k0 : Int32), fn_X8_bestBoard_68 q40 mref mnow mtrial mside x1 x3 x4 x5 k0 = some o → va_P D vwCl [(aM, .inr (7, [.int mref, .ref aMtext, .int msize, .ref aMnow, .ref aMtrial, .ref aMdiary, .int macts, .ref aMkept, .ref aMisKept, .ref aMside, .ref aMwas, .int mspot, .int mout])), (aMnow, .inl (cI 0, 79, .inl mnow)), (aMtrial, .inl (cI 0, 79, .inl mtrial)), (aMside, .inl (cI 0, 10, .inl mside))] H → va_D A [(aM, .inr (7, [.int mref, .ref aMtext, .int msize, .ref aMnow, .ref aMtrial, .ref aMdiary, .int macts, .ref aMkept, .ref aMisKept, .ref aMside, .ref aMwas, .int mspot, .int mout])), (aMnow, .inl (cI 0, 79, .inl mnow)), (aMtrial, .inl (cI 0, 79, .inl mtrial)), (aMside, .inl (cI 0, 10, .inl mside))] → va_S A s.heap H locs → lv_has ls 6 [(0, .ref aM), (1, .int x1), (3, .int x3), (4, .int x4), (5, .int x5)] → W p l e { frames := 5, cells := 0, slots := 0, locals := 116 } s m args below meth c H locs 0 0 Q (F0 m 68 ls [.int k0]) := by
    intro q40 i40
    intro H locs ls mref mtrial mside x1 x3 x4 x5 k0
    intro hq hP hD hS hl
    refine lv_istore_n (lv' := [(2, .int k0), (0, .ref aM), (1, .int x1), (3, .int x3), (4, .int x4), (5, .int x5)]) hx hb dX8_bestBoard_68 rfl hl (by decide) rfl (fun ls hl => ?_)
    refine lv_iload hx hb dX8_bestBoard_69 (lv_at hl 5 rfl) ?_
    refine lv_iload_n hx hb dX8_bestBoard_71 rfl (lv_at hl 3 rfl) ?_
    refine lv_icmp_le (tgt := 80) hx hb dX8_bestBoard_72 (by decide) (fun c9 => ?_) (fun c9 => ?_)
    · have hq := kite_t c9 hq
      refine lv_iload_n hx hb dX8_bestBoard_80 rfl (lv_at hl 3 rfl) ?_
      exact b_81 q40 i40 _ _ _ mref mtrial mside x1 k0 x4 x3 hq hP hD hS (lv_sub hl [1, 2, 0, 4] rfl)
    · have hq := kite_f c9 hq
      refine lv_iload hx hb dX8_bestBoard_75 (lv_at hl 5 rfl) ?_
      refine lv_goto (tgt := 81) hx hb dX8_bestBoard_77 (by decide) ?_
      exact b_81 q40 i40 _ _ _ mref mtrial mside x1 k0 x4 x5 hq hP hD hS (lv_sub hl [1, 2, 0, 4] rfl)
  have b_40 : ∀ (q : Nat), ∀ (H : Heap) (locs : List Loc) (ls : Array Slot) (mref : Int32) (mtrial : kF) (mside : kF) (x1 : Int32) (x2 : Int32) (x3 : Int32) (x4 : Int32), fn_X8_bestBoard_40 q mref mnow mtrial mside x1 x2 x3 x4 = some o → va_P D vwCl [(aM, .inr (7, [.int mref, .ref aMtext, .int msize, .ref aMnow, .ref aMtrial, .ref aMdiary, .int macts, .ref aMkept, .ref aMisKept, .ref aMside, .ref aMwas, .int mspot, .int mout])), (aMnow, .inl (cI 0, 79, .inl mnow)), (aMtrial, .inl (cI 0, 79, .inl mtrial)), (aMside, .inl (cI 0, 10, .inl mside))] H → va_D A [(aM, .inr (7, [.int mref, .ref aMtext, .int msize, .ref aMnow, .ref aMtrial, .ref aMdiary, .int macts, .ref aMkept, .ref aMisKept, .ref aMside, .ref aMwas, .int mspot, .int mout])), (aMnow, .inl (cI 0, 79, .inl mnow)), (aMtrial, .inl (cI 0, 79, .inl mtrial)), (aMside, .inl (cI 0, 10, .inl mside))] → va_S A s.heap H locs → lv_has ls 6 [(0, .ref aM), (1, .int x1), (2, .int x2), (3, .int x3), (4, .int x4)] → W p l e { frames := 5, cells := 0, slots := 0, locals := 116 } s m args below meth c H locs 0 0 Q (F0 m 40 ls []) := by
    intro q
    induction q with
    | zero =>
      intro H locs ls mref mtrial mside x1 x2 x3 x4
      intro hq
      cases hq
    | succ q ih =>
      intro H locs ls mref mtrial mside x1 x2 x3 x4
      intro hq hP hD hS hl
      refine lv_iload hx hb dX8_bestBoard_40 (lv_at hl 4 rfl) ?_
      refine lv_bipush (v := 40) hx hb dX8_bestBoard_42 (by decide) ?_
      refine lv_icmp_gt (tgt := 88) hx hb dX8_bestBoard_44 (by decide) (fun c9 => ?_) (fun c9 => ?_)
      · have hq := kite_t c9 hq
        refine lv_iload_n hx hb dX8_bestBoard_88 rfl (lv_at hl 2 rfl) ?_
        have ho := Option.some.inj hq
        subst ho
        exact hend _ _ _ _ hP hS dX8_bestBoard_89
      · have hq := kite_f c9 hq
        refine lv_aload_n hx hb dX8_bestBoard_47 rfl (lv_at hl 0 rfl) ?_
        refine lv_iload hx hb dX8_bestBoard_48 (lv_at hl 4 rfl) ?_
        refine lv_iload_n hx hb dX8_bestBoard_50 rfl (lv_at hl 1 rfl) ?_
        obtain ⟨o51, ho51, hq⟩ := kbind hq
        refine kc_Vi (av := [.int x4, .int x1]) (rest := []) hF hK hG hA (mk_X8_tryBall l D cI aM aMtext aMnow aMtrial aMdiary aMkept aMisKept aMside aMwas H.size mref msize macts mspot mout mnow mtrial mside x4 x1 o51 ho51) (cwV 2 hts gX8_bestBoard_X8_tryBall rfl rfl rfl (by decide +kernel) ⟨Nat.le_of_ble_eq_true rfl, Nat.le_of_ble_eq_true rfl⟩) hP hD hS [0, 1, 2, 3] (by decide) rfl rfl 0 rfl rfl rfl hl.1 rfl (Nat.le_of_ble_eq_true rfl) ⟨Nat.zero_le _, Nat.zero_le _⟩ dX8_bestBoard_51 (fun H locs hP hD hS => ?_)
        have hP : va_P D vwCl [(aM, .inr (7, [.int mref, .ref aMtext, .int msize, .ref aMnow, .ref aMtrial, .ref aMdiary, .int macts, .ref aMkept, .ref aMisKept, .ref aMside, .ref aMwas, .int mspot, .int mout])), (aMnow, .inl (cI 0, 79, .inl mnow)), (aMtrial, .inl (cI 0, 79, .inl o51.2.1)), (aMside, .inl (cI 0, 10, .inl o51.2.2))] H := hP
        have hD : va_D A [(aM, .inr (7, [.int mref, .ref aMtext, .int msize, .ref aMnow, .ref aMtrial, .ref aMdiary, .int macts, .ref aMkept, .ref aMisKept, .ref aMside, .ref aMwas, .int mspot, .int mout])), (aMnow, .inl (cI 0, 79, .inl mnow)), (aMtrial, .inl (cI 0, 79, .inl o51.2.1)), (aMside, .inl (cI 0, 10, .inl o51.2.2))] := hD
        refine lv_istore (lv' := [(5, .int o51.1), (0, .ref aM), (1, .int x1), (2, .int x2), (3, .int x3), (4, .int x4)]) hx hb dX8_bestBoard_54 hl (by decide) rfl (fun ls hl => ?_)
        refine lv_iload hx hb dX8_bestBoard_56 (lv_at hl 0 rfl) ?_
        refine lv_iload_n hx hb dX8_bestBoard_58 rfl (lv_at hl 4 rfl) ?_
        refine lv_icmp_le (tgt := 67) hx hb dX8_bestBoard_59 (by decide) (fun c9 => ?_) (fun c9 => ?_)
        · have hq := kite_t c9 hq
          refine lv_iload_n hx hb dX8_bestBoard_67 rfl (lv_at hl 3 rfl) ?_
          exact b_68 (fn_X8_bestBoard_40 q) ih _ _ _ mref o51.2.1 o51.2.2 x1 x3 x4 o51.1 x2 hq hP hD hS (lv_sub hl [1, 2, 4, 5, 0] rfl)
        · have hq := kite_f c9 hq
          refine lv_iload hx hb dX8_bestBoard_62 (lv_at hl 5 rfl) ?_
          refine lv_goto (tgt := 68) hx hb dX8_bestBoard_64 (by decide) ?_
          exact b_68 (fn_X8_bestBoard_40 q) ih _ _ _ mref o51.2.1 o51.2.2 x1 x3 x4 o51.1 x4 hq hP hD hS (lv_sub hl [1, 2, 4, 5, 0] rfl)
  have b_20 : ∀ (H : Heap) (locs : List Loc) (ls : Array Slot) (mref : Int32) (mtrial : kF) (mside : kF) (x1 : Int32) (k1 : Int32), fn_X8_bestBoard_20 mref mnow mtrial mside x1 k1 = some o → va_P D vwCl [(aM, .inr (7, [.int mref, .ref aMtext, .int msize, .ref aMnow, .ref aMtrial, .ref aMdiary, .int macts, .ref aMkept, .ref aMisKept, .ref aMside, .ref aMwas, .int mspot, .int mout])), (aMnow, .inl (cI 0, 79, .inl mnow)), (aMtrial, .inl (cI 0, 79, .inl mtrial)), (aMside, .inl (cI 0, 10, .inl mside))] H → va_D A [(aM, .inr (7, [.int mref, .ref aMtext, .int msize, .ref aMnow, .ref aMtrial, .ref aMdiary, .int macts, .ref aMkept, .ref aMisKept, .ref aMside, .ref aMwas, .int mspot, .int mout])), (aMnow, .inl (cI 0, 79, .inl mnow)), (aMtrial, .inl (cI 0, 79, .inl mtrial)), (aMside, .inl (cI 0, 10, .inl mside))] → va_S A s.heap H locs → lv_has ls 6 [(0, .ref aM), (1, .int x1)] → W p l e { frames := 5, cells := 0, slots := 0, locals := 116 } s m args below meth c H locs 0 0 Q (F0 m 20 ls [.int k1, .ref aM]) := by
    intro H locs ls mref mtrial mside x1 k1
    intro hq hP hD hS hl
    obtain ⟨o20, ho20, hq⟩ := kbind hq
    refine kc_Vi (av := [.int k1]) (rest := []) hF hK hG hA (mk_X8_refused l D cI aM aMtext aMnow aMtrial aMdiary aMkept aMisKept aMside aMwas H.size mref msize macts mspot mout k1 o20 ho20) (cwV 1 hts gX8_bestBoard_X8_refused rfl rfl rfl (by decide +kernel) ⟨Nat.le_of_ble_eq_true rfl, Nat.le_of_ble_eq_true rfl⟩) hP hD hS [0] (by decide) rfl rfl 0 rfl rfl rfl hl.1 rfl (Nat.le_of_ble_eq_true rfl) ⟨Nat.zero_le _, Nat.zero_le _⟩ dX8_bestBoard_20 (fun H locs hP hD hS => ?_)
    have hP : va_P D vwCl [(aM, .inr (7, [.int o20.2, .ref aMtext, .int msize, .ref aMnow, .ref aMtrial, .ref aMdiary, .int macts, .ref aMkept, .ref aMisKept, .ref aMside, .ref aMwas, .int mspot, .int mout])), (aMnow, .inl (cI 0, 79, .inl mnow)), (aMtrial, .inl (cI 0, 79, .inl mtrial)), (aMside, .inl (cI 0, 10, .inl mside))] H := hP
    have hD : va_D A [(aM, .inr (7, [.int o20.2, .ref aMtext, .int msize, .ref aMnow, .ref aMtrial, .ref aMdiary, .int macts, .ref aMkept, .ref aMisKept, .ref aMside, .ref aMwas, .int mspot, .int mout])), (aMnow, .inl (cI 0, 79, .inl mnow)), (aMtrial, .inl (cI 0, 79, .inl mtrial)), (aMside, .inl (cI 0, 10, .inl mside))] := hD
    refine lv_if_eq (tgt := 28) hx hb dX8_bestBoard_23 (by decide) (fun c9 => ?_) (fun c9 => ?_)
    · have hq := kite_t c9 hq
      refine lv_iconst (v := 0) hx hb dX8_bestBoard_28 (by decide) ?_
      refine lv_istore_n (lv' := [(2, .int (0 : Int32)), (0, .ref aM), (1, .int x1)]) hx hb dX8_bestBoard_29 rfl hl (by decide) rfl (fun ls hl => ?_)
      refine lv_aload_n hx hb dX8_bestBoard_30 rfl (lv_at hl 1 rfl) ?_
      refine lv_iconst (v := 0) hx hb dX8_bestBoard_31 (by decide) ?_
      refine lv_iload_n hx hb dX8_bestBoard_32 rfl (lv_at hl 2 rfl) ?_
      obtain ⟨o33, ho33, hq⟩ := kbind hq
      refine kc_Vi (av := [.int (0 : Int32), .int x1]) (rest := []) hF hK hG hA (mk_X8_tryBall l D cI aM aMtext aMnow aMtrial aMdiary aMkept aMisKept aMside aMwas H.size o20.2 msize macts mspot mout mnow mtrial mside (0 : Int32) x1 o33 ho33) (cwV 2 hts gX8_bestBoard_X8_tryBall rfl rfl rfl (by decide +kernel) ⟨Nat.le_of_ble_eq_true rfl, Nat.le_of_ble_eq_true rfl⟩) hP hD hS [0, 1, 2, 3] (by decide) rfl rfl 0 rfl rfl rfl hl.1 rfl (Nat.le_of_ble_eq_true rfl) ⟨Nat.zero_le _, Nat.zero_le _⟩ dX8_bestBoard_33 (fun H locs hP hD hS => ?_)
      have hP : va_P D vwCl [(aM, .inr (7, [.int o20.2, .ref aMtext, .int msize, .ref aMnow, .ref aMtrial, .ref aMdiary, .int macts, .ref aMkept, .ref aMisKept, .ref aMside, .ref aMwas, .int mspot, .int mout])), (aMnow, .inl (cI 0, 79, .inl mnow)), (aMtrial, .inl (cI 0, 79, .inl o33.2.1)), (aMside, .inl (cI 0, 10, .inl o33.2.2))] H := hP
      have hD : va_D A [(aM, .inr (7, [.int o20.2, .ref aMtext, .int msize, .ref aMnow, .ref aMtrial, .ref aMdiary, .int macts, .ref aMkept, .ref aMisKept, .ref aMside, .ref aMwas, .int mspot, .int mout])), (aMnow, .inl (cI 0, 79, .inl mnow)), (aMtrial, .inl (cI 0, 79, .inl o33.2.1)), (aMside, .inl (cI 0, 10, .inl o33.2.2))] := hD
      refine lv_istore_n (lv' := [(3, .int o33.1), (2, .int (0 : Int32)), (0, .ref aM), (1, .int x1)]) hx hb dX8_bestBoard_36 rfl hl (by decide) rfl (fun ls hl => ?_)
      refine lv_iconst (v := 1) hx hb dX8_bestBoard_37 (by decide) ?_
      refine lv_istore (lv' := [(4, .int (1 : Int32)), (3, .int o33.1), (2, .int (0 : Int32)), (0, .ref aM), (1, .int x1)]) hx hb dX8_bestBoard_38 hl (by decide) rfl (fun ls hl => ?_)
      exact b_40 4096 _ _ _ o20.2 o33.2.1 o33.2.2 x1 (0 : Int32) o33.1 (1 : Int32) hq hP hD hS (lv_sub hl [3, 4, 2, 1, 0] rfl)
    · have hq := kite_f c9 hq
      refine lv_iconst (v := 0) hx hb dX8_bestBoard_26 (by decide) ?_
      have ho := Option.some.inj hq
      subst ho
      exact hend _ _ _ _ hP hS dX8_bestBoard_27
  refine lv_aload_n hx hb dX8_bestBoard_0 rfl (lv_at hl 0 rfl) ?_
  refine lv_iload_n hx hb dX8_bestBoard_1 rfl (lv_at hl 1 rfl) ?_
  refine lv_i2l (v := (x1).toInt64) hx hb dX8_bestBoard_2 rfl ?_
  refine lv_ldc2 (v := (-2)) hx hb hown (hts (.constantLong RX8 54 (-2 : Int64)) (by decide +kernel)) dX8_bestBoard_3 ?_
  refine lv_ldc2 (v := 2) hx hb hown (hts (.constantLong RX8 56 (2 : Int64)) (by decide +kernel)) dX8_bestBoard_6 ?_
  obtain ⟨o9, ho9, hq⟩ := kbind hq
  refine kc_Si (av := [.long ((x1).toInt64), .long (-2 : Int64), .long (2 : Int64)]) (rest := [.ref aM]) hF hK hG hA (mk_X8_in l D cI s.heap.size ((x1).toInt64) (-2 : Int64) (2 : Int64) o9 ho9) (va_cwS 3 hts gX8_bestBoard_X8_in rfl rfl rfl (by decide +kernel) ⟨Nat.le_of_ble_eq_true rfl, Nat.le_of_ble_eq_true rfl⟩) hP hD hS [] (by decide) rfl rfl rfl hl.1 rfl (Nat.le_of_ble_eq_true rfl) ⟨Nat.zero_le _, Nat.zero_le _⟩ dX8_bestBoard_9 (fun H locs hP hD hS => ?_)
  have hP : va_P D vwCl [(aM, .inr (7, [.int mref, .ref aMtext, .int msize, .ref aMnow, .ref aMtrial, .ref aMdiary, .int macts, .ref aMkept, .ref aMisKept, .ref aMside, .ref aMwas, .int mspot, .int mout])), (aMnow, .inl (cI 0, 79, .inl mnow)), (aMtrial, .inl (cI 0, 79, .inl mtrial)), (aMside, .inl (cI 0, 10, .inl mside))] H := hP
  have hD : va_D A [(aM, .inr (7, [.int mref, .ref aMtext, .int msize, .ref aMnow, .ref aMtrial, .ref aMdiary, .int macts, .ref aMkept, .ref aMisKept, .ref aMside, .ref aMwas, .int mspot, .int mout])), (aMnow, .inl (cI 0, 79, .inl mnow)), (aMtrial, .inl (cI 0, 79, .inl mtrial)), (aMside, .inl (cI 0, 10, .inl mside))] := hD
  refine lv_if_eq (tgt := 19) hx hb dX8_bestBoard_12 (by decide) (fun c9 => ?_) (fun c9 => ?_)
  · have hq := kite_t c9 hq
    refine lv_iconst (v := 1) hx hb dX8_bestBoard_19 (by decide) ?_
    exact b_20  _ _ _ mref mtrial mside x1 (1 : Int32) hq hP hD hS (lv_sub hl [0, 1] rfl)
  · have hq := kite_f c9 hq
    refine lv_iconst (v := 0) hx hb dX8_bestBoard_15 (by decide) ?_
    refine lv_goto (tgt := 20) hx hb dX8_bestBoard_16 (by decide) ?_
    exact b_20  _ _ _ mref mtrial mside x1 (0 : Int32) hq hP hD hS (lv_sub hl [0, 1] rfl)

theorem iw_X8_slowest_X8 : ∀ w ∈ wsX80, w ∈ wsX8_slowest := by decide +kernel
set_option maxHeartbeats 4000000 in
set_option maxRecDepth 100000 in
theorem mk_X8_slowest (l : Launch) (D : va_G) (cI : Nat → ClassId) (aM aMtext aMnow aMtrial aMdiary aMkept aMisKept aMside aMwas : Nat) (sz : Nat) (mref : Int32) (msize : Int32) (macts : Int32) (mspot : Int32) (mout : Int32) (mnow : kF) (o : Int32 × Int32) (hq : fn_X8_slowest mref mnow = some o) : Met l yX8_slowest wsX8_slowest ({ frames := 1, cells := 0, slots := 0, locals := 21 }) (kPc D cI [(aM, .inr (7, [.int mref, .ref aMtext, .int msize, .ref aMnow, .ref aMtrial, .ref aMdiary, .int macts, .ref aMkept, .ref aMisKept, .ref aMside, .ref aMwas, .int mspot, .int mout])), (aMnow, .inl (cI 0, 79, .inl mnow))] sz [.ref aM]) (kQi D [(aM, .inr (7, [.int mref, .ref aMtext, .int msize, .ref aMnow, .ref aMtrial, .ref aMdiary, .int macts, .ref aMkept, .ref aMisKept, .ref aMside, .ref aMwas, .int mspot, .int mout])), (aMnow, .inl (cI 0, 79, .inl mnow))] [(aM, .inr (7, [.int o.2, .ref aMtext, .int msize, .ref aMnow, .ref aMtrial, .ref aMdiary, .int macts, .ref aMkept, .ref aMisKept, .ref aMside, .ref aMwas, .int mspot, .int mout])), (aMnow, .inl (cI 0, 79, .inl mnow))] sz o.1) 0 0 (va_A [(aM, .inr (7, [.int mref, .ref aMtext, .int msize, .ref aMnow, .ref aMtrial, .ref aMdiary, .int macts, .ref aMkept, .ref aMisKept, .ref aMside, .ref aMwas, .int mspot, .int mout])), (aMnow, .inl (cI 0, 79, .inl mnow))] sz) := by
  refine kM_i (cc := cX8_slowest) (maxL := 2) (by decide +kernel) rfl (Nat.le_of_ble_eq_true rfl) ?_
  intro p e s m args below meth c A Q hF hK hG hD hA hend ls hP hS hl
  obtain ⟨hx, hb, hml, hown, hts⟩ := id hF
  have hl : lv_has ls 2 [(0, .ref aM)] := hl
  have b_7 : ∀ (q : Nat), ∀ (H : Heap) (locs : List Loc) (ls : Array Slot) (mref : Int32) (x1 : Int32), fn_X8_slowest_7 q mref mnow x1 = some o → va_P D vwCl [(aM, .inr (7, [.int mref, .ref aMtext, .int msize, .ref aMnow, .ref aMtrial, .ref aMdiary, .int macts, .ref aMkept, .ref aMisKept, .ref aMside, .ref aMwas, .int mspot, .int mout])), (aMnow, .inl (cI 0, 79, .inl mnow))] H → va_D A [(aM, .inr (7, [.int mref, .ref aMtext, .int msize, .ref aMnow, .ref aMtrial, .ref aMdiary, .int macts, .ref aMkept, .ref aMisKept, .ref aMside, .ref aMwas, .int mspot, .int mout])), (aMnow, .inl (cI 0, 79, .inl mnow))] → va_S A s.heap H locs → lv_has ls 2 [(0, .ref aM), (1, .int x1)] → W p l e { frames := 1, cells := 0, slots := 0, locals := 21 } s m args below meth c H locs 0 0 Q (F0 m 7 ls []) := by
    intro q
    induction q with
    | zero =>
      intro H locs ls mref x1
      intro hq
      cases hq
    | succ q ih =>
      intro H locs ls mref x1
      intro hq hP hD hS hl
      refine lv_aload_n hx hb dX8_slowest_7 rfl (lv_at hl 0 rfl) ?_
      refine va_get (D := D) (ci := 7) (v := .ref aMnow) (C := RX8) (T := TX8) (N := 13) hx hb hts iw_X8_slowest_X8 hown hK.1 hP 0 rfl rfl 3 (by decide) (hts (.fieldLink RX8 13 "PinDeckModel" "now" "[I") (by decide +kernel)) (fun _ h9 => h9) rfl dX8_slowest_8 ?_
      refine lv_iload_n hx hb dX8_slowest_11 rfl (lv_at hl 1 rfl) ?_
      obtain ⟨o12, ho12, hq⟩ := kbind hq
      refine kc_Si (av := [.ref aMnow, .int x1]) (rest := []) hF hK hG hA (mk_X8_isStopped l D cI aMnow H.size mnow x1 o12 ho12) (va_cwS 2 hts gX8_slowest_X8_isStopped rfl rfl rfl (by decide +kernel) ⟨Nat.le_of_ble_eq_true rfl, Nat.le_of_ble_eq_true rfl⟩) hP hD hS [1] (by decide) rfl rfl rfl hl.1 rfl (Nat.le_of_ble_eq_true rfl) ⟨Nat.zero_le _, Nat.zero_le _⟩ dX8_slowest_12 (fun H locs hP hD hS => ?_)
      have hP : va_P D vwCl [(aM, .inr (7, [.int mref, .ref aMtext, .int msize, .ref aMnow, .ref aMtrial, .ref aMdiary, .int macts, .ref aMkept, .ref aMisKept, .ref aMside, .ref aMwas, .int mspot, .int mout])), (aMnow, .inl (cI 0, 79, .inl mnow))] H := hP
      have hD : va_D A [(aM, .inr (7, [.int mref, .ref aMtext, .int msize, .ref aMnow, .ref aMtrial, .ref aMdiary, .int macts, .ref aMkept, .ref aMisKept, .ref aMside, .ref aMwas, .int mspot, .int mout])), (aMnow, .inl (cI 0, 79, .inl mnow))] := hD
      refine lv_if_eq (tgt := 24) hx hb dX8_slowest_15 (by decide) (fun c9 => ?_) (fun c9 => ?_)
      · have hq := kite_t c9 hq
        refine lv_iload_n hx hb dX8_slowest_24 rfl (lv_at hl 1 rfl) ?_
        have ho := Option.some.inj hq
        subst ho
        exact hend _ _ _ _ hP hS dX8_slowest_25
      · have hq := kite_f c9 hq
        refine lv_iinc (v := (x1 + 1)) (lv' := [(1, .int (x1 + 1)), (0, .ref aM)]) hx hb dX8_slowest_18 hl (k := 1) rfl rfl (by decide) rfl (fun ls hl => ?_)
        refine lv_goto (tgt := 7) hx hb dX8_slowest_21 (by decide) ?_
        exact ih _ _ _ mref (x1 + 1) hq hP hD hS (lv_sub hl [1, 0] rfl)
  refine lv_aload_n hx hb dX8_slowest_0 rfl (lv_at hl 0 rfl) ?_
  refine lv_iconst (v := 0) hx hb dX8_slowest_1 (by decide) ?_
  refine va_put (D := D) (ci := 7) (v := .int (0 : Int32)) (ty := .int) (C := RX8) (T := TX8) (N := 13) hx hb hts iw_X8_slowest_X8 tyX8 tyX8_ok nmX8 hown hK.1 hP hD hS 0 rfl rfl 0 (by decide) (hts (.fieldLink RX8 39 "PinDeckModel" "refusal" "I") (by decide +kernel)) (fun _ h9 => h9) rfl (by decide +kernel) rfl rfl (Nat.le_of_ble_eq_true rfl) dX8_slowest_2 (fun H locs hP hD hS => ?_)
  have hP : va_P D vwCl [(aM, .inr (7, [.int (0 : Int32), .ref aMtext, .int msize, .ref aMnow, .ref aMtrial, .ref aMdiary, .int macts, .ref aMkept, .ref aMisKept, .ref aMside, .ref aMwas, .int mspot, .int mout])), (aMnow, .inl (cI 0, 79, .inl mnow))] H := hP
  have hD : va_D A [(aM, .inr (7, [.int (0 : Int32), .ref aMtext, .int msize, .ref aMnow, .ref aMtrial, .ref aMdiary, .int macts, .ref aMkept, .ref aMisKept, .ref aMside, .ref aMwas, .int mspot, .int mout])), (aMnow, .inl (cI 0, 79, .inl mnow))] := hD
  refine lv_iconst (v := 1) hx hb dX8_slowest_5 (by decide) ?_
  refine lv_istore_n (lv' := [(1, .int (1 : Int32)), (0, .ref aM)]) hx hb dX8_slowest_6 rfl hl (by decide) rfl (fun ls hl => ?_)
  exact b_7 4096 _ _ _ (0 : Int32) (1 : Int32) hq hP hD hS (lv_sub hl [1, 0] rfl)

theorem iw_X8_goesOn_X8 : ∀ w ∈ wsX80, w ∈ wsX8_goesOn := by decide +kernel
set_option maxHeartbeats 4000000 in
set_option maxRecDepth 100000 in
theorem mk_X8_goesOn (l : Launch) (D : va_G) (cI : Nat → ClassId) (aM aMtext aMnow aMtrial aMdiary aMkept aMisKept aMside aMwas : Nat) (sz : Nat) (mref : Int32) (msize : Int32) (macts : Int32) (mspot : Int32) (mout : Int32) (mnow : kF) (mtrial : kF) (mside : kF) (mwas : kF) (x1 : Int32) (x2 : Int32) (o : Int32 × Int32 × kF × kF × kF) (hq : fn_X8_goesOn mref mnow mtrial mside mwas x1 x2 = some o) : Met l yX8_goesOn wsX8_goesOn ({ frames := 5, cells := 0, slots := 0, locals := 121 }) (kPc D cI [(aM, .inr (7, [.int mref, .ref aMtext, .int msize, .ref aMnow, .ref aMtrial, .ref aMdiary, .int macts, .ref aMkept, .ref aMisKept, .ref aMside, .ref aMwas, .int mspot, .int mout])), (aMnow, .inl (cI 0, 79, .inl mnow)), (aMtrial, .inl (cI 0, 79, .inl mtrial)), (aMside, .inl (cI 0, 10, .inl mside)), (aMwas, .inl (cI 0, 30, .inl mwas))] sz [.ref aM, .int x1, .int x2]) (kQi D [(aM, .inr (7, [.int mref, .ref aMtext, .int msize, .ref aMnow, .ref aMtrial, .ref aMdiary, .int macts, .ref aMkept, .ref aMisKept, .ref aMside, .ref aMwas, .int mspot, .int mout])), (aMnow, .inl (cI 0, 79, .inl mnow)), (aMtrial, .inl (cI 0, 79, .inl mtrial)), (aMside, .inl (cI 0, 10, .inl mside)), (aMwas, .inl (cI 0, 30, .inl mwas))] [(aM, .inr (7, [.int o.2.1, .ref aMtext, .int msize, .ref aMnow, .ref aMtrial, .ref aMdiary, .int macts, .ref aMkept, .ref aMisKept, .ref aMside, .ref aMwas, .int mspot, .int mout])), (aMnow, .inl (cI 0, 79, .inl mnow)), (aMtrial, .inl (cI 0, 79, .inl o.2.2.1)), (aMside, .inl (cI 0, 10, .inl o.2.2.2.1)), (aMwas, .inl (cI 0, 30, .inl o.2.2.2.2))] sz o.1) 0 0 (va_A [(aM, .inr (7, [.int mref, .ref aMtext, .int msize, .ref aMnow, .ref aMtrial, .ref aMdiary, .int macts, .ref aMkept, .ref aMisKept, .ref aMside, .ref aMwas, .int mspot, .int mout])), (aMnow, .inl (cI 0, 79, .inl mnow)), (aMtrial, .inl (cI 0, 79, .inl mtrial)), (aMside, .inl (cI 0, 10, .inl mside)), (aMwas, .inl (cI 0, 30, .inl mwas))] sz) := by
  refine kM_i (cc := cX8_goesOn) (maxL := 3) (by decide +kernel) rfl (Nat.le_of_ble_eq_true rfl) ?_
  intro p e s m args below meth c A Q hF hK hG hD hA hend ls hP hS hl
  obtain ⟨hx, hb, hml, hown, hts⟩ := id hF
  have hl : lv_has ls 3 [(0, .ref aM), (1, .int x1), (2, .int x2)] := hl
  have b_35 : ∀ (q : Nat), ∀ (H : Heap) (locs : List Loc) (ls : Array Slot) (mref : Int32) (mtrial : kF) (mside : kF) (mwas : kF) (x1 : Int32) (x2 : Int32), fn_X8_goesOn_35 q mref mnow mtrial mside mwas x1 x2 = some o → va_P D vwCl [(aM, .inr (7, [.int mref, .ref aMtext, .int msize, .ref aMnow, .ref aMtrial, .ref aMdiary, .int macts, .ref aMkept, .ref aMisKept, .ref aMside, .ref aMwas, .int mspot, .int mout])), (aMnow, .inl (cI 0, 79, .inl mnow)), (aMtrial, .inl (cI 0, 79, .inl mtrial)), (aMside, .inl (cI 0, 10, .inl mside)), (aMwas, .inl (cI 0, 30, .inl mwas))] H → va_D A [(aM, .inr (7, [.int mref, .ref aMtext, .int msize, .ref aMnow, .ref aMtrial, .ref aMdiary, .int macts, .ref aMkept, .ref aMisKept, .ref aMside, .ref aMwas, .int mspot, .int mout])), (aMnow, .inl (cI 0, 79, .inl mnow)), (aMtrial, .inl (cI 0, 79, .inl mtrial)), (aMside, .inl (cI 0, 10, .inl mside)), (aMwas, .inl (cI 0, 30, .inl mwas))] → va_S A s.heap H locs → lv_has ls 3 [(0, .ref aM), (1, .int x1), (2, .int x2)] → W p l e { frames := 5, cells := 0, slots := 0, locals := 121 } s m args below meth c H locs 0 0 Q (F0 m 35 ls []) := by
    intro q
    induction q with
    | zero =>
      intro H locs ls mref mtrial mside mwas x1 x2
      intro hq
      cases hq
    | succ q ih =>
      intro H locs ls mref mtrial mside mwas x1 x2
      intro hq hP hD hS hl
      refine lv_aload_n hx hb dX8_goesOn_35 rfl (lv_at hl 0 rfl) ?_
      refine va_get (D := D) (ci := 7) (v := .ref aMtrial) (C := RX8) (T := TX8) (N := 13) hx hb hts iw_X8_goesOn_X8 hown hK.1 hP 0 rfl rfl 4 (by decide) (hts (.fieldLink RX8 16 "PinDeckModel" "trial" "[I") (by decide +kernel)) (fun _ h9 => h9) rfl dX8_goesOn_36 ?_
      obtain ⟨o39, ho39, hq⟩ := kbind hq
      refine kc_Si (av := [.ref aMtrial]) (rest := []) hF hK hG hA (mk_X8_isOver l D cI aMtrial H.size mtrial o39 ho39) (va_cwS 1 hts gX8_goesOn_X8_isOver rfl rfl rfl (by decide +kernel) ⟨Nat.le_of_ble_eq_true rfl, Nat.le_of_ble_eq_true rfl⟩) hP hD hS [2] (by decide) rfl rfl rfl hl.1 rfl (Nat.le_of_ble_eq_true rfl) ⟨Nat.zero_le _, Nat.zero_le _⟩ dX8_goesOn_39 (fun H locs hP hD hS => ?_)
      have hP : va_P D vwCl [(aM, .inr (7, [.int mref, .ref aMtext, .int msize, .ref aMnow, .ref aMtrial, .ref aMdiary, .int macts, .ref aMkept, .ref aMisKept, .ref aMside, .ref aMwas, .int mspot, .int mout])), (aMnow, .inl (cI 0, 79, .inl mnow)), (aMtrial, .inl (cI 0, 79, .inl mtrial)), (aMside, .inl (cI 0, 10, .inl mside)), (aMwas, .inl (cI 0, 30, .inl mwas))] H := hP
      have hD : va_D A [(aM, .inr (7, [.int mref, .ref aMtext, .int msize, .ref aMnow, .ref aMtrial, .ref aMdiary, .int macts, .ref aMkept, .ref aMisKept, .ref aMside, .ref aMwas, .int mspot, .int mout])), (aMnow, .inl (cI 0, 79, .inl mnow)), (aMtrial, .inl (cI 0, 79, .inl mtrial)), (aMside, .inl (cI 0, 10, .inl mside)), (aMwas, .inl (cI 0, 30, .inl mwas))] := hD
      refine lv_if_ne (tgt := 60) hx hb dX8_goesOn_42 (by decide) (fun c9 => ?_) (fun c9 => ?_)
      · have hq := kite_f c9 hq
        refine lv_aload_n hx hb dX8_goesOn_60 rfl (lv_at hl 0 rfl) ?_
        refine va_get (D := D) (ci := 7) (v := .ref aMtrial) (C := RX8) (T := TX8) (N := 13) hx hb hts iw_X8_goesOn_X8 hown hK.1 hP 0 rfl rfl 4 (by decide) (hts (.fieldLink RX8 16 "PinDeckModel" "trial" "[I") (by decide +kernel)) (fun _ h9 => h9) rfl dX8_goesOn_61 ?_
        obtain ⟨o64, ho64, hq⟩ := kbind hq
        refine kc_Si (av := [.ref aMtrial]) (rest := []) hF hK hG hA (mk_X8_points l D cI aMtrial H.size mtrial o64 ho64) (va_cwS 1 hts gX8_goesOn_X8_points rfl rfl rfl (by decide +kernel) ⟨Nat.le_of_ble_eq_true rfl, Nat.le_of_ble_eq_true rfl⟩) hP hD hS [2] (by decide) rfl rfl rfl hl.1 rfl (Nat.le_of_ble_eq_true rfl) ⟨Nat.zero_le _, Nat.zero_le _⟩ dX8_goesOn_64 (fun H locs hP hD hS => ?_)
        have hP : va_P D vwCl [(aM, .inr (7, [.int mref, .ref aMtext, .int msize, .ref aMnow, .ref aMtrial, .ref aMdiary, .int macts, .ref aMkept, .ref aMisKept, .ref aMside, .ref aMwas, .int mspot, .int mout])), (aMnow, .inl (cI 0, 79, .inl mnow)), (aMtrial, .inl (cI 0, 79, .inl mtrial)), (aMside, .inl (cI 0, 10, .inl mside)), (aMwas, .inl (cI 0, 30, .inl mwas))] H := hP
        have hD : va_D A [(aM, .inr (7, [.int mref, .ref aMtext, .int msize, .ref aMnow, .ref aMtrial, .ref aMdiary, .int macts, .ref aMkept, .ref aMisKept, .ref aMside, .ref aMwas, .int mspot, .int mout])), (aMnow, .inl (cI 0, 79, .inl mnow)), (aMtrial, .inl (cI 0, 79, .inl mtrial)), (aMside, .inl (cI 0, 10, .inl mside)), (aMwas, .inl (cI 0, 30, .inl mwas))] := hD
        have ho := Option.some.inj hq
        subst ho
        exact hend _ _ _ _ hP hS dX8_goesOn_67
      · have hq := kite_t c9 hq
        refine lv_aload_n hx hb dX8_goesOn_45 rfl (lv_at hl 0 rfl) ?_
        refine lv_aload_n hx hb dX8_goesOn_46 rfl (lv_at hl 0 rfl) ?_
        refine va_get (D := D) (ci := 7) (v := .ref aMtrial) (C := RX8) (T := TX8) (N := 13) hx hb hts iw_X8_goesOn_X8 hown hK.1 hP 0 rfl rfl 4 (by decide) (hts (.fieldLink RX8 16 "PinDeckModel" "trial" "[I") (by decide +kernel)) (fun _ h9 => h9) rfl dX8_goesOn_47 ?_
        refine lv_iload_n hx hb dX8_goesOn_50 rfl (lv_at hl 1 rfl) ?_
        refine lv_iload_n hx hb dX8_goesOn_51 rfl (lv_at hl 2 rfl) ?_
        refine lv_iconst (v := 0) hx hb dX8_goesOn_52 (by decide) ?_
        obtain ⟨o53, ho53, hq⟩ := kbind hq
        refine kc_Vi (av := [.ref aMtrial, .int x1, .int x2, .int (0 : Int32)]) (rest := []) hF hK hG hA (mk_X8_rollOn l D cI aM aMtext aMnow aMtrial aMdiary aMkept aMisKept aMside aMwas aMtrial H.size mref msize macts mspot mout mside mwas mtrial x1 x2 (0 : Int32) o53 ho53) (cwV 4 hts gX8_goesOn_X8_rollOn rfl rfl rfl (by decide +kernel) ⟨Nat.le_of_ble_eq_true rfl, Nat.le_of_ble_eq_true rfl⟩) hP hD hS [0, 3, 4, 2] (by decide) rfl rfl 0 rfl rfl rfl hl.1 rfl (Nat.le_of_ble_eq_true rfl) ⟨Nat.zero_le _, Nat.zero_le _⟩ dX8_goesOn_53 (fun H locs hP hD hS => ?_)
        have hP : va_P D vwCl [(aM, .inr (7, [.int mref, .ref aMtext, .int msize, .ref aMnow, .ref aMtrial, .ref aMdiary, .int macts, .ref aMkept, .ref aMisKept, .ref aMside, .ref aMwas, .int mspot, .int mout])), (aMnow, .inl (cI 0, 79, .inl mnow)), (aMtrial, .inl (cI 0, 79, .inl o53.2.2.2)), (aMside, .inl (cI 0, 10, .inl o53.2.1)), (aMwas, .inl (cI 0, 30, .inl o53.2.2.1))] H := hP
        have hD : va_D A [(aM, .inr (7, [.int mref, .ref aMtext, .int msize, .ref aMnow, .ref aMtrial, .ref aMdiary, .int macts, .ref aMkept, .ref aMisKept, .ref aMside, .ref aMwas, .int mspot, .int mout])), (aMnow, .inl (cI 0, 79, .inl mnow)), (aMtrial, .inl (cI 0, 79, .inl o53.2.2.2)), (aMside, .inl (cI 0, 10, .inl o53.2.1)), (aMwas, .inl (cI 0, 30, .inl o53.2.2.1))] := hD
        refine lv_pop hx hb dX8_goesOn_56 rfl ?_
        refine lv_goto (tgt := 35) hx hb dX8_goesOn_57 (by decide) ?_
        exact ih _ _ _ mref o53.2.2.2 o53.2.1 o53.2.2.1 x1 x2 hq hP hD hS (lv_sub hl [0, 1, 2] rfl)
  have b_14 : ∀ (H : Heap) (locs : List Loc) (ls : Array Slot) (mref : Int32) (mtrial : kF) (mside : kF) (mwas : kF) (x1 : Int32) (x2 : Int32) (k1 : Int32), fn_X8_goesOn_14 mref mnow mtrial mside mwas x1 x2 k1 = some o → va_P D vwCl [(aM, .inr (7, [.int mref, .ref aMtext, .int msize, .ref aMnow, .ref aMtrial, .ref aMdiary, .int macts, .ref aMkept, .ref aMisKept, .ref aMside, .ref aMwas, .int mspot, .int mout])), (aMnow, .inl (cI 0, 79, .inl mnow)), (aMtrial, .inl (cI 0, 79, .inl mtrial)), (aMside, .inl (cI 0, 10, .inl mside)), (aMwas, .inl (cI 0, 30, .inl mwas))] H → va_D A [(aM, .inr (7, [.int mref, .ref aMtext, .int msize, .ref aMnow, .ref aMtrial, .ref aMdiary, .int macts, .ref aMkept, .ref aMisKept, .ref aMside, .ref aMwas, .int mspot, .int mout])), (aMnow, .inl (cI 0, 79, .inl mnow)), (aMtrial, .inl (cI 0, 79, .inl mtrial)), (aMside, .inl (cI 0, 10, .inl mside)), (aMwas, .inl (cI 0, 30, .inl mwas))] → va_S A s.heap H locs → lv_has ls 3 [(0, .ref aM), (1, .int x1), (2, .int x2)] → W p l e { frames := 5, cells := 0, slots := 0, locals := 121 } s m args below meth c H locs 0 0 Q (F0 m 14 ls [.int k1, .ref aM]) := by
    intro H locs ls mref mtrial mside mwas x1 x2 k1
    intro hq hP hD hS hl
    obtain ⟨o14, ho14, hq⟩ := kbind hq
    refine kc_Vi (av := [.int k1]) (rest := []) hF hK hG hA (mk_X8_refused l D cI aM aMtext aMnow aMtrial aMdiary aMkept aMisKept aMside aMwas H.size mref msize macts mspot mout k1 o14 ho14) (cwV 1 hts gX8_goesOn_X8_refused rfl rfl rfl (by decide +kernel) ⟨Nat.le_of_ble_eq_true rfl, Nat.le_of_ble_eq_true rfl⟩) hP hD hS [0] (by decide) rfl rfl 0 rfl rfl rfl hl.1 rfl (Nat.le_of_ble_eq_true rfl) ⟨Nat.zero_le _, Nat.zero_le _⟩ dX8_goesOn_14 (fun H locs hP hD hS => ?_)
    have hP : va_P D vwCl [(aM, .inr (7, [.int o14.2, .ref aMtext, .int msize, .ref aMnow, .ref aMtrial, .ref aMdiary, .int macts, .ref aMkept, .ref aMisKept, .ref aMside, .ref aMwas, .int mspot, .int mout])), (aMnow, .inl (cI 0, 79, .inl mnow)), (aMtrial, .inl (cI 0, 79, .inl mtrial)), (aMside, .inl (cI 0, 10, .inl mside)), (aMwas, .inl (cI 0, 30, .inl mwas))] H := hP
    have hD : va_D A [(aM, .inr (7, [.int o14.2, .ref aMtext, .int msize, .ref aMnow, .ref aMtrial, .ref aMdiary, .int macts, .ref aMkept, .ref aMisKept, .ref aMside, .ref aMwas, .int mspot, .int mout])), (aMnow, .inl (cI 0, 79, .inl mnow)), (aMtrial, .inl (cI 0, 79, .inl mtrial)), (aMside, .inl (cI 0, 10, .inl mside)), (aMwas, .inl (cI 0, 30, .inl mwas))] := hD
    refine lv_if_eq (tgt := 22) hx hb dX8_goesOn_17 (by decide) (fun c9 => ?_) (fun c9 => ?_)
    · have hq := kite_t c9 hq
      refine lv_aload_n hx hb dX8_goesOn_22 rfl (lv_at hl 0 rfl) ?_
      refine va_get (D := D) (ci := 7) (v := .ref aMnow) (C := RX8) (T := TX8) (N := 13) hx hb hts iw_X8_goesOn_X8 hown hK.1 hP 0 rfl rfl 3 (by decide) (hts (.fieldLink RX8 13 "PinDeckModel" "now" "[I") (by decide +kernel)) (fun _ h9 => h9) rfl dX8_goesOn_23 ?_
      refine lv_iconst (v := 0) hx hb dX8_goesOn_26 (by decide) ?_
      refine lv_aload_n hx hb dX8_goesOn_27 rfl (lv_at hl 0 rfl) ?_
      refine va_get (D := D) (ci := 7) (v := .ref aMtrial) (C := RX8) (T := TX8) (N := 13) hx hb hts iw_X8_goesOn_X8 hown hK.1 hP 0 rfl rfl 4 (by decide) (hts (.fieldLink RX8 16 "PinDeckModel" "trial" "[I") (by decide +kernel)) (fun _ h9 => h9) rfl dX8_goesOn_28 ?_
      refine lv_iconst (v := 0) hx hb dX8_goesOn_31 (by decide) ?_
      obtain ⟨o32, ho32, hq⟩ := kbind hq
      refine kc_Sv (av := [.ref aMnow, .int (0 : Int32), .ref aMtrial, .int (0 : Int32)]) (rest := []) hF hK hG hA (mk_X8_copyState l D cI 79 79 aMnow aMtrial H.size mnow mtrial (0 : Int32) (0 : Int32) o32 ho32) (va_cwS 4 hts gX8_goesOn_X8_copyState rfl rfl rfl (by decide +kernel) ⟨Nat.le_of_ble_eq_true rfl, Nat.le_of_ble_eq_true rfl⟩) hP hD hS [1, 2] (by decide) rfl rfl rfl hl.1 rfl (Nat.le_of_ble_eq_true rfl) ⟨Nat.zero_le _, Nat.zero_le _⟩ dX8_goesOn_32 (fun H locs hP hD hS => ?_)
      have hP : va_P D vwCl [(aM, .inr (7, [.int o14.2, .ref aMtext, .int msize, .ref aMnow, .ref aMtrial, .ref aMdiary, .int macts, .ref aMkept, .ref aMisKept, .ref aMside, .ref aMwas, .int mspot, .int mout])), (aMnow, .inl (cI 0, 79, .inl mnow)), (aMtrial, .inl (cI 0, 79, .inl o32)), (aMside, .inl (cI 0, 10, .inl mside)), (aMwas, .inl (cI 0, 30, .inl mwas))] H := hP
      have hD : va_D A [(aM, .inr (7, [.int o14.2, .ref aMtext, .int msize, .ref aMnow, .ref aMtrial, .ref aMdiary, .int macts, .ref aMkept, .ref aMisKept, .ref aMside, .ref aMwas, .int mspot, .int mout])), (aMnow, .inl (cI 0, 79, .inl mnow)), (aMtrial, .inl (cI 0, 79, .inl o32)), (aMside, .inl (cI 0, 10, .inl mside)), (aMwas, .inl (cI 0, 30, .inl mwas))] := hD
      exact b_35 4096 _ _ _ o14.2 o32 mside mwas x1 x2 hq hP hD hS (lv_sub hl [0, 1, 2] rfl)
    · have hq := kite_f c9 hq
      refine lv_iconst (v := 0) hx hb dX8_goesOn_20 (by decide) ?_
      have ho := Option.some.inj hq
      subst ho
      exact hend _ _ _ _ hP hS dX8_goesOn_21
  refine lv_aload_n hx hb dX8_goesOn_0 rfl (lv_at hl 0 rfl) ?_
  refine lv_iload_n hx hb dX8_goesOn_1 rfl (lv_at hl 1 rfl) ?_
  refine lv_iload_n hx hb dX8_goesOn_2 rfl (lv_at hl 2 rfl) ?_
  obtain ⟨o3, ho3, hq⟩ := kbind hq
  refine kc_Si (av := [.int x1, .int x2]) (rest := [.ref aM]) hF hK hG hA (mk_X8_isBall l D cI s.heap.size x1 x2 o3 ho3) (va_cwS 2 hts gX8_goesOn_X8_isBall rfl rfl rfl (by decide +kernel) ⟨Nat.le_of_ble_eq_true rfl, Nat.le_of_ble_eq_true rfl⟩) hP hD hS [] (by decide) rfl rfl rfl hl.1 rfl (Nat.le_of_ble_eq_true rfl) ⟨Nat.zero_le _, Nat.zero_le _⟩ dX8_goesOn_3 (fun H locs hP hD hS => ?_)
  have hP : va_P D vwCl [(aM, .inr (7, [.int mref, .ref aMtext, .int msize, .ref aMnow, .ref aMtrial, .ref aMdiary, .int macts, .ref aMkept, .ref aMisKept, .ref aMside, .ref aMwas, .int mspot, .int mout])), (aMnow, .inl (cI 0, 79, .inl mnow)), (aMtrial, .inl (cI 0, 79, .inl mtrial)), (aMside, .inl (cI 0, 10, .inl mside)), (aMwas, .inl (cI 0, 30, .inl mwas))] H := hP
  have hD : va_D A [(aM, .inr (7, [.int mref, .ref aMtext, .int msize, .ref aMnow, .ref aMtrial, .ref aMdiary, .int macts, .ref aMkept, .ref aMisKept, .ref aMside, .ref aMwas, .int mspot, .int mout])), (aMnow, .inl (cI 0, 79, .inl mnow)), (aMtrial, .inl (cI 0, 79, .inl mtrial)), (aMside, .inl (cI 0, 10, .inl mside)), (aMwas, .inl (cI 0, 30, .inl mwas))] := hD
  refine lv_if_eq (tgt := 13) hx hb dX8_goesOn_6 (by decide) (fun c9 => ?_) (fun c9 => ?_)
  · have hq := kite_t c9 hq
    refine lv_iconst (v := 1) hx hb dX8_goesOn_13 (by decide) ?_
    exact b_14  _ _ _ mref mtrial mside mwas x1 x2 (1 : Int32) hq hP hD hS (lv_sub hl [0, 1, 2] rfl)
  · have hq := kite_f c9 hq
    refine lv_iconst (v := 0) hx hb dX8_goesOn_9 (by decide) ?_
    refine lv_goto (tgt := 14) hx hb dX8_goesOn_10 (by decide) ?_
    exact b_14  _ _ _ mref mtrial mside mwas x1 x2 (0 : Int32) hq hP hD hS (lv_sub hl [0, 1, 2] rfl)

theorem iw_X8_drops_X8 : ∀ w ∈ wsX80, w ∈ wsX8_drops := by decide +kernel
set_option maxHeartbeats 4000000 in
set_option maxRecDepth 100000 in
theorem mk_X8_drops (l : Launch) (D : va_G) (cI : Nat → ClassId) (aM aMtext aMnow aMtrial aMdiary aMkept aMisKept aMside aMwas : Nat) (sz : Nat) (mref : Int32) (msize : Int32) (macts : Int32) (mspot : Int32) (mout : Int32) (mnow : kF) (o : Int32 × Int32) (hq : fn_X8_drops mref mnow = some o) : Met l yX8_drops wsX8_drops ({ frames := 1, cells := 0, slots := 0, locals := 21 }) (kPc D cI [(aM, .inr (7, [.int mref, .ref aMtext, .int msize, .ref aMnow, .ref aMtrial, .ref aMdiary, .int macts, .ref aMkept, .ref aMisKept, .ref aMside, .ref aMwas, .int mspot, .int mout])), (aMnow, .inl (cI 0, 79, .inl mnow))] sz [.ref aM]) (kQi D [(aM, .inr (7, [.int mref, .ref aMtext, .int msize, .ref aMnow, .ref aMtrial, .ref aMdiary, .int macts, .ref aMkept, .ref aMisKept, .ref aMside, .ref aMwas, .int mspot, .int mout])), (aMnow, .inl (cI 0, 79, .inl mnow))] [(aM, .inr (7, [.int o.2, .ref aMtext, .int msize, .ref aMnow, .ref aMtrial, .ref aMdiary, .int macts, .ref aMkept, .ref aMisKept, .ref aMside, .ref aMwas, .int mspot, .int mout])), (aMnow, .inl (cI 0, 79, .inl mnow))] sz o.1) 0 0 (va_A [(aM, .inr (7, [.int mref, .ref aMtext, .int msize, .ref aMnow, .ref aMtrial, .ref aMdiary, .int macts, .ref aMkept, .ref aMisKept, .ref aMside, .ref aMwas, .int mspot, .int mout])), (aMnow, .inl (cI 0, 79, .inl mnow))] sz) := by
  refine kM_i (cc := cX8_drops) (maxL := 3) (by decide +kernel) rfl (Nat.le_of_ble_eq_true rfl) ?_
  intro p e s m args below meth c A Q hF hK hG hD hA hend ls hP hS hl
  obtain ⟨hx, hb, hml, hown, hts⟩ := id hF
  have hl : lv_has ls 3 [(0, .ref aM)] := hl
  have b_34 : ∀ (q9 : Int32 → kF → Int32 → Int32 → Option (Int32 × Int32)), (∀ (H : Heap) (locs : List Loc) (ls : Array Slot) (mref : Int32) (x1 : Int32) (x2 : Int32), q9 mref mnow x1 x2 = some o → va_P D vwCl [(aM, .inr (7, [.int mref, .ref aMtext, .int msize, .ref aMnow, .ref aMtrial, .ref aMdiary, .int macts, .ref aMkept, .ref aMisKept, .ref aMside, .ref aMwas, .int mspot, .int mout])), (aMnow, .inl (cI 0, 79, .inl mnow))] H → va_D A [(aM, .inr (7, [.int mref, .ref aMtext, .int msize, .ref aMnow, .ref aMtrial, .ref aMdiary, .int macts, .ref aMkept, .ref aMisKept, .ref aMside, .ref aMwas, .int mspot, .int mout])), (aMnow, .inl (cI 0, 79, .inl mnow))] → va_S A s.heap H locs → lv_has ls 3 [(0, .ref aM), (1, .int x1), (2, .int x2)] → W p l e { frames := 1, cells := 0, slots := 0, locals := 21 } s m args below meth c H locs 0 0 Q (F0 m 9 ls [])) → ∀ (H : Heap) (locs : List Loc) (ls : Array Slot) (mref : Int32) (x2 : Int32) (k0 : Int32) (k1 : Int32), fn_X8_drops_34 q9 mref mnow x2 k0 k1 = some o → va_P D vwCl [(aM, .inr (7, [.int mref, .ref aMtext, .int msize, .ref aMnow, .ref aMtrial, .ref aMdiary, .int macts, .ref aMkept, .ref aMisKept, .ref aMside, .ref aMwas, .int mspot, .int mout])), (aMnow, .inl (cI 0, 79, .inl mnow))] H → va_D A [(aM, .inr (7, [.int mref, .ref aMtext, .int msize, .ref aMnow, .ref aMtrial, .ref aMdiary, .int macts, .ref aMkept, .ref aMisKept, .ref aMside, .ref aMwas, .int mspot, .int mout])), (aMnow, .inl (cI 0, 79, .inl mnow))] → va_S A s.heap H locs → lv_has ls 3 [(0, .ref aM), (2, .int x2)] → W p l e { frames := 1, cells := 0, slots := 0, locals := 21 } s m args below meth c H locs 0 0 Q (F0 m 34 ls [.int k1, .int k0]) := by
    intro q9 i9
    intro H locs ls mref x2 k0 k1
    intro hq hP hD hS hl
    refine lv_ior hx hb dX8_drops_34 ?_
    refine lv_istore_n (lv' := [(1, .int (k0 ||| k1)), (0, .ref aM), (2, .int x2)]) hx hb dX8_drops_35 rfl hl (by decide) rfl (fun ls hl => ?_)
    refine lv_iinc (v := (x2 + 1)) (lv' := [(2, .int (x2 + 1)), (1, .int (k0 ||| k1)), (0, .ref aM)]) hx hb dX8_drops_36 hl (k := 2) rfl rfl (by decide) rfl (fun ls hl => ?_)
    refine lv_goto (tgt := 9) hx hb dX8_drops_39 (by decide) ?_
    exact i9 _ _ _ mref (k0 ||| k1) (x2 + 1) hq hP hD hS (lv_sub hl [2, 1, 0] rfl)
  have b_9 : ∀ (q : Nat), ∀ (H : Heap) (locs : List Loc) (ls : Array Slot) (mref : Int32) (x1 : Int32) (x2 : Int32), fn_X8_drops_9 q mref mnow x1 x2 = some o → va_P D vwCl [(aM, .inr (7, [.int mref, .ref aMtext, .int msize, .ref aMnow, .ref aMtrial, .ref aMdiary, .int macts, .ref aMkept, .ref aMisKept, .ref aMside, .ref aMwas, .int mspot, .int mout])), (aMnow, .inl (cI 0, 79, .inl mnow))] H → va_D A [(aM, .inr (7, [.int mref, .ref aMtext, .int msize, .ref aMnow, .ref aMtrial, .ref aMdiary, .int macts, .ref aMkept, .ref aMisKept, .ref aMside, .ref aMwas, .int mspot, .int mout])), (aMnow, .inl (cI 0, 79, .inl mnow))] → va_S A s.heap H locs → lv_has ls 3 [(0, .ref aM), (1, .int x1), (2, .int x2)] → W p l e { frames := 1, cells := 0, slots := 0, locals := 21 } s m args below meth c H locs 0 0 Q (F0 m 9 ls []) := by
    intro q
    induction q with
    | zero =>
      intro H locs ls mref x1 x2
      intro hq
      cases hq
    | succ q ih =>
      intro H locs ls mref x1 x2
      intro hq hP hD hS hl
      refine lv_iload_n hx hb dX8_drops_9 rfl (lv_at hl 2 rfl) ?_
      refine lv_bipush (v := 10) hx hb dX8_drops_10 (by decide) ?_
      refine lv_icmp_ge (tgt := 42) hx hb dX8_drops_12 (by decide) (fun c9 => ?_) (fun c9 => ?_)
      · have hq := kite_t c9 hq
        refine lv_iload_n hx hb dX8_drops_42 rfl (lv_at hl 1 rfl) ?_
        have ho := Option.some.inj hq
        subst ho
        exact hend _ _ _ _ hP hS dX8_drops_43
      · have hq := kite_f c9 hq
        refine lv_iload_n hx hb dX8_drops_15 rfl (lv_at hl 1 rfl) ?_
        refine lv_aload_n hx hb dX8_drops_16 rfl (lv_at hl 0 rfl) ?_
        refine va_get (D := D) (ci := 7) (v := .ref aMnow) (C := RX8) (T := TX8) (N := 13) hx hb hts iw_X8_drops_X8 hown hK.1 hP 0 rfl rfl 3 (by decide) (hts (.fieldLink RX8 13 "PinDeckModel" "now" "[I") (by decide +kernel)) (fun _ h9 => h9) rfl dX8_drops_17 ?_
        refine lv_iload_n hx hb dX8_drops_20 rfl (lv_at hl 2 rfl) ?_
        obtain ⟨o21, ho21, hq⟩ := kbind hq
        refine kc_Si (av := [.ref aMnow, .int x2]) (rest := [.int x1]) hF hK hG hA (mk_X8_slips l D cI aMnow H.size mnow x2 o21 ho21) (va_cwS 2 hts gX8_drops_X8_slips rfl rfl rfl (by decide +kernel) ⟨Nat.le_of_ble_eq_true rfl, Nat.le_of_ble_eq_true rfl⟩) hP hD hS [1] (by decide) rfl rfl rfl hl.1 rfl (Nat.le_of_ble_eq_true rfl) ⟨Nat.zero_le _, Nat.zero_le _⟩ dX8_drops_21 (fun H locs hP hD hS => ?_)
        have hP : va_P D vwCl [(aM, .inr (7, [.int mref, .ref aMtext, .int msize, .ref aMnow, .ref aMtrial, .ref aMdiary, .int macts, .ref aMkept, .ref aMisKept, .ref aMside, .ref aMwas, .int mspot, .int mout])), (aMnow, .inl (cI 0, 79, .inl mnow))] H := hP
        have hD : va_D A [(aM, .inr (7, [.int mref, .ref aMtext, .int msize, .ref aMnow, .ref aMtrial, .ref aMdiary, .int macts, .ref aMkept, .ref aMisKept, .ref aMside, .ref aMwas, .int mspot, .int mout])), (aMnow, .inl (cI 0, 79, .inl mnow))] := hD
        refine lv_if_eq (tgt := 33) hx hb dX8_drops_24 (by decide) (fun c9 => ?_) (fun c9 => ?_)
        · have hq := kite_t c9 hq
          refine lv_iconst (v := 0) hx hb dX8_drops_33 (by decide) ?_
          exact b_34 (fn_X8_drops_9 q) ih _ _ _ mref x2 x1 (0 : Int32) hq hP hD hS (lv_sub hl [0, 2] rfl)
        · have hq := kite_f c9 hq
          refine lv_iconst (v := 1) hx hb dX8_drops_27 (by decide) ?_
          refine lv_iload_n hx hb dX8_drops_28 rfl (lv_at hl 2 rfl) ?_
          refine lv_ishl hx hb dX8_drops_29 ?_
          refine lv_goto (tgt := 34) hx hb dX8_drops_30 (by decide) ?_
          exact b_34 (fn_X8_drops_9 q) ih _ _ _ mref x2 x1 ((1 : Int32) <<< (x2 &&& 31)) hq hP hD hS (lv_sub hl [0, 2] rfl)
  refine lv_aload_n hx hb dX8_drops_0 rfl (lv_at hl 0 rfl) ?_
  refine lv_iconst (v := 0) hx hb dX8_drops_1 (by decide) ?_
  refine va_put (D := D) (ci := 7) (v := .int (0 : Int32)) (ty := .int) (C := RX8) (T := TX8) (N := 13) hx hb hts iw_X8_drops_X8 tyX8 tyX8_ok nmX8 hown hK.1 hP hD hS 0 rfl rfl 0 (by decide) (hts (.fieldLink RX8 39 "PinDeckModel" "refusal" "I") (by decide +kernel)) (fun _ h9 => h9) rfl (by decide +kernel) rfl rfl (Nat.le_of_ble_eq_true rfl) dX8_drops_2 (fun H locs hP hD hS => ?_)
  have hP : va_P D vwCl [(aM, .inr (7, [.int (0 : Int32), .ref aMtext, .int msize, .ref aMnow, .ref aMtrial, .ref aMdiary, .int macts, .ref aMkept, .ref aMisKept, .ref aMside, .ref aMwas, .int mspot, .int mout])), (aMnow, .inl (cI 0, 79, .inl mnow))] H := hP
  have hD : va_D A [(aM, .inr (7, [.int (0 : Int32), .ref aMtext, .int msize, .ref aMnow, .ref aMtrial, .ref aMdiary, .int macts, .ref aMkept, .ref aMisKept, .ref aMside, .ref aMwas, .int mspot, .int mout])), (aMnow, .inl (cI 0, 79, .inl mnow))] := hD
  refine lv_iconst (v := 0) hx hb dX8_drops_5 (by decide) ?_
  refine lv_istore_n (lv' := [(1, .int (0 : Int32)), (0, .ref aM)]) hx hb dX8_drops_6 rfl hl (by decide) rfl (fun ls hl => ?_)
  refine lv_iconst (v := 0) hx hb dX8_drops_7 (by decide) ?_
  refine lv_istore_n (lv' := [(2, .int (0 : Int32)), (1, .int (0 : Int32)), (0, .ref aM)]) hx hb dX8_drops_8 rfl hl (by decide) rfl (fun ls hl => ?_)
  exact b_9 4096 _ _ _ (0 : Int32) (0 : Int32) (0 : Int32) hq hP hD hS (lv_sub hl [2, 1, 0] rfl)

theorem iw_X8_command_X8 : ∀ w ∈ wsX80, w ∈ wsX8_command := by decide +kernel
set_option maxHeartbeats 4000000 in
set_option maxRecDepth 100000 in
theorem mk_X8_command (l : Launch) (D : va_G) (cI : Nat → ClassId) (aM aMtext aMnow aMtrial aMdiary aMkept aMisKept aMside aMwas : Nat) (sz : Nat) (mref : Int32) (msize : Int32) (macts : Int32) (mspot : Int32) (mout : Int32) (mtrial : kF) (mside : kF) (mwas : kF) (x1 : Int32) (x2 : Int32) (o : Int32 × kF × kF × kF) (hq : fn_X8_command mtrial mside mwas x1 x2 = some o) : Met l yX8_command wsX8_command ({ frames := 5, cells := 0, slots := 0, locals := 121 }) (kPc D cI [(aM, .inr (7, [.int mref, .ref aMtext, .int msize, .ref aMnow, .ref aMtrial, .ref aMdiary, .int macts, .ref aMkept, .ref aMisKept, .ref aMside, .ref aMwas, .int mspot, .int mout])), (aMtrial, .inl (cI 0, 79, .inl mtrial)), (aMside, .inl (cI 0, 10, .inl mside)), (aMwas, .inl (cI 0, 30, .inl mwas))] sz [.ref aM, .int x1, .int x2]) (kQi D [(aM, .inr (7, [.int mref, .ref aMtext, .int msize, .ref aMnow, .ref aMtrial, .ref aMdiary, .int macts, .ref aMkept, .ref aMisKept, .ref aMside, .ref aMwas, .int mspot, .int mout])), (aMtrial, .inl (cI 0, 79, .inl mtrial)), (aMside, .inl (cI 0, 10, .inl mside)), (aMwas, .inl (cI 0, 30, .inl mwas))] [(aM, .inr (7, [.int mref, .ref aMtext, .int msize, .ref aMnow, .ref aMtrial, .ref aMdiary, .int macts, .ref aMkept, .ref aMisKept, .ref aMside, .ref aMwas, .int mspot, .int mout])), (aMtrial, .inl (cI 0, 79, .inl o.2.1)), (aMside, .inl (cI 0, 10, .inl o.2.2.1)), (aMwas, .inl (cI 0, 30, .inl o.2.2.2))] sz o.1) 0 0 (va_A [(aM, .inr (7, [.int mref, .ref aMtext, .int msize, .ref aMnow, .ref aMtrial, .ref aMdiary, .int macts, .ref aMkept, .ref aMisKept, .ref aMside, .ref aMwas, .int mspot, .int mout])), (aMtrial, .inl (cI 0, 79, .inl mtrial)), (aMside, .inl (cI 0, 10, .inl mside)), (aMwas, .inl (cI 0, 30, .inl mwas))] sz) := by
  refine kM_z (cc := cX8_command) (maxL := 8) (by decide +kernel) rfl (Nat.le_of_ble_eq_true rfl) ?_
  intro p e s m args below meth c A Q hF hK hG hD hA hend ls hP hS hl
  obtain ⟨hx, hb, hml, hown, hts⟩ := id hF
  have hl : lv_has ls 8 [(0, .ref aM), (1, .int x1), (2, .int x2)] := hl
  have b_145 : ∀ (H : Heap) (locs : List Loc) (ls : Array Slot) (mtrial : kF) (mside : kF) (mwas : kF) (k0 : Int32), fn_X8_command_145 mtrial mside mwas k0 = some o → va_P D vwCl [(aM, .inr (7, [.int mref, .ref aMtext, .int msize, .ref aMnow, .ref aMtrial, .ref aMdiary, .int macts, .ref aMkept, .ref aMisKept, .ref aMside, .ref aMwas, .int mspot, .int mout])), (aMtrial, .inl (cI 0, 79, .inl mtrial)), (aMside, .inl (cI 0, 10, .inl mside)), (aMwas, .inl (cI 0, 30, .inl mwas))] H → va_D A [(aM, .inr (7, [.int mref, .ref aMtext, .int msize, .ref aMnow, .ref aMtrial, .ref aMdiary, .int macts, .ref aMkept, .ref aMisKept, .ref aMside, .ref aMwas, .int mspot, .int mout])), (aMtrial, .inl (cI 0, 79, .inl mtrial)), (aMside, .inl (cI 0, 10, .inl mside)), (aMwas, .inl (cI 0, 30, .inl mwas))] → va_S A s.heap H locs → lv_has ls 8 [] → W p l e { frames := 5, cells := 0, slots := 0, locals := 121 } s m args below meth c H locs 0 0 Q (F0 m 145 ls [.int k0]) := by
    intro H locs ls mtrial mside mwas k0
    intro hq hP hD hS hl
    obtain ⟨hz, hq⟩ := kite_b hq
    have ho := Option.some.inj hq
    subst ho
    exact hend _ _ _ _ hz hP hS dX8_command_145
  have b_144 : ∀ (H : Heap) (locs : List Loc) (ls : Array Slot) (mtrial : kF) (mside : kF) (mwas : kF), fn_X8_command_144 mtrial mside mwas = some o → va_P D vwCl [(aM, .inr (7, [.int mref, .ref aMtext, .int msize, .ref aMnow, .ref aMtrial, .ref aMdiary, .int macts, .ref aMkept, .ref aMisKept, .ref aMside, .ref aMwas, .int mspot, .int mout])), (aMtrial, .inl (cI 0, 79, .inl mtrial)), (aMside, .inl (cI 0, 10, .inl mside)), (aMwas, .inl (cI 0, 30, .inl mwas))] H → va_D A [(aM, .inr (7, [.int mref, .ref aMtext, .int msize, .ref aMnow, .ref aMtrial, .ref aMdiary, .int macts, .ref aMkept, .ref aMisKept, .ref aMside, .ref aMwas, .int mspot, .int mout])), (aMtrial, .inl (cI 0, 79, .inl mtrial)), (aMside, .inl (cI 0, 10, .inl mside)), (aMwas, .inl (cI 0, 30, .inl mwas))] → va_S A s.heap H locs → lv_has ls 8 [] → W p l e { frames := 5, cells := 0, slots := 0, locals := 121 } s m args below meth c H locs 0 0 Q (F0 m 144 ls []) := by
    intro H locs ls mtrial mside mwas
    intro hq hP hD hS hl
    refine lv_iconst (v := 0) hx hb dX8_command_144 (by decide) ?_
    exact b_145  _ _ _ mtrial mside mwas (0 : Int32) hq hP hD hS (lv_sub hl [] rfl)
  have b_134 : ∀ (H : Heap) (locs : List Loc) (ls : Array Slot) (mtrial : kF) (mside : kF) (mwas : kF) (k2 : Int32) (k3 : Int32) (k4 : Int32), fn_X8_command_134 mtrial mside mwas k2 k3 k4 = some o → va_P D vwCl [(aM, .inr (7, [.int mref, .ref aMtext, .int msize, .ref aMnow, .ref aMtrial, .ref aMdiary, .int macts, .ref aMkept, .ref aMisKept, .ref aMside, .ref aMwas, .int mspot, .int mout])), (aMtrial, .inl (cI 0, 79, .inl mtrial)), (aMside, .inl (cI 0, 10, .inl mside)), (aMwas, .inl (cI 0, 30, .inl mwas))] H → va_D A [(aM, .inr (7, [.int mref, .ref aMtext, .int msize, .ref aMnow, .ref aMtrial, .ref aMdiary, .int macts, .ref aMkept, .ref aMisKept, .ref aMside, .ref aMwas, .int mspot, .int mout])), (aMtrial, .inl (cI 0, 79, .inl mtrial)), (aMside, .inl (cI 0, 10, .inl mside)), (aMwas, .inl (cI 0, 30, .inl mwas))] → va_S A s.heap H locs → lv_has ls 8 [] → W p l e { frames := 5, cells := 0, slots := 0, locals := 121 } s m args below meth c H locs 0 0 Q (F0 m 134 ls [.int k4, .int k3, .int k2, .ref aMtrial, .ref aM]) := by
    intro H locs ls mtrial mside mwas k2 k3 k4
    intro hq hP hD hS hl
    obtain ⟨o134, ho134, hq⟩ := kbind hq
    refine kc_Vi (av := [.ref aMtrial, .int k2, .int k3, .int k4]) (rest := []) hF hK hG hA (mk_X8_rollOn l D cI aM aMtext aMnow aMtrial aMdiary aMkept aMisKept aMside aMwas aMtrial H.size mref msize macts mspot mout mside mwas mtrial k2 k3 k4 o134 ho134) (cwV 4 hts gX8_command_X8_rollOn rfl rfl rfl (by decide +kernel) ⟨Nat.le_of_ble_eq_true rfl, Nat.le_of_ble_eq_true rfl⟩) hP hD hS [0, 2, 3, 1] (by decide) rfl rfl 0 rfl rfl rfl hl.1 rfl (Nat.le_of_ble_eq_true rfl) ⟨Nat.zero_le _, Nat.zero_le _⟩ dX8_command_134 (fun H locs hP hD hS => ?_)
    have hP : va_P D vwCl [(aM, .inr (7, [.int mref, .ref aMtext, .int msize, .ref aMnow, .ref aMtrial, .ref aMdiary, .int macts, .ref aMkept, .ref aMisKept, .ref aMside, .ref aMwas, .int mspot, .int mout])), (aMtrial, .inl (cI 0, 79, .inl o134.2.2.2)), (aMside, .inl (cI 0, 10, .inl o134.2.1)), (aMwas, .inl (cI 0, 30, .inl o134.2.2.1))] H := hP
    have hD : va_D A [(aM, .inr (7, [.int mref, .ref aMtext, .int msize, .ref aMnow, .ref aMtrial, .ref aMdiary, .int macts, .ref aMkept, .ref aMisKept, .ref aMside, .ref aMwas, .int mspot, .int mout])), (aMtrial, .inl (cI 0, 79, .inl o134.2.2.2)), (aMside, .inl (cI 0, 10, .inl o134.2.1)), (aMwas, .inl (cI 0, 30, .inl o134.2.2.1))] := hD
    refine lv_if_lt (tgt := 144) hx hb dX8_command_137 (by decide) (fun c9 => ?_) (fun c9 => ?_)
    · have hq := kite_t c9 hq
      exact b_144  _ _ _ o134.2.2.2 o134.2.1 o134.2.2.1 hq hP hD hS (lv_sub hl [] rfl)
    · have hq := kite_f c9 hq
      refine lv_iconst (v := 1) hx hb dX8_command_140 (by decide) ?_
      refine lv_goto (tgt := 145) hx hb dX8_command_141 (by decide) ?_
      exact b_145  _ _ _ o134.2.2.2 o134.2.1 o134.2.2.1 (1 : Int32) hq hP hD hS (lv_sub hl [] rfl)
  have b_194 : ∀ (H : Heap) (locs : List Loc) (ls : Array Slot) (mtrial : kF) (mside : kF) (mwas : kF) (k0 : Int32), fn_X8_command_194 mtrial mside mwas k0 = some o → va_P D vwCl [(aM, .inr (7, [.int mref, .ref aMtext, .int msize, .ref aMnow, .ref aMtrial, .ref aMdiary, .int macts, .ref aMkept, .ref aMisKept, .ref aMside, .ref aMwas, .int mspot, .int mout])), (aMtrial, .inl (cI 0, 79, .inl mtrial)), (aMside, .inl (cI 0, 10, .inl mside)), (aMwas, .inl (cI 0, 30, .inl mwas))] H → va_D A [(aM, .inr (7, [.int mref, .ref aMtext, .int msize, .ref aMnow, .ref aMtrial, .ref aMdiary, .int macts, .ref aMkept, .ref aMisKept, .ref aMside, .ref aMwas, .int mspot, .int mout])), (aMtrial, .inl (cI 0, 79, .inl mtrial)), (aMside, .inl (cI 0, 10, .inl mside)), (aMwas, .inl (cI 0, 30, .inl mwas))] → va_S A s.heap H locs → lv_has ls 8 [] → W p l e { frames := 5, cells := 0, slots := 0, locals := 121 } s m args below meth c H locs 0 0 Q (F0 m 194 ls [.int k0]) := by
    intro H locs ls mtrial mside mwas k0
    intro hq hP hD hS hl
    obtain ⟨hz, hq⟩ := kite_b hq
    have ho := Option.some.inj hq
    subst ho
    exact hend _ _ _ _ hz hP hS dX8_command_194
  have b_193 : ∀ (H : Heap) (locs : List Loc) (ls : Array Slot) (mtrial : kF) (mside : kF) (mwas : kF), fn_X8_command_193 mtrial mside mwas = some o → va_P D vwCl [(aM, .inr (7, [.int mref, .ref aMtext, .int msize, .ref aMnow, .ref aMtrial, .ref aMdiary, .int macts, .ref aMkept, .ref aMisKept, .ref aMside, .ref aMwas, .int mspot, .int mout])), (aMtrial, .inl (cI 0, 79, .inl mtrial)), (aMside, .inl (cI 0, 10, .inl mside)), (aMwas, .inl (cI 0, 30, .inl mwas))] H → va_D A [(aM, .inr (7, [.int mref, .ref aMtext, .int msize, .ref aMnow, .ref aMtrial, .ref aMdiary, .int macts, .ref aMkept, .ref aMisKept, .ref aMside, .ref aMwas, .int mspot, .int mout])), (aMtrial, .inl (cI 0, 79, .inl mtrial)), (aMside, .inl (cI 0, 10, .inl mside)), (aMwas, .inl (cI 0, 30, .inl mwas))] → va_S A s.heap H locs → lv_has ls 8 [] → W p l e { frames := 5, cells := 0, slots := 0, locals := 121 } s m args below meth c H locs 0 0 Q (F0 m 193 ls []) := by
    intro H locs ls mtrial mside mwas
    intro hq hP hD hS hl
    refine lv_iconst (v := 0) hx hb dX8_command_193 (by decide) ?_
    exact b_194  _ _ _ mtrial mside mwas (0 : Int32) hq hP hD hS (lv_sub hl [] rfl)
  have b_216 : ∀ (H : Heap) (locs : List Loc) (ls : Array Slot) (mtrial : kF) (mside : kF) (mwas : kF), fn_X8_command_216 mtrial mside mwas = some o → va_P D vwCl [(aM, .inr (7, [.int mref, .ref aMtext, .int msize, .ref aMnow, .ref aMtrial, .ref aMdiary, .int macts, .ref aMkept, .ref aMisKept, .ref aMside, .ref aMwas, .int mspot, .int mout])), (aMtrial, .inl (cI 0, 79, .inl mtrial)), (aMside, .inl (cI 0, 10, .inl mside)), (aMwas, .inl (cI 0, 30, .inl mwas))] H → va_D A [(aM, .inr (7, [.int mref, .ref aMtext, .int msize, .ref aMnow, .ref aMtrial, .ref aMdiary, .int macts, .ref aMkept, .ref aMisKept, .ref aMside, .ref aMwas, .int mspot, .int mout])), (aMtrial, .inl (cI 0, 79, .inl mtrial)), (aMside, .inl (cI 0, 10, .inl mside)), (aMwas, .inl (cI 0, 30, .inl mwas))] → va_S A s.heap H locs → lv_has ls 8 [] → W p l e { frames := 5, cells := 0, slots := 0, locals := 121 } s m args below meth c H locs 0 0 Q (F0 m 216 ls []) := by
    intro H locs ls mtrial mside mwas
    intro hq hP hD hS hl
    refine lv_iconst (v := 0) hx hb dX8_command_216 (by decide) ?_
    have ho := Option.some.inj hq
    subst ho
    exact hend _ _ _ _ (Or.inl rfl) hP hS dX8_command_217
  have b_255 : ∀ (H : Heap) (locs : List Loc) (ls : Array Slot) (mtrial : kF) (mside : kF) (mwas : kF) (k0 : Int32), fn_X8_command_255 mtrial mside mwas k0 = some o → va_P D vwCl [(aM, .inr (7, [.int mref, .ref aMtext, .int msize, .ref aMnow, .ref aMtrial, .ref aMdiary, .int macts, .ref aMkept, .ref aMisKept, .ref aMside, .ref aMwas, .int mspot, .int mout])), (aMtrial, .inl (cI 0, 79, .inl mtrial)), (aMside, .inl (cI 0, 10, .inl mside)), (aMwas, .inl (cI 0, 30, .inl mwas))] H → va_D A [(aM, .inr (7, [.int mref, .ref aMtext, .int msize, .ref aMnow, .ref aMtrial, .ref aMdiary, .int macts, .ref aMkept, .ref aMisKept, .ref aMside, .ref aMwas, .int mspot, .int mout])), (aMtrial, .inl (cI 0, 79, .inl mtrial)), (aMside, .inl (cI 0, 10, .inl mside)), (aMwas, .inl (cI 0, 30, .inl mwas))] → va_S A s.heap H locs → lv_has ls 8 [] → W p l e { frames := 5, cells := 0, slots := 0, locals := 121 } s m args below meth c H locs 0 0 Q (F0 m 255 ls [.int k0]) := by
    intro H locs ls mtrial mside mwas k0
    intro hq hP hD hS hl
    obtain ⟨hz, hq⟩ := kite_b hq
    have ho := Option.some.inj hq
    subst ho
    exact hend _ _ _ _ hz hP hS dX8_command_255
  have b_254 : ∀ (H : Heap) (locs : List Loc) (ls : Array Slot) (mtrial : kF) (mside : kF) (mwas : kF), fn_X8_command_254 mtrial mside mwas = some o → va_P D vwCl [(aM, .inr (7, [.int mref, .ref aMtext, .int msize, .ref aMnow, .ref aMtrial, .ref aMdiary, .int macts, .ref aMkept, .ref aMisKept, .ref aMside, .ref aMwas, .int mspot, .int mout])), (aMtrial, .inl (cI 0, 79, .inl mtrial)), (aMside, .inl (cI 0, 10, .inl mside)), (aMwas, .inl (cI 0, 30, .inl mwas))] H → va_D A [(aM, .inr (7, [.int mref, .ref aMtext, .int msize, .ref aMnow, .ref aMtrial, .ref aMdiary, .int macts, .ref aMkept, .ref aMisKept, .ref aMside, .ref aMwas, .int mspot, .int mout])), (aMtrial, .inl (cI 0, 79, .inl mtrial)), (aMside, .inl (cI 0, 10, .inl mside)), (aMwas, .inl (cI 0, 30, .inl mwas))] → va_S A s.heap H locs → lv_has ls 8 [] → W p l e { frames := 5, cells := 0, slots := 0, locals := 121 } s m args below meth c H locs 0 0 Q (F0 m 254 ls []) := by
    intro H locs ls mtrial mside mwas
    intro hq hP hD hS hl
    refine lv_iconst (v := 0) hx hb dX8_command_254 (by decide) ?_
    exact b_255  _ _ _ mtrial mside mwas (0 : Int32) hq hP hD hS (lv_sub hl [] rfl)
  have b_278 : ∀ (H : Heap) (locs : List Loc) (ls : Array Slot) (mtrial : kF) (mside : kF) (mwas : kF) (k0 : Int32), fn_X8_command_278 mtrial mside mwas k0 = some o → va_P D vwCl [(aM, .inr (7, [.int mref, .ref aMtext, .int msize, .ref aMnow, .ref aMtrial, .ref aMdiary, .int macts, .ref aMkept, .ref aMisKept, .ref aMside, .ref aMwas, .int mspot, .int mout])), (aMtrial, .inl (cI 0, 79, .inl mtrial)), (aMside, .inl (cI 0, 10, .inl mside)), (aMwas, .inl (cI 0, 30, .inl mwas))] H → va_D A [(aM, .inr (7, [.int mref, .ref aMtext, .int msize, .ref aMnow, .ref aMtrial, .ref aMdiary, .int macts, .ref aMkept, .ref aMisKept, .ref aMside, .ref aMwas, .int mspot, .int mout])), (aMtrial, .inl (cI 0, 79, .inl mtrial)), (aMside, .inl (cI 0, 10, .inl mside)), (aMwas, .inl (cI 0, 30, .inl mwas))] → va_S A s.heap H locs → lv_has ls 8 [] → W p l e { frames := 5, cells := 0, slots := 0, locals := 121 } s m args below meth c H locs 0 0 Q (F0 m 278 ls [.int k0]) := by
    intro H locs ls mtrial mside mwas k0
    intro hq hP hD hS hl
    obtain ⟨hz, hq⟩ := kite_b hq
    have ho := Option.some.inj hq
    subst ho
    exact hend _ _ _ _ hz hP hS dX8_command_278
  have b_277 : ∀ (H : Heap) (locs : List Loc) (ls : Array Slot) (mtrial : kF) (mside : kF) (mwas : kF), fn_X8_command_277 mtrial mside mwas = some o → va_P D vwCl [(aM, .inr (7, [.int mref, .ref aMtext, .int msize, .ref aMnow, .ref aMtrial, .ref aMdiary, .int macts, .ref aMkept, .ref aMisKept, .ref aMside, .ref aMwas, .int mspot, .int mout])), (aMtrial, .inl (cI 0, 79, .inl mtrial)), (aMside, .inl (cI 0, 10, .inl mside)), (aMwas, .inl (cI 0, 30, .inl mwas))] H → va_D A [(aM, .inr (7, [.int mref, .ref aMtext, .int msize, .ref aMnow, .ref aMtrial, .ref aMdiary, .int macts, .ref aMkept, .ref aMisKept, .ref aMside, .ref aMwas, .int mspot, .int mout])), (aMtrial, .inl (cI 0, 79, .inl mtrial)), (aMside, .inl (cI 0, 10, .inl mside)), (aMwas, .inl (cI 0, 30, .inl mwas))] → va_S A s.heap H locs → lv_has ls 8 [] → W p l e { frames := 5, cells := 0, slots := 0, locals := 121 } s m args below meth c H locs 0 0 Q (F0 m 277 ls []) := by
    intro H locs ls mtrial mside mwas
    intro hq hP hD hS hl
    refine lv_iconst (v := 0) hx hb dX8_command_277 (by decide) ?_
    exact b_278  _ _ _ mtrial mside mwas (0 : Int32) hq hP hD hS (lv_sub hl [] rfl)
  have b_308 : ∀ (H : Heap) (locs : List Loc) (ls : Array Slot) (mtrial : kF) (mside : kF) (mwas : kF) (k0 : Int32), fn_X8_command_308 mtrial mside mwas k0 = some o → va_P D vwCl [(aM, .inr (7, [.int mref, .ref aMtext, .int msize, .ref aMnow, .ref aMtrial, .ref aMdiary, .int macts, .ref aMkept, .ref aMisKept, .ref aMside, .ref aMwas, .int mspot, .int mout])), (aMtrial, .inl (cI 0, 79, .inl mtrial)), (aMside, .inl (cI 0, 10, .inl mside)), (aMwas, .inl (cI 0, 30, .inl mwas))] H → va_D A [(aM, .inr (7, [.int mref, .ref aMtext, .int msize, .ref aMnow, .ref aMtrial, .ref aMdiary, .int macts, .ref aMkept, .ref aMisKept, .ref aMside, .ref aMwas, .int mspot, .int mout])), (aMtrial, .inl (cI 0, 79, .inl mtrial)), (aMside, .inl (cI 0, 10, .inl mside)), (aMwas, .inl (cI 0, 30, .inl mwas))] → va_S A s.heap H locs → lv_has ls 8 [] → W p l e { frames := 5, cells := 0, slots := 0, locals := 121 } s m args below meth c H locs 0 0 Q (F0 m 308 ls [.int k0]) := by
    intro H locs ls mtrial mside mwas k0
    intro hq hP hD hS hl
    obtain ⟨hz, hq⟩ := kite_b hq
    have ho := Option.some.inj hq
    subst ho
    exact hend _ _ _ _ hz hP hS dX8_command_308
  have b_307 : ∀ (H : Heap) (locs : List Loc) (ls : Array Slot) (mtrial : kF) (mside : kF) (mwas : kF), fn_X8_command_307 mtrial mside mwas = some o → va_P D vwCl [(aM, .inr (7, [.int mref, .ref aMtext, .int msize, .ref aMnow, .ref aMtrial, .ref aMdiary, .int macts, .ref aMkept, .ref aMisKept, .ref aMside, .ref aMwas, .int mspot, .int mout])), (aMtrial, .inl (cI 0, 79, .inl mtrial)), (aMside, .inl (cI 0, 10, .inl mside)), (aMwas, .inl (cI 0, 30, .inl mwas))] H → va_D A [(aM, .inr (7, [.int mref, .ref aMtext, .int msize, .ref aMnow, .ref aMtrial, .ref aMdiary, .int macts, .ref aMkept, .ref aMisKept, .ref aMside, .ref aMwas, .int mspot, .int mout])), (aMtrial, .inl (cI 0, 79, .inl mtrial)), (aMside, .inl (cI 0, 10, .inl mside)), (aMwas, .inl (cI 0, 30, .inl mwas))] → va_S A s.heap H locs → lv_has ls 8 [] → W p l e { frames := 5, cells := 0, slots := 0, locals := 121 } s m args below meth c H locs 0 0 Q (F0 m 307 ls []) := by
    intro H locs ls mtrial mside mwas
    intro hq hP hD hS hl
    refine lv_iconst (v := 0) hx hb dX8_command_307 (by decide) ?_
    exact b_308  _ _ _ mtrial mside mwas (0 : Int32) hq hP hD hS (lv_sub hl [] rfl)
  have b_332 : ∀ (H : Heap) (locs : List Loc) (ls : Array Slot) (mtrial : kF) (mside : kF) (mwas : kF) (k0 : Int32), fn_X8_command_332 mtrial mside mwas k0 = some o → va_P D vwCl [(aM, .inr (7, [.int mref, .ref aMtext, .int msize, .ref aMnow, .ref aMtrial, .ref aMdiary, .int macts, .ref aMkept, .ref aMisKept, .ref aMside, .ref aMwas, .int mspot, .int mout])), (aMtrial, .inl (cI 0, 79, .inl mtrial)), (aMside, .inl (cI 0, 10, .inl mside)), (aMwas, .inl (cI 0, 30, .inl mwas))] H → va_D A [(aM, .inr (7, [.int mref, .ref aMtext, .int msize, .ref aMnow, .ref aMtrial, .ref aMdiary, .int macts, .ref aMkept, .ref aMisKept, .ref aMside, .ref aMwas, .int mspot, .int mout])), (aMtrial, .inl (cI 0, 79, .inl mtrial)), (aMside, .inl (cI 0, 10, .inl mside)), (aMwas, .inl (cI 0, 30, .inl mwas))] → va_S A s.heap H locs → lv_has ls 8 [] → W p l e { frames := 5, cells := 0, slots := 0, locals := 121 } s m args below meth c H locs 0 0 Q (F0 m 332 ls [.int k0]) := by
    intro H locs ls mtrial mside mwas k0
    intro hq hP hD hS hl
    obtain ⟨hz, hq⟩ := kite_b hq
    have ho := Option.some.inj hq
    subst ho
    exact hend _ _ _ _ hz hP hS dX8_command_332
  have b_331 : ∀ (H : Heap) (locs : List Loc) (ls : Array Slot) (mtrial : kF) (mside : kF) (mwas : kF), fn_X8_command_331 mtrial mside mwas = some o → va_P D vwCl [(aM, .inr (7, [.int mref, .ref aMtext, .int msize, .ref aMnow, .ref aMtrial, .ref aMdiary, .int macts, .ref aMkept, .ref aMisKept, .ref aMside, .ref aMwas, .int mspot, .int mout])), (aMtrial, .inl (cI 0, 79, .inl mtrial)), (aMside, .inl (cI 0, 10, .inl mside)), (aMwas, .inl (cI 0, 30, .inl mwas))] H → va_D A [(aM, .inr (7, [.int mref, .ref aMtext, .int msize, .ref aMnow, .ref aMtrial, .ref aMdiary, .int macts, .ref aMkept, .ref aMisKept, .ref aMside, .ref aMwas, .int mspot, .int mout])), (aMtrial, .inl (cI 0, 79, .inl mtrial)), (aMside, .inl (cI 0, 10, .inl mside)), (aMwas, .inl (cI 0, 30, .inl mwas))] → va_S A s.heap H locs → lv_has ls 8 [] → W p l e { frames := 5, cells := 0, slots := 0, locals := 121 } s m args below meth c H locs 0 0 Q (F0 m 331 ls []) := by
    intro H locs ls mtrial mside mwas
    intro hq hP hD hS hl
    refine lv_iconst (v := 0) hx hb dX8_command_331 (by decide) ?_
    exact b_332  _ _ _ mtrial mside mwas (0 : Int32) hq hP hD hS (lv_sub hl [] rfl)
  have b_363 : ∀ (H : Heap) (locs : List Loc) (ls : Array Slot) (mtrial : kF) (mside : kF) (mwas : kF) (k0 : Int32), fn_X8_command_363 mtrial mside mwas k0 = some o → va_P D vwCl [(aM, .inr (7, [.int mref, .ref aMtext, .int msize, .ref aMnow, .ref aMtrial, .ref aMdiary, .int macts, .ref aMkept, .ref aMisKept, .ref aMside, .ref aMwas, .int mspot, .int mout])), (aMtrial, .inl (cI 0, 79, .inl mtrial)), (aMside, .inl (cI 0, 10, .inl mside)), (aMwas, .inl (cI 0, 30, .inl mwas))] H → va_D A [(aM, .inr (7, [.int mref, .ref aMtext, .int msize, .ref aMnow, .ref aMtrial, .ref aMdiary, .int macts, .ref aMkept, .ref aMisKept, .ref aMside, .ref aMwas, .int mspot, .int mout])), (aMtrial, .inl (cI 0, 79, .inl mtrial)), (aMside, .inl (cI 0, 10, .inl mside)), (aMwas, .inl (cI 0, 30, .inl mwas))] → va_S A s.heap H locs → lv_has ls 8 [] → W p l e { frames := 5, cells := 0, slots := 0, locals := 121 } s m args below meth c H locs 0 0 Q (F0 m 363 ls [.int k0]) := by
    intro H locs ls mtrial mside mwas k0
    intro hq hP hD hS hl
    obtain ⟨hz, hq⟩ := kite_b hq
    have ho := Option.some.inj hq
    subst ho
    exact hend _ _ _ _ hz hP hS dX8_command_363
  have b_362 : ∀ (H : Heap) (locs : List Loc) (ls : Array Slot) (mtrial : kF) (mside : kF) (mwas : kF), fn_X8_command_362 mtrial mside mwas = some o → va_P D vwCl [(aM, .inr (7, [.int mref, .ref aMtext, .int msize, .ref aMnow, .ref aMtrial, .ref aMdiary, .int macts, .ref aMkept, .ref aMisKept, .ref aMside, .ref aMwas, .int mspot, .int mout])), (aMtrial, .inl (cI 0, 79, .inl mtrial)), (aMside, .inl (cI 0, 10, .inl mside)), (aMwas, .inl (cI 0, 30, .inl mwas))] H → va_D A [(aM, .inr (7, [.int mref, .ref aMtext, .int msize, .ref aMnow, .ref aMtrial, .ref aMdiary, .int macts, .ref aMkept, .ref aMisKept, .ref aMside, .ref aMwas, .int mspot, .int mout])), (aMtrial, .inl (cI 0, 79, .inl mtrial)), (aMside, .inl (cI 0, 10, .inl mside)), (aMwas, .inl (cI 0, 30, .inl mwas))] → va_S A s.heap H locs → lv_has ls 8 [] → W p l e { frames := 5, cells := 0, slots := 0, locals := 121 } s m args below meth c H locs 0 0 Q (F0 m 362 ls []) := by
    intro H locs ls mtrial mside mwas
    intro hq hP hD hS hl
    refine lv_iconst (v := 0) hx hb dX8_command_362 (by decide) ?_
    exact b_363  _ _ _ mtrial mside mwas (0 : Int32) hq hP hD hS (lv_sub hl [] rfl)
  refine lv_iload_n hx hb dX8_command_0 rfl (lv_at hl 2 rfl) ?_
  refine lv_sipush (v := 1000) hx hb dX8_command_1 (by decide) ?_
  refine lv_idiv hx hb dX8_command_4 (by decide) ?_
  refine lv_istore_n (lv' := [(3, .int (x2 / (1000 : Int32))), (0, .ref aM), (1, .int x1), (2, .int x2)]) hx hb dX8_command_5 rfl hl (by decide) rfl (fun ls hl => ?_)
  refine lv_iload_n hx hb dX8_command_6 rfl (lv_at hl 3 rfl) ?_
  refine lv_bipush (v := 100) hx hb dX8_command_7 (by decide) ?_
  refine lv_idiv hx hb dX8_command_9 (by decide) ?_
  refine lv_bipush (v := 10) hx hb dX8_command_10 (by decide) ?_
  refine lv_irem hx hb dX8_command_12 (by decide) ?_
  refine lv_istore (lv' := [(4, .int ((x2 / (100 : Int32)) - (x2 / (100 : Int32)) / (10 : Int32) * (10 : Int32))), (3, .int (x2 / (1000 : Int32))), (0, .ref aM), (1, .int x1), (2, .int x2)]) hx hb dX8_command_13 hl (by decide) rfl (fun ls hl => ?_)
  refine lv_iload_n hx hb dX8_command_15 rfl (lv_at hl 4 rfl) ?_
  refine lv_bipush (v := 100) hx hb dX8_command_16 (by decide) ?_
  refine lv_idiv hx hb dX8_command_18 (by decide) ?_
  refine lv_istore (lv' := [(5, .int (x2 / (100 : Int32))), (4, .int ((x2 / (100 : Int32)) - (x2 / (100 : Int32)) / (10 : Int32) * (10 : Int32))), (3, .int (x2 / (1000 : Int32))), (0, .ref aM), (1, .int x1), (2, .int x2)]) hx hb dX8_command_19 hl (by decide) rfl (fun ls hl => ?_)
  refine lv_iload_n hx hb dX8_command_21 rfl (lv_at hl 5 rfl) ?_
  refine lv_bipush (v := 10) hx hb dX8_command_22 (by decide) ?_
  refine lv_idiv hx hb dX8_command_24 (by decide) ?_
  refine lv_bipush (v := 10) hx hb dX8_command_25 (by decide) ?_
  refine lv_irem hx hb dX8_command_27 (by decide) ?_
  refine lv_iconst (v := 2) hx hb dX8_command_28 (by decide) ?_
  refine lv_isub hx hb dX8_command_29 ?_
  refine lv_istore (lv' := [(6, .int (((x2 / (10 : Int32)) - (x2 / (10 : Int32)) / (10 : Int32) * (10 : Int32)) - (2 : Int32))), (5, .int (x2 / (100 : Int32))), (4, .int ((x2 / (100 : Int32)) - (x2 / (100 : Int32)) / (10 : Int32) * (10 : Int32))), (3, .int (x2 / (1000 : Int32))), (0, .ref aM), (1, .int x1), (2, .int x2)]) hx hb dX8_command_30 hl (by decide) rfl (fun ls hl => ?_)
  refine lv_iload_n hx hb dX8_command_32 rfl (lv_at hl 6 rfl) ?_
  refine lv_bipush (v := 100) hx hb dX8_command_33 (by decide) ?_
  refine lv_irem hx hb dX8_command_35 (by decide) ?_
  refine lv_istore (lv' := [(7, .int (x2 - x2 / (100 : Int32) * (100 : Int32))), (6, .int (((x2 / (10 : Int32)) - (x2 / (10 : Int32)) / (10 : Int32) * (10 : Int32)) - (2 : Int32))), (5, .int (x2 / (100 : Int32))), (4, .int ((x2 / (100 : Int32)) - (x2 / (100 : Int32)) / (10 : Int32) * (10 : Int32))), (3, .int (x2 / (1000 : Int32))), (0, .ref aM), (1, .int x1), (2, .int x2)]) hx hb dX8_command_36 hl (by decide) rfl (fun ls hl => ?_)
  refine lv_iload_n hx hb dX8_command_38 rfl (lv_at hl 6 rfl) ?_
  by_cases c0 : x1 = 1
  · have hq := kite_t c0 hq
    refine lv_tableIn (off := 49) (tgt := 88) hx hb dX8_command_39 (by rw [c0]; decide) (by rw [c0]; decide) (by rw [c0]; decide +kernel) (by decide) ?_
    refine lv_iload_n hx hb dX8_command_88 rfl (lv_at hl 7 rfl) ?_
    refine lv_bipush (v := 10) hx hb dX8_command_89 (by decide) ?_
    refine lv_irem hx hb dX8_command_91 (by decide) ?_
    refine lv_if_ne (tgt := 144) hx hb dX8_command_92 (by decide) (fun c9 => ?_) (fun c9 => ?_)
    · have hq := kite_f c9 hq
      exact b_144  _ _ _ mtrial mside mwas hq hP hD hS (lv_sub hl [] rfl)
    · have hq := kite_t c9 hq
      refine lv_iload hx hb dX8_command_95 (lv_at hl 2 rfl) ?_
      refine lv_iload hx hb dX8_command_97 (lv_at hl 1 rfl) ?_
      obtain ⟨o99, ho99, hq⟩ := kbind hq
      refine kc_Si (av := [.int (x2 / (100 : Int32)), .int (((x2 / (10 : Int32)) - (x2 / (10 : Int32)) / (10 : Int32) * (10 : Int32)) - (2 : Int32))]) (rest := []) hF hK hG hA (mk_X8_isBall l D cI s.heap.size (x2 / (100 : Int32)) (((x2 / (10 : Int32)) - (x2 / (10 : Int32)) / (10 : Int32) * (10 : Int32)) - (2 : Int32)) o99 ho99) (va_cwS 2 hts gX8_command_X8_isBall rfl rfl rfl (by decide +kernel) ⟨Nat.le_of_ble_eq_true rfl, Nat.le_of_ble_eq_true rfl⟩) hP hD hS [] (by decide) rfl rfl rfl hl.1 rfl (Nat.le_of_ble_eq_true rfl) ⟨Nat.zero_le _, Nat.zero_le _⟩ dX8_command_99 (fun H locs hP hD hS => ?_)
      have hP : va_P D vwCl [(aM, .inr (7, [.int mref, .ref aMtext, .int msize, .ref aMnow, .ref aMtrial, .ref aMdiary, .int macts, .ref aMkept, .ref aMisKept, .ref aMside, .ref aMwas, .int mspot, .int mout])), (aMtrial, .inl (cI 0, 79, .inl mtrial)), (aMside, .inl (cI 0, 10, .inl mside)), (aMwas, .inl (cI 0, 30, .inl mwas))] H := hP
      have hD : va_D A [(aM, .inr (7, [.int mref, .ref aMtext, .int msize, .ref aMnow, .ref aMtrial, .ref aMdiary, .int macts, .ref aMkept, .ref aMisKept, .ref aMside, .ref aMwas, .int mspot, .int mout])), (aMtrial, .inl (cI 0, 79, .inl mtrial)), (aMside, .inl (cI 0, 10, .inl mside)), (aMwas, .inl (cI 0, 30, .inl mwas))] := hD
      refine lv_if_eq (tgt := 144) hx hb dX8_command_102 (by decide) (fun c9 => ?_) (fun c9 => ?_)
      · have hq := kite_t c9 hq
        exact b_144  _ _ _ mtrial mside mwas hq hP hD hS (lv_sub hl [] rfl)
      · have hq := kite_f c9 hq
        refine lv_aload_n hx hb dX8_command_105 rfl (lv_at hl 5 rfl) ?_
        refine va_get (D := D) (ci := 7) (v := .ref aMtrial) (C := RX8) (T := TX8) (N := 13) hx hb hts iw_X8_command_X8 hown hK.1 hP 0 rfl rfl 4 (by decide) (hts (.fieldLink RX8 16 "PinDeckModel" "trial" "[I") (by decide +kernel)) (fun _ h9 => h9) rfl dX8_command_106 ?_
        obtain ⟨o109, ho109, hq⟩ := kbind hq
        refine kc_Si (av := [.ref aMtrial]) (rest := []) hF hK hG hA (mk_X8_isOver l D cI aMtrial H.size mtrial o109 ho109) (va_cwS 1 hts gX8_command_X8_isOver rfl rfl rfl (by decide +kernel) ⟨Nat.le_of_ble_eq_true rfl, Nat.le_of_ble_eq_true rfl⟩) hP hD hS [1] (by decide) rfl rfl rfl hl.1 rfl (Nat.le_of_ble_eq_true rfl) ⟨Nat.zero_le _, Nat.zero_le _⟩ dX8_command_109 (fun H locs hP hD hS => ?_)
        have hP : va_P D vwCl [(aM, .inr (7, [.int mref, .ref aMtext, .int msize, .ref aMnow, .ref aMtrial, .ref aMdiary, .int macts, .ref aMkept, .ref aMisKept, .ref aMside, .ref aMwas, .int mspot, .int mout])), (aMtrial, .inl (cI 0, 79, .inl mtrial)), (aMside, .inl (cI 0, 10, .inl mside)), (aMwas, .inl (cI 0, 30, .inl mwas))] H := hP
        have hD : va_D A [(aM, .inr (7, [.int mref, .ref aMtext, .int msize, .ref aMnow, .ref aMtrial, .ref aMdiary, .int macts, .ref aMkept, .ref aMisKept, .ref aMside, .ref aMwas, .int mspot, .int mout])), (aMtrial, .inl (cI 0, 79, .inl mtrial)), (aMside, .inl (cI 0, 10, .inl mside)), (aMwas, .inl (cI 0, 30, .inl mwas))] := hD
        refine lv_if_ne (tgt := 144) hx hb dX8_command_112 (by decide) (fun c9 => ?_) (fun c9 => ?_)
        · have hq := kite_f c9 hq
          exact b_144  _ _ _ mtrial mside mwas hq hP hD hS (lv_sub hl [] rfl)
        · have hq := kite_t c9 hq
          refine lv_aload_n hx hb dX8_command_115 rfl (lv_at hl 5 rfl) ?_
          refine lv_aload_n hx hb dX8_command_116 rfl (lv_at hl 5 rfl) ?_
          refine va_get (D := D) (ci := 7) (v := .ref aMtrial) (C := RX8) (T := TX8) (N := 13) hx hb hts iw_X8_command_X8 hown hK.1 hP 0 rfl rfl 4 (by decide) (hts (.fieldLink RX8 16 "PinDeckModel" "trial" "[I") (by decide +kernel)) (fun _ h9 => h9) rfl dX8_command_117 ?_
          refine lv_iload hx hb dX8_command_120 (lv_at hl 2 rfl) ?_
          refine lv_iload hx hb dX8_command_122 (lv_at hl 1 rfl) ?_
          refine lv_iload_n hx hb dX8_command_124 rfl (lv_at hl 6 rfl) ?_
          refine lv_iconst (v := 2) hx hb dX8_command_125 (by decide) ?_
          refine lv_icmp_ne (tgt := 133) hx hb dX8_command_126 (by decide) (fun c9 => ?_) (fun c9 => ?_)
          · have hq := kite_f c9 hq
            refine lv_iconst (v := 0) hx hb dX8_command_133 (by decide) ?_
            exact b_134  _ _ _ mtrial mside mwas (x2 / (100 : Int32)) (((x2 / (10 : Int32)) - (x2 / (10 : Int32)) / (10 : Int32) * (10 : Int32)) - (2 : Int32)) (0 : Int32) hq hP hD hS (lv_sub hl [] rfl)
          · have hq := kite_t c9 hq
            refine lv_iconst (v := 1) hx hb dX8_command_129 (by decide) ?_
            refine lv_goto (tgt := 134) hx hb dX8_command_130 (by decide) ?_
            exact b_134  _ _ _ mtrial mside mwas (x2 / (100 : Int32)) (((x2 / (10 : Int32)) - (x2 / (10 : Int32)) / (10 : Int32) * (10 : Int32)) - (2 : Int32)) (1 : Int32) hq hP hD hS (lv_sub hl [] rfl)
  have hq := kite_f c0 hq
  by_cases c1 : x1 = 2
  · have hq := kite_t c1 hq
    refine lv_tableIn (off := 49) (tgt := 88) hx hb dX8_command_39 (by rw [c1]; decide) (by rw [c1]; decide) (by rw [c1]; decide +kernel) (by decide) ?_
    refine lv_iload_n hx hb dX8_command_88 rfl (lv_at hl 7 rfl) ?_
    refine lv_bipush (v := 10) hx hb dX8_command_89 (by decide) ?_
    refine lv_irem hx hb dX8_command_91 (by decide) ?_
    refine lv_if_ne (tgt := 144) hx hb dX8_command_92 (by decide) (fun c9 => ?_) (fun c9 => ?_)
    · have hq := kite_f c9 hq
      exact b_144  _ _ _ mtrial mside mwas hq hP hD hS (lv_sub hl [] rfl)
    · have hq := kite_t c9 hq
      refine lv_iload hx hb dX8_command_95 (lv_at hl 2 rfl) ?_
      refine lv_iload hx hb dX8_command_97 (lv_at hl 1 rfl) ?_
      obtain ⟨o99, ho99, hq⟩ := kbind hq
      refine kc_Si (av := [.int (x2 / (100 : Int32)), .int (((x2 / (10 : Int32)) - (x2 / (10 : Int32)) / (10 : Int32) * (10 : Int32)) - (2 : Int32))]) (rest := []) hF hK hG hA (mk_X8_isBall l D cI s.heap.size (x2 / (100 : Int32)) (((x2 / (10 : Int32)) - (x2 / (10 : Int32)) / (10 : Int32) * (10 : Int32)) - (2 : Int32)) o99 ho99) (va_cwS 2 hts gX8_command_X8_isBall rfl rfl rfl (by decide +kernel) ⟨Nat.le_of_ble_eq_true rfl, Nat.le_of_ble_eq_true rfl⟩) hP hD hS [] (by decide) rfl rfl rfl hl.1 rfl (Nat.le_of_ble_eq_true rfl) ⟨Nat.zero_le _, Nat.zero_le _⟩ dX8_command_99 (fun H locs hP hD hS => ?_)
      have hP : va_P D vwCl [(aM, .inr (7, [.int mref, .ref aMtext, .int msize, .ref aMnow, .ref aMtrial, .ref aMdiary, .int macts, .ref aMkept, .ref aMisKept, .ref aMside, .ref aMwas, .int mspot, .int mout])), (aMtrial, .inl (cI 0, 79, .inl mtrial)), (aMside, .inl (cI 0, 10, .inl mside)), (aMwas, .inl (cI 0, 30, .inl mwas))] H := hP
      have hD : va_D A [(aM, .inr (7, [.int mref, .ref aMtext, .int msize, .ref aMnow, .ref aMtrial, .ref aMdiary, .int macts, .ref aMkept, .ref aMisKept, .ref aMside, .ref aMwas, .int mspot, .int mout])), (aMtrial, .inl (cI 0, 79, .inl mtrial)), (aMside, .inl (cI 0, 10, .inl mside)), (aMwas, .inl (cI 0, 30, .inl mwas))] := hD
      refine lv_if_eq (tgt := 144) hx hb dX8_command_102 (by decide) (fun c9 => ?_) (fun c9 => ?_)
      · have hq := kite_t c9 hq
        exact b_144  _ _ _ mtrial mside mwas hq hP hD hS (lv_sub hl [] rfl)
      · have hq := kite_f c9 hq
        refine lv_aload_n hx hb dX8_command_105 rfl (lv_at hl 5 rfl) ?_
        refine va_get (D := D) (ci := 7) (v := .ref aMtrial) (C := RX8) (T := TX8) (N := 13) hx hb hts iw_X8_command_X8 hown hK.1 hP 0 rfl rfl 4 (by decide) (hts (.fieldLink RX8 16 "PinDeckModel" "trial" "[I") (by decide +kernel)) (fun _ h9 => h9) rfl dX8_command_106 ?_
        obtain ⟨o109, ho109, hq⟩ := kbind hq
        refine kc_Si (av := [.ref aMtrial]) (rest := []) hF hK hG hA (mk_X8_isOver l D cI aMtrial H.size mtrial o109 ho109) (va_cwS 1 hts gX8_command_X8_isOver rfl rfl rfl (by decide +kernel) ⟨Nat.le_of_ble_eq_true rfl, Nat.le_of_ble_eq_true rfl⟩) hP hD hS [1] (by decide) rfl rfl rfl hl.1 rfl (Nat.le_of_ble_eq_true rfl) ⟨Nat.zero_le _, Nat.zero_le _⟩ dX8_command_109 (fun H locs hP hD hS => ?_)
        have hP : va_P D vwCl [(aM, .inr (7, [.int mref, .ref aMtext, .int msize, .ref aMnow, .ref aMtrial, .ref aMdiary, .int macts, .ref aMkept, .ref aMisKept, .ref aMside, .ref aMwas, .int mspot, .int mout])), (aMtrial, .inl (cI 0, 79, .inl mtrial)), (aMside, .inl (cI 0, 10, .inl mside)), (aMwas, .inl (cI 0, 30, .inl mwas))] H := hP
        have hD : va_D A [(aM, .inr (7, [.int mref, .ref aMtext, .int msize, .ref aMnow, .ref aMtrial, .ref aMdiary, .int macts, .ref aMkept, .ref aMisKept, .ref aMside, .ref aMwas, .int mspot, .int mout])), (aMtrial, .inl (cI 0, 79, .inl mtrial)), (aMside, .inl (cI 0, 10, .inl mside)), (aMwas, .inl (cI 0, 30, .inl mwas))] := hD
        refine lv_if_ne (tgt := 144) hx hb dX8_command_112 (by decide) (fun c9 => ?_) (fun c9 => ?_)
        · have hq := kite_f c9 hq
          exact b_144  _ _ _ mtrial mside mwas hq hP hD hS (lv_sub hl [] rfl)
        · have hq := kite_t c9 hq
          refine lv_aload_n hx hb dX8_command_115 rfl (lv_at hl 5 rfl) ?_
          refine lv_aload_n hx hb dX8_command_116 rfl (lv_at hl 5 rfl) ?_
          refine va_get (D := D) (ci := 7) (v := .ref aMtrial) (C := RX8) (T := TX8) (N := 13) hx hb hts iw_X8_command_X8 hown hK.1 hP 0 rfl rfl 4 (by decide) (hts (.fieldLink RX8 16 "PinDeckModel" "trial" "[I") (by decide +kernel)) (fun _ h9 => h9) rfl dX8_command_117 ?_
          refine lv_iload hx hb dX8_command_120 (lv_at hl 2 rfl) ?_
          refine lv_iload hx hb dX8_command_122 (lv_at hl 1 rfl) ?_
          refine lv_iload_n hx hb dX8_command_124 rfl (lv_at hl 6 rfl) ?_
          refine lv_iconst (v := 2) hx hb dX8_command_125 (by decide) ?_
          refine lv_icmp_ne (tgt := 133) hx hb dX8_command_126 (by decide) (fun c9 => ?_) (fun c9 => ?_)
          · have hq := kite_f c9 hq
            refine lv_iconst (v := 0) hx hb dX8_command_133 (by decide) ?_
            exact b_134  _ _ _ mtrial mside mwas (x2 / (100 : Int32)) (((x2 / (10 : Int32)) - (x2 / (10 : Int32)) / (10 : Int32) * (10 : Int32)) - (2 : Int32)) (0 : Int32) hq hP hD hS (lv_sub hl [] rfl)
          · have hq := kite_t c9 hq
            refine lv_iconst (v := 1) hx hb dX8_command_129 (by decide) ?_
            refine lv_goto (tgt := 134) hx hb dX8_command_130 (by decide) ?_
            exact b_134  _ _ _ mtrial mside mwas (x2 / (100 : Int32)) (((x2 / (10 : Int32)) - (x2 / (10 : Int32)) / (10 : Int32) * (10 : Int32)) - (2 : Int32)) (1 : Int32) hq hP hD hS (lv_sub hl [] rfl)
  have hq := kite_f c1 hq
  by_cases c2 : x1 = 3
  · have hq := kite_t c2 hq
    refine lv_tableIn (off := 107) (tgt := 146) hx hb dX8_command_39 (by rw [c2]; decide) (by rw [c2]; decide) (by rw [c2]; decide +kernel) (by decide) ?_
    refine lv_iload hx hb dX8_command_146 (lv_at hl 0 rfl) ?_
    refine lv_if_ne (tgt := 193) hx hb dX8_command_148 (by decide) (fun c9 => ?_) (fun c9 => ?_)
    · have hq := kite_f c9 hq
      exact b_193  _ _ _ mtrial mside mwas hq hP hD hS (lv_sub hl [] rfl)
    · have hq := kite_t c9 hq
      refine lv_iload hx hb dX8_command_151 (lv_at hl 3 rfl) ?_
      refine lv_i2l (v := (((x2 / (100 : Int32)) - (x2 / (100 : Int32)) / (10 : Int32) * (10 : Int32))).toInt64) hx hb dX8_command_153 rfl ?_
      refine lv_lconst (v := 0) hx hb dX8_command_154 (by decide) ?_
      refine lv_ldc2 (v := 3) hx hb hown (hts (.constantLong RX8 71 (3 : Int64)) (by decide +kernel)) dX8_command_155 ?_
      obtain ⟨o158, ho158, hq⟩ := kbind hq
      refine kc_Si (av := [.long ((((x2 / (100 : Int32)) - (x2 / (100 : Int32)) / (10 : Int32) * (10 : Int32))).toInt64), .long (0 : Int64), .long (3 : Int64)]) (rest := []) hF hK hG hA (mk_X8_in l D cI s.heap.size ((((x2 / (100 : Int32)) - (x2 / (100 : Int32)) / (10 : Int32) * (10 : Int32))).toInt64) (0 : Int64) (3 : Int64) o158 ho158) (va_cwS 3 hts gX8_command_X8_in rfl rfl rfl (by decide +kernel) ⟨Nat.le_of_ble_eq_true rfl, Nat.le_of_ble_eq_true rfl⟩) hP hD hS [] (by decide) rfl rfl rfl hl.1 rfl (Nat.le_of_ble_eq_true rfl) ⟨Nat.zero_le _, Nat.zero_le _⟩ dX8_command_158 (fun H locs hP hD hS => ?_)
      have hP : va_P D vwCl [(aM, .inr (7, [.int mref, .ref aMtext, .int msize, .ref aMnow, .ref aMtrial, .ref aMdiary, .int macts, .ref aMkept, .ref aMisKept, .ref aMside, .ref aMwas, .int mspot, .int mout])), (aMtrial, .inl (cI 0, 79, .inl mtrial)), (aMside, .inl (cI 0, 10, .inl mside)), (aMwas, .inl (cI 0, 30, .inl mwas))] H := hP
      have hD : va_D A [(aM, .inr (7, [.int mref, .ref aMtext, .int msize, .ref aMnow, .ref aMtrial, .ref aMdiary, .int macts, .ref aMkept, .ref aMisKept, .ref aMside, .ref aMwas, .int mspot, .int mout])), (aMtrial, .inl (cI 0, 79, .inl mtrial)), (aMside, .inl (cI 0, 10, .inl mside)), (aMwas, .inl (cI 0, 30, .inl mwas))] := hD
      refine lv_if_eq (tgt := 193) hx hb dX8_command_161 (by decide) (fun c9 => ?_) (fun c9 => ?_)
      · have hq := kite_t c9 hq
        exact b_193  _ _ _ mtrial mside mwas hq hP hD hS (lv_sub hl [] rfl)
      · have hq := kite_f c9 hq
        refine lv_aload_n hx hb dX8_command_164 rfl (lv_at hl 5 rfl) ?_
        refine va_get (D := D) (ci := 7) (v := .ref aMtrial) (C := RX8) (T := TX8) (N := 13) hx hb hts iw_X8_command_X8 hown hK.1 hP 0 rfl rfl 4 (by decide) (hts (.fieldLink RX8 16 "PinDeckModel" "trial" "[I") (by decide +kernel)) (fun _ h9 => h9) rfl dX8_command_165 ?_
        refine lv_iconst (v := 0) hx hb dX8_command_168 (by decide) ?_
        refine lv_iload_n hx hb dX8_command_169 rfl (lv_at hl 4 rfl) ?_
        refine lv_iadd hx hb dX8_command_170 ?_
        obtain ⟨hz, hq⟩ := kite_n hq
        refine k_iald (j := (((0 : Int32) + (x2 / (1000 : Int32))).toNatClampNeg)) hx hb hK.1 hP 1 0 rfl rfl hz rfl dX8_command_171 ?_
        refine lv_iconst (v := 4) hx hb dX8_command_172 (by decide) ?_
        refine lv_icmp_eq (tgt := 193) hx hb dX8_command_173 (by decide) (fun c9 => ?_) (fun c9 => ?_)
        · have hq := kite_t c9 hq
          exact b_193  _ _ _ mtrial mside mwas hq hP hD hS (lv_sub hl [] rfl)
        · have hq := kite_f c9 hq
          refine lv_aload_n hx hb dX8_command_176 rfl (lv_at hl 5 rfl) ?_
          refine va_get (D := D) (ci := 7) (v := .ref aMtrial) (C := RX8) (T := TX8) (N := 13) hx hb hts iw_X8_command_X8 hown hK.1 hP 0 rfl rfl 4 (by decide) (hts (.fieldLink RX8 16 "PinDeckModel" "trial" "[I") (by decide +kernel)) (fun _ h9 => h9) rfl dX8_command_177 ?_
          refine lv_iload_n hx hb dX8_command_180 rfl (lv_at hl 4 rfl) ?_
          refine lv_iload hx hb dX8_command_181 (lv_at hl 3 rfl) ?_
          obtain ⟨o183, ho183, hq⟩ := kbind hq
          refine kc_Si (av := [.ref aMtrial, .int (x2 / (1000 : Int32)), .int ((x2 / (100 : Int32)) - (x2 / (100 : Int32)) / (10 : Int32) * (10 : Int32))]) (rest := []) hF hK hG hA (mk_X8_touchOn l D cI aMtrial H.size mtrial (x2 / (1000 : Int32)) ((x2 / (100 : Int32)) - (x2 / (100 : Int32)) / (10 : Int32) * (10 : Int32)) o183 ho183) (va_cwS 3 hts gX8_command_X8_touchOn rfl rfl rfl (by decide +kernel) ⟨Nat.le_of_ble_eq_true rfl, Nat.le_of_ble_eq_true rfl⟩) hP hD hS [1] (by decide) rfl rfl rfl hl.1 rfl (Nat.le_of_ble_eq_true rfl) ⟨Nat.zero_le _, Nat.zero_le _⟩ dX8_command_183 (fun H locs hP hD hS => ?_)
          have hP : va_P D vwCl [(aM, .inr (7, [.int mref, .ref aMtext, .int msize, .ref aMnow, .ref aMtrial, .ref aMdiary, .int macts, .ref aMkept, .ref aMisKept, .ref aMside, .ref aMwas, .int mspot, .int mout])), (aMtrial, .inl (cI 0, 79, .inl o183.2)), (aMside, .inl (cI 0, 10, .inl mside)), (aMwas, .inl (cI 0, 30, .inl mwas))] H := hP
          have hD : va_D A [(aM, .inr (7, [.int mref, .ref aMtext, .int msize, .ref aMnow, .ref aMtrial, .ref aMdiary, .int macts, .ref aMkept, .ref aMisKept, .ref aMside, .ref aMwas, .int mspot, .int mout])), (aMtrial, .inl (cI 0, 79, .inl o183.2)), (aMside, .inl (cI 0, 10, .inl mside)), (aMwas, .inl (cI 0, 30, .inl mwas))] := hD
          refine lv_if_lt (tgt := 193) hx hb dX8_command_186 (by decide) (fun c9 => ?_) (fun c9 => ?_)
          · have hq := kite_t c9 hq
            exact b_193  _ _ _ o183.2 mside mwas hq hP hD hS (lv_sub hl [] rfl)
          · have hq := kite_f c9 hq
            refine lv_iconst (v := 1) hx hb dX8_command_189 (by decide) ?_
            refine lv_goto (tgt := 194) hx hb dX8_command_190 (by decide) ?_
            exact b_194  _ _ _ o183.2 mside mwas (1 : Int32) hq hP hD hS (lv_sub hl [] rfl)
  have hq := kite_f c2 hq
  by_cases c3 : x1 = 4
  · have hq := kite_t c3 hq
    refine lv_tableIn (off := 156) (tgt := 195) hx hb dX8_command_39 (by rw [c3]; decide) (by rw [c3]; decide) (by rw [c3]; decide +kernel) (by decide) ?_
    refine lv_iload_n hx hb dX8_command_195 rfl (lv_at hl 7 rfl) ?_
    refine lv_bipush (v := 10) hx hb dX8_command_196 (by decide) ?_
    refine lv_irem hx hb dX8_command_198 (by decide) ?_
    refine lv_if_gt (tgt := 216) hx hb dX8_command_199 (by decide) (fun c9 => ?_) (fun c9 => ?_)
    · have hq := kite_t c9 hq
      exact b_216  _ _ _ mtrial mside mwas hq hP hD hS (lv_sub hl [] rfl)
    · have hq := kite_f c9 hq
      refine lv_iload_n hx hb dX8_command_202 rfl (lv_at hl 4 rfl) ?_
      refine lv_iload_n hx hb dX8_command_203 rfl (lv_at hl 7 rfl) ?_
      refine lv_bipush (v := 10) hx hb dX8_command_204 (by decide) ?_
      refine lv_idiv hx hb dX8_command_206 (by decide) ?_
      refine lv_bipush (v := 100) hx hb dX8_command_207 (by decide) ?_
      refine lv_irem hx hb dX8_command_209 (by decide) ?_
      obtain ⟨o210, ho210, hq⟩ := kbind hq
      refine kc_Si (av := [.int (x2 / (1000 : Int32)), .int ((x2 / (10 : Int32)) - (x2 / (10 : Int32)) / (100 : Int32) * (100 : Int32))]) (rest := []) hF hK hG hA (mk_X8_isSetting l D cI s.heap.size (x2 / (1000 : Int32)) ((x2 / (10 : Int32)) - (x2 / (10 : Int32)) / (100 : Int32) * (100 : Int32)) o210 ho210) (va_cwS 2 hts gX8_command_X8_isSetting rfl rfl rfl (by decide +kernel) ⟨Nat.le_of_ble_eq_true rfl, Nat.le_of_ble_eq_true rfl⟩) hP hD hS [] (by decide) rfl rfl rfl hl.1 rfl (Nat.le_of_ble_eq_true rfl) ⟨Nat.zero_le _, Nat.zero_le _⟩ dX8_command_210 (fun H locs hP hD hS => ?_)
      have hP : va_P D vwCl [(aM, .inr (7, [.int mref, .ref aMtext, .int msize, .ref aMnow, .ref aMtrial, .ref aMdiary, .int macts, .ref aMkept, .ref aMisKept, .ref aMside, .ref aMwas, .int mspot, .int mout])), (aMtrial, .inl (cI 0, 79, .inl mtrial)), (aMside, .inl (cI 0, 10, .inl mside)), (aMwas, .inl (cI 0, 30, .inl mwas))] H := hP
      have hD : va_D A [(aM, .inr (7, [.int mref, .ref aMtext, .int msize, .ref aMnow, .ref aMtrial, .ref aMdiary, .int macts, .ref aMkept, .ref aMisKept, .ref aMside, .ref aMwas, .int mspot, .int mout])), (aMtrial, .inl (cI 0, 79, .inl mtrial)), (aMside, .inl (cI 0, 10, .inl mside)), (aMwas, .inl (cI 0, 30, .inl mwas))] := hD
      refine lv_if_ne (tgt := 218) hx hb dX8_command_213 (by decide) (fun c9 => ?_) (fun c9 => ?_)
      · have hq := kite_f c9 hq
        refine lv_aload_n hx hb dX8_command_218 rfl (lv_at hl 5 rfl) ?_
        refine va_get (D := D) (ci := 7) (v := .ref aMtrial) (C := RX8) (T := TX8) (N := 13) hx hb hts iw_X8_command_X8 hown hK.1 hP 0 rfl rfl 4 (by decide) (hts (.fieldLink RX8 16 "PinDeckModel" "trial" "[I") (by decide +kernel)) (fun _ h9 => h9) rfl dX8_command_219 ?_
        refine lv_bipush (v := 76) hx hb dX8_command_222 (by decide) ?_
        refine lv_iload_n hx hb dX8_command_224 rfl (lv_at hl 4 rfl) ?_
        refine lv_iadd hx hb dX8_command_225 ?_
        refine lv_iload_n hx hb dX8_command_226 rfl (lv_at hl 7 rfl) ?_
        refine lv_bipush (v := 10) hx hb dX8_command_227 (by decide) ?_
        refine lv_idiv hx hb dX8_command_229 (by decide) ?_
        refine lv_bipush (v := 100) hx hb dX8_command_230 (by decide) ?_
        refine lv_irem hx hb dX8_command_232 (by decide) ?_
        obtain ⟨hz, hq⟩ := kite_n hq
        refine k_iast (j := (((76 : Int32) + (x2 / (1000 : Int32))).toNatClampNeg)) hx hb hK.1 hP hD hS 1 0 rfl rfl hz rfl dX8_command_233 (fun H locs hP hD hS => ?_)
        have hP : va_P D vwCl [(aM, .inr (7, [.int mref, .ref aMtext, .int msize, .ref aMnow, .ref aMtrial, .ref aMdiary, .int macts, .ref aMkept, .ref aMisKept, .ref aMside, .ref aMwas, .int mspot, .int mout])), (aMtrial, .inl (cI 0, 79, .inl (upd mtrial (((76 : Int32) + (x2 / (1000 : Int32))).toNatClampNeg) ((x2 / (10 : Int32)) - (x2 / (10 : Int32)) / (100 : Int32) * (100 : Int32))))), (aMside, .inl (cI 0, 10, .inl mside)), (aMwas, .inl (cI 0, 30, .inl mwas))] H := hP
        have hD : va_D A [(aM, .inr (7, [.int mref, .ref aMtext, .int msize, .ref aMnow, .ref aMtrial, .ref aMdiary, .int macts, .ref aMkept, .ref aMisKept, .ref aMside, .ref aMwas, .int mspot, .int mout])), (aMtrial, .inl (cI 0, 79, .inl (upd mtrial (((76 : Int32) + (x2 / (1000 : Int32))).toNatClampNeg) ((x2 / (10 : Int32)) - (x2 / (10 : Int32)) / (100 : Int32) * (100 : Int32))))), (aMside, .inl (cI 0, 10, .inl mside)), (aMwas, .inl (cI 0, 30, .inl mwas))] := hD
        refine lv_iconst (v := 1) hx hb dX8_command_234 (by decide) ?_
        have ho := Option.some.inj hq
        subst ho
        exact hend _ _ _ _ (Or.inr rfl) hP hS dX8_command_235
      · have hq := kite_t c9 hq
        exact b_216  _ _ _ mtrial mside mwas hq hP hD hS (lv_sub hl [] rfl)
  have hq := kite_f c3 hq
  by_cases c4 : x1 = 5
  · have hq := kite_t c4 hq
    refine lv_tableIn (off := 197) (tgt := 236) hx hb dX8_command_39 (by rw [c4]; decide) (by rw [c4]; decide) (by rw [c4]; decide +kernel) (by decide) ?_
    refine lv_iload_n hx hb dX8_command_236 rfl (lv_at hl 7 rfl) ?_
    refine lv_if_ne (tgt := 254) hx hb dX8_command_237 (by decide) (fun c9 => ?_) (fun c9 => ?_)
    · have hq := kite_f c9 hq
      exact b_254  _ _ _ mtrial mside mwas hq hP hD hS (lv_sub hl [] rfl)
    · have hq := kite_t c9 hq
      refine lv_aload_n hx hb dX8_command_240 rfl (lv_at hl 5 rfl) ?_
      refine va_get (D := D) (ci := 7) (v := .ref aMtrial) (C := RX8) (T := TX8) (N := 13) hx hb hts iw_X8_command_X8 hown hK.1 hP 0 rfl rfl 4 (by decide) (hts (.fieldLink RX8 16 "PinDeckModel" "trial" "[I") (by decide +kernel)) (fun _ h9 => h9) rfl dX8_command_241 ?_
      obtain ⟨o244, ho244, hq⟩ := kbind hq
      refine kc_Si (av := [.ref aMtrial]) (rest := []) hF hK hG hA (mk_X8_beginOn l D cI aMtrial s.heap.size mtrial o244 ho244) (va_cwS 1 hts gX8_command_X8_beginOn rfl rfl rfl (by decide +kernel) ⟨Nat.le_of_ble_eq_true rfl, Nat.le_of_ble_eq_true rfl⟩) hP hD hS [1] (by decide) rfl rfl rfl hl.1 rfl (Nat.le_of_ble_eq_true rfl) ⟨Nat.zero_le _, Nat.zero_le _⟩ dX8_command_244 (fun H locs hP hD hS => ?_)
      have hP : va_P D vwCl [(aM, .inr (7, [.int mref, .ref aMtext, .int msize, .ref aMnow, .ref aMtrial, .ref aMdiary, .int macts, .ref aMkept, .ref aMisKept, .ref aMside, .ref aMwas, .int mspot, .int mout])), (aMtrial, .inl (cI 0, 79, .inl o244.2)), (aMside, .inl (cI 0, 10, .inl mside)), (aMwas, .inl (cI 0, 30, .inl mwas))] H := hP
      have hD : va_D A [(aM, .inr (7, [.int mref, .ref aMtext, .int msize, .ref aMnow, .ref aMtrial, .ref aMdiary, .int macts, .ref aMkept, .ref aMisKept, .ref aMside, .ref aMwas, .int mspot, .int mout])), (aMtrial, .inl (cI 0, 79, .inl o244.2)), (aMside, .inl (cI 0, 10, .inl mside)), (aMwas, .inl (cI 0, 30, .inl mwas))] := hD
      refine lv_if_lt (tgt := 254) hx hb dX8_command_247 (by decide) (fun c9 => ?_) (fun c9 => ?_)
      · have hq := kite_t c9 hq
        exact b_254  _ _ _ o244.2 mside mwas hq hP hD hS (lv_sub hl [] rfl)
      · have hq := kite_f c9 hq
        refine lv_iconst (v := 1) hx hb dX8_command_250 (by decide) ?_
        refine lv_goto (tgt := 255) hx hb dX8_command_251 (by decide) ?_
        exact b_255  _ _ _ o244.2 mside mwas (1 : Int32) hq hP hD hS (lv_sub hl [] rfl)
  have hq := kite_f c4 hq
  by_cases c5 : x1 = 6
  · have hq := kite_t c5 hq
    refine lv_tableIn (off := 217) (tgt := 256) hx hb dX8_command_39 (by rw [c5]; decide) (by rw [c5]; decide) (by rw [c5]; decide +kernel) (by decide) ?_
    refine lv_iload_n hx hb dX8_command_256 rfl (lv_at hl 7 rfl) ?_
    refine lv_bipush (v := 100) hx hb dX8_command_257 (by decide) ?_
    refine lv_icmp_ge (tgt := 277) hx hb dX8_command_259 (by decide) (fun c9 => ?_) (fun c9 => ?_)
    · have hq := kite_t c9 hq
      exact b_277  _ _ _ mtrial mside mwas hq hP hD hS (lv_sub hl [] rfl)
    · have hq := kite_f c9 hq
      refine lv_aload_n hx hb dX8_command_262 rfl (lv_at hl 5 rfl) ?_
      refine va_get (D := D) (ci := 7) (v := .ref aMtrial) (C := RX8) (T := TX8) (N := 13) hx hb hts iw_X8_command_X8 hown hK.1 hP 0 rfl rfl 4 (by decide) (hts (.fieldLink RX8 16 "PinDeckModel" "trial" "[I") (by decide +kernel)) (fun _ h9 => h9) rfl dX8_command_263 ?_
      obtain ⟨o266, ho266, hq⟩ := kbind hq
      refine kc_Si (av := [.ref aMtrial]) (rest := []) hF hK hG hA (mk_X8_toldOf l D cI aMtrial s.heap.size mtrial o266 ho266) (va_cwS 1 hts gX8_command_X8_toldOf rfl rfl rfl (by decide +kernel) ⟨Nat.le_of_ble_eq_true rfl, Nat.le_of_ble_eq_true rfl⟩) hP hD hS [1] (by decide) rfl rfl rfl hl.1 rfl (Nat.le_of_ble_eq_true rfl) ⟨Nat.zero_le _, Nat.zero_le _⟩ dX8_command_266 (fun H locs hP hD hS => ?_)
      have hP : va_P D vwCl [(aM, .inr (7, [.int mref, .ref aMtext, .int msize, .ref aMnow, .ref aMtrial, .ref aMdiary, .int macts, .ref aMkept, .ref aMisKept, .ref aMside, .ref aMwas, .int mspot, .int mout])), (aMtrial, .inl (cI 0, 79, .inl mtrial)), (aMside, .inl (cI 0, 10, .inl mside)), (aMwas, .inl (cI 0, 30, .inl mwas))] H := hP
      have hD : va_D A [(aM, .inr (7, [.int mref, .ref aMtext, .int msize, .ref aMnow, .ref aMtrial, .ref aMdiary, .int macts, .ref aMkept, .ref aMisKept, .ref aMside, .ref aMwas, .int mspot, .int mout])), (aMtrial, .inl (cI 0, 79, .inl mtrial)), (aMside, .inl (cI 0, 10, .inl mside)), (aMwas, .inl (cI 0, 30, .inl mwas))] := hD
      refine lv_iload_n hx hb dX8_command_269 rfl (lv_at hl 7 rfl) ?_
      refine lv_icmp_gt (tgt := 277) hx hb dX8_command_270 (by decide) (fun c9 => ?_) (fun c9 => ?_)
      · have hq := kite_t c9 hq
        exact b_277  _ _ _ mtrial mside mwas hq hP hD hS (lv_sub hl [] rfl)
      · have hq := kite_f c9 hq
        refine lv_iconst (v := 1) hx hb dX8_command_273 (by decide) ?_
        refine lv_goto (tgt := 278) hx hb dX8_command_274 (by decide) ?_
        exact b_278  _ _ _ mtrial mside mwas (1 : Int32) hq hP hD hS (lv_sub hl [] rfl)
  have hq := kite_f c5 hq
  by_cases c6 : x1 = 7
  · have hq := kite_t c6 hq
    refine lv_tableIn (off := 240) (tgt := 279) hx hb dX8_command_39 (by rw [c6]; decide) (by rw [c6]; decide) (by rw [c6]; decide +kernel) (by decide) ?_
    refine lv_iload hx hb dX8_command_279 (lv_at hl 0 rfl) ?_
    refine lv_if_ne (tgt := 307) hx hb dX8_command_281 (by decide) (fun c9 => ?_) (fun c9 => ?_)
    · have hq := kite_f c9 hq
      exact b_307  _ _ _ mtrial mside mwas hq hP hD hS (lv_sub hl [] rfl)
    · have hq := kite_t c9 hq
      refine lv_iload hx hb dX8_command_284 (lv_at hl 3 rfl) ?_
      refine lv_iconst (v := 4) hx hb dX8_command_286 (by decide) ?_
      refine lv_icmp_gt (tgt := 307) hx hb dX8_command_287 (by decide) (fun c9 => ?_) (fun c9 => ?_)
      · have hq := kite_t c9 hq
        exact b_307  _ _ _ mtrial mside mwas hq hP hD hS (lv_sub hl [] rfl)
      · have hq := kite_f c9 hq
        refine lv_aload_n hx hb dX8_command_290 rfl (lv_at hl 5 rfl) ?_
        refine va_get (D := D) (ci := 7) (v := .ref aMtrial) (C := RX8) (T := TX8) (N := 13) hx hb hts iw_X8_command_X8 hown hK.1 hP 0 rfl rfl 4 (by decide) (hts (.fieldLink RX8 16 "PinDeckModel" "trial" "[I") (by decide +kernel)) (fun _ h9 => h9) rfl dX8_command_291 ?_
        refine lv_iconst (v := 0) hx hb dX8_command_294 (by decide) ?_
        refine lv_iload_n hx hb dX8_command_295 rfl (lv_at hl 4 rfl) ?_
        refine lv_iadd hx hb dX8_command_296 ?_
        obtain ⟨hz, hq⟩ := kite_n hq
        refine k_iald (j := (((0 : Int32) + (x2 / (1000 : Int32))).toNatClampNeg)) hx hb hK.1 hP 1 0 rfl rfl hz rfl dX8_command_297 ?_
        refine lv_iload hx hb dX8_command_298 (lv_at hl 3 rfl) ?_
        refine lv_icmp_ne (tgt := 307) hx hb dX8_command_300 (by decide) (fun c9 => ?_) (fun c9 => ?_)
        · have hq := kite_f c9 hq
          exact b_307  _ _ _ mtrial mside mwas hq hP hD hS (lv_sub hl [] rfl)
        · have hq := kite_t c9 hq
          refine lv_iconst (v := 1) hx hb dX8_command_303 (by decide) ?_
          refine lv_goto (tgt := 308) hx hb dX8_command_304 (by decide) ?_
          exact b_308  _ _ _ mtrial mside mwas (1 : Int32) hq hP hD hS (lv_sub hl [] rfl)
  have hq := kite_f c6 hq
  by_cases c7 : x1 = 8
  · have hq := kite_t c7 hq
    refine lv_tableIn (off := 270) (tgt := 309) hx hb dX8_command_39 (by rw [c7]; decide) (by rw [c7]; decide) (by rw [c7]; decide +kernel) (by decide) ?_
    refine lv_iload_n hx hb dX8_command_309 rfl (lv_at hl 7 rfl) ?_
    refine lv_sipush (v := 1000) hx hb dX8_command_310 (by decide) ?_
    refine lv_icmp_ge (tgt := 331) hx hb dX8_command_313 (by decide) (fun c9 => ?_) (fun c9 => ?_)
    · have hq := kite_t c9 hq
      exact b_331  _ _ _ mtrial mside mwas hq hP hD hS (lv_sub hl [] rfl)
    · have hq := kite_f c9 hq
      refine lv_aload_n hx hb dX8_command_316 rfl (lv_at hl 5 rfl) ?_
      refine va_get (D := D) (ci := 7) (v := .ref aMtrial) (C := RX8) (T := TX8) (N := 13) hx hb hts iw_X8_command_X8 hown hK.1 hP 0 rfl rfl 4 (by decide) (hts (.fieldLink RX8 16 "PinDeckModel" "trial" "[I") (by decide +kernel)) (fun _ h9 => h9) rfl dX8_command_317 ?_
      obtain ⟨o320, ho320, hq⟩ := kbind hq
      refine kc_Si (av := [.ref aMtrial]) (rest := []) hF hK hG hA (mk_X8_points l D cI aMtrial s.heap.size mtrial o320 ho320) (va_cwS 1 hts gX8_command_X8_points rfl rfl rfl (by decide +kernel) ⟨Nat.le_of_ble_eq_true rfl, Nat.le_of_ble_eq_true rfl⟩) hP hD hS [1] (by decide) rfl rfl rfl hl.1 rfl (Nat.le_of_ble_eq_true rfl) ⟨Nat.zero_le _, Nat.zero_le _⟩ dX8_command_320 (fun H locs hP hD hS => ?_)
      have hP : va_P D vwCl [(aM, .inr (7, [.int mref, .ref aMtext, .int msize, .ref aMnow, .ref aMtrial, .ref aMdiary, .int macts, .ref aMkept, .ref aMisKept, .ref aMside, .ref aMwas, .int mspot, .int mout])), (aMtrial, .inl (cI 0, 79, .inl mtrial)), (aMside, .inl (cI 0, 10, .inl mside)), (aMwas, .inl (cI 0, 30, .inl mwas))] H := hP
      have hD : va_D A [(aM, .inr (7, [.int mref, .ref aMtext, .int msize, .ref aMnow, .ref aMtrial, .ref aMdiary, .int macts, .ref aMkept, .ref aMisKept, .ref aMside, .ref aMwas, .int mspot, .int mout])), (aMtrial, .inl (cI 0, 79, .inl mtrial)), (aMside, .inl (cI 0, 10, .inl mside)), (aMwas, .inl (cI 0, 30, .inl mwas))] := hD
      refine lv_iload_n hx hb dX8_command_323 rfl (lv_at hl 7 rfl) ?_
      refine lv_icmp_lt (tgt := 331) hx hb dX8_command_324 (by decide) (fun c9 => ?_) (fun c9 => ?_)
      · have hq := kite_t c9 hq
        exact b_331  _ _ _ mtrial mside mwas hq hP hD hS (lv_sub hl [] rfl)
      · have hq := kite_f c9 hq
        refine lv_iconst (v := 1) hx hb dX8_command_327 (by decide) ?_
        refine lv_goto (tgt := 332) hx hb dX8_command_328 (by decide) ?_
        exact b_332  _ _ _ mtrial mside mwas (1 : Int32) hq hP hD hS (lv_sub hl [] rfl)
  have hq := kite_f c7 hq
  by_cases c8 : x1 = 9
  · have hq := kite_t c8 hq
    refine lv_tableIn (off := 294) (tgt := 333) hx hb dX8_command_39 (by rw [c8]; decide) (by rw [c8]; decide) (by rw [c8]; decide +kernel) (by decide) ?_
    refine lv_iload_n hx hb dX8_command_333 rfl (lv_at hl 7 rfl) ?_
    refine lv_sipush (v := 1000) hx hb dX8_command_334 (by decide) ?_
    refine lv_irem hx hb dX8_command_337 (by decide) ?_
    refine lv_iconst (v := 3) hx hb dX8_command_338 (by decide) ?_
    refine lv_icmp_ge (tgt := 362) hx hb dX8_command_339 (by decide) (fun c9 => ?_) (fun c9 => ?_)
    · have hq := kite_t c9 hq
      exact b_362  _ _ _ mtrial mside mwas hq hP hD hS (lv_sub hl [] rfl)
    · have hq := kite_f c9 hq
      refine lv_aload_n hx hb dX8_command_342 rfl (lv_at hl 5 rfl) ?_
      refine va_get (D := D) (ci := 7) (v := .ref aMtrial) (C := RX8) (T := TX8) (N := 13) hx hb hts iw_X8_command_X8 hown hK.1 hP 0 rfl rfl 4 (by decide) (hts (.fieldLink RX8 16 "PinDeckModel" "trial" "[I") (by decide +kernel)) (fun _ h9 => h9) rfl dX8_command_343 ?_
      refine lv_iload_n hx hb dX8_command_346 rfl (lv_at hl 4 rfl) ?_
      obtain ⟨o347, ho347, hq⟩ := kbind hq
      refine kc_Si (av := [.ref aMtrial, .int (x2 / (1000 : Int32))]) (rest := []) hF hK hG hA (mk_X8_markOf l D cI aMtrial s.heap.size mtrial (x2 / (1000 : Int32)) o347 ho347) (va_cwS 2 hts gX8_command_X8_markOf rfl rfl rfl (by decide +kernel) ⟨Nat.le_of_ble_eq_true rfl, Nat.le_of_ble_eq_true rfl⟩) hP hD hS [1] (by decide) rfl rfl rfl hl.1 rfl (Nat.le_of_ble_eq_true rfl) ⟨Nat.zero_le _, Nat.zero_le _⟩ dX8_command_347 (fun H locs hP hD hS => ?_)
      have hP : va_P D vwCl [(aM, .inr (7, [.int mref, .ref aMtext, .int msize, .ref aMnow, .ref aMtrial, .ref aMdiary, .int macts, .ref aMkept, .ref aMisKept, .ref aMside, .ref aMwas, .int mspot, .int mout])), (aMtrial, .inl (cI 0, 79, .inl mtrial)), (aMside, .inl (cI 0, 10, .inl mside)), (aMwas, .inl (cI 0, 30, .inl mwas))] H := hP
      have hD : va_D A [(aM, .inr (7, [.int mref, .ref aMtext, .int msize, .ref aMnow, .ref aMtrial, .ref aMdiary, .int macts, .ref aMkept, .ref aMisKept, .ref aMside, .ref aMwas, .int mspot, .int mout])), (aMtrial, .inl (cI 0, 79, .inl mtrial)), (aMside, .inl (cI 0, 10, .inl mside)), (aMwas, .inl (cI 0, 30, .inl mwas))] := hD
      refine lv_iload_n hx hb dX8_command_350 rfl (lv_at hl 7 rfl) ?_
      refine lv_sipush (v := 1000) hx hb dX8_command_351 (by decide) ?_
      refine lv_irem hx hb dX8_command_354 (by decide) ?_
      refine lv_icmp_ne (tgt := 362) hx hb dX8_command_355 (by decide) (fun c9 => ?_) (fun c9 => ?_)
      · have hq := kite_f c9 hq
        exact b_362  _ _ _ mtrial mside mwas hq hP hD hS (lv_sub hl [] rfl)
      · have hq := kite_t c9 hq
        refine lv_iconst (v := 1) hx hb dX8_command_358 (by decide) ?_
        refine lv_goto (tgt := 363) hx hb dX8_command_359 (by decide) ?_
        exact b_363  _ _ _ mtrial mside mwas (1 : Int32) hq hP hD hS (lv_sub hl [] rfl)
  have hq := kite_f c8 hq
  have hsw : (x1).toInt < 1 ∨ 9 < (x1).toInt := by
    refine Decidable.byContradiction fun hn => ?_
    have h9 : (x1).toInt = 1 ∨ (x1).toInt = 2 ∨ (x1).toInt = 3 ∨ (x1).toInt = 4 ∨ (x1).toInt = 5 ∨ (x1).toInt = 6 ∨ (x1).toInt = 7 ∨ (x1).toInt = 8 ∨ (x1).toInt = 9 := by omega
    rcases h9 with h9 | h9 | h9 | h9 | h9 | h9 | h9 | h9 | h9
    · exact c0 (Int32.toInt_inj.mp (h9.trans (by decide)))
    · exact c1 (Int32.toInt_inj.mp (h9.trans (by decide)))
    · exact c2 (Int32.toInt_inj.mp (h9.trans (by decide)))
    · exact c3 (Int32.toInt_inj.mp (h9.trans (by decide)))
    · exact c4 (Int32.toInt_inj.mp (h9.trans (by decide)))
    · exact c5 (Int32.toInt_inj.mp (h9.trans (by decide)))
    · exact c6 (Int32.toInt_inj.mp (h9.trans (by decide)))
    · exact c7 (Int32.toInt_inj.mp (h9.trans (by decide)))
    · exact c8 (Int32.toInt_inj.mp (h9.trans (by decide)))
  refine lv_tableOut (tgt := 364) hx hb dX8_command_39 hsw (by decide) ?_
  refine lv_iconst (v := 0) hx hb dX8_command_364 (by decide) ?_
  have ho := Option.some.inj hq
  subst ho
  exact hend _ _ _ _ (Or.inl rfl) hP hS dX8_command_365

theorem iw_X8_runScript_X8 : ∀ w ∈ wsX80, w ∈ wsX8_runScript := by decide +kernel
set_option maxHeartbeats 4000000 in
set_option maxRecDepth 100000 in
theorem mk_X8_runScript (l : Launch) (D : va_G) (cI : Nat → ClassId) (aM aMtext aMnow aMtrial aMdiary aMkept aMisKept aMside aMwas : Nat) (sz : Nat) (mref : Int32) (msize : Int32) (macts : Int32) (mspot : Int32) (mout : Int32) (mnow : kF) (mtrial : kF) (mside : kF) (mwas : kF) (x1 : Int32) (x2 : Int64) (o : Int32 × Int32 × kF × kF × kF) (hq : fn_X8_runScript mref mnow mtrial mside mwas x1 x2 = some o) : Met l yX8_runScript wsX8_runScript ({ frames := 6, cells := 0, slots := 0, locals := 148 }) (kPc D cI [(aM, .inr (7, [.int mref, .ref aMtext, .int msize, .ref aMnow, .ref aMtrial, .ref aMdiary, .int macts, .ref aMkept, .ref aMisKept, .ref aMside, .ref aMwas, .int mspot, .int mout])), (aMnow, .inl (cI 0, 79, .inl mnow)), (aMtrial, .inl (cI 0, 79, .inl mtrial)), (aMside, .inl (cI 0, 10, .inl mside)), (aMwas, .inl (cI 0, 30, .inl mwas))] sz [.ref aM, .int x1, .long x2]) (kQi D [(aM, .inr (7, [.int mref, .ref aMtext, .int msize, .ref aMnow, .ref aMtrial, .ref aMdiary, .int macts, .ref aMkept, .ref aMisKept, .ref aMside, .ref aMwas, .int mspot, .int mout])), (aMnow, .inl (cI 0, 79, .inl mnow)), (aMtrial, .inl (cI 0, 79, .inl mtrial)), (aMside, .inl (cI 0, 10, .inl mside)), (aMwas, .inl (cI 0, 30, .inl mwas))] [(aM, .inr (7, [.int o.2.1, .ref aMtext, .int msize, .ref aMnow, .ref aMtrial, .ref aMdiary, .int macts, .ref aMkept, .ref aMisKept, .ref aMside, .ref aMwas, .int mspot, .int mout])), (aMnow, .inl (cI 0, 79, .inl mnow)), (aMtrial, .inl (cI 0, 79, .inl o.2.2.1)), (aMside, .inl (cI 0, 10, .inl o.2.2.2.1)), (aMwas, .inl (cI 0, 30, .inl o.2.2.2.2))] sz o.1) 0 0 (va_A [(aM, .inr (7, [.int mref, .ref aMtext, .int msize, .ref aMnow, .ref aMtrial, .ref aMdiary, .int macts, .ref aMkept, .ref aMisKept, .ref aMside, .ref aMwas, .int mspot, .int mout])), (aMnow, .inl (cI 0, 79, .inl mnow)), (aMtrial, .inl (cI 0, 79, .inl mtrial)), (aMside, .inl (cI 0, 10, .inl mside)), (aMwas, .inl (cI 0, 30, .inl mwas))] sz) := by
  refine kM_i (cc := cX8_runScript) (maxL := 8) (by decide +kernel) rfl (Nat.le_of_ble_eq_true rfl) ?_
  intro p e s m args below meth c A Q hF hK hG hD hA hend ls hP hS hl
  obtain ⟨hx, hb, hml, hown, hts⟩ := id hF
  have hl : lv_has ls 8 [(0, .ref aM), (1, .int x1), (2, .long x2)] := hl
  have b_86 : ∀ (q : Nat), ∀ (H : Heap) (locs : List Loc) (ls : Array Slot) (mref : Int32) (mtrial : kF) (mside : kF) (mwas : kF) (x1 : Int32) (x2 : Int64) (x4 : Int64) (x6 : Int32), fn_X8_runScript_86 q mref mnow mtrial mside mwas x1 x2 x4 x6 = some o → va_P D vwCl [(aM, .inr (7, [.int mref, .ref aMtext, .int msize, .ref aMnow, .ref aMtrial, .ref aMdiary, .int macts, .ref aMkept, .ref aMisKept, .ref aMside, .ref aMwas, .int mspot, .int mout])), (aMnow, .inl (cI 0, 79, .inl mnow)), (aMtrial, .inl (cI 0, 79, .inl mtrial)), (aMside, .inl (cI 0, 10, .inl mside)), (aMwas, .inl (cI 0, 30, .inl mwas))] H → va_D A [(aM, .inr (7, [.int mref, .ref aMtext, .int msize, .ref aMnow, .ref aMtrial, .ref aMdiary, .int macts, .ref aMkept, .ref aMisKept, .ref aMside, .ref aMwas, .int mspot, .int mout])), (aMnow, .inl (cI 0, 79, .inl mnow)), (aMtrial, .inl (cI 0, 79, .inl mtrial)), (aMside, .inl (cI 0, 10, .inl mside)), (aMwas, .inl (cI 0, 30, .inl mwas))] → va_S A s.heap H locs → lv_has ls 8 [(0, .ref aM), (1, .int x1), (2, .long x2), (4, .long x4), (6, .int x6)] → W p l e { frames := 6, cells := 0, slots := 0, locals := 148 } s m args below meth c H locs 0 0 Q (F0 m 86 ls []) := by
    intro q
    induction q with
    | zero =>
      intro H locs ls mref mtrial mside mwas x1 x2 x4 x6
      intro hq
      cases hq
    | succ q ih =>
      intro H locs ls mref mtrial mside mwas x1 x2 x4 x6
      intro hq hP hD hS hl
      refine lv_iload hx hb dX8_runScript_86 (lv_at hl 4 rfl) ?_
      refine lv_iload_n hx hb dX8_runScript_88 rfl (lv_at hl 1 rfl) ?_
      refine lv_icmp_ge (tgt := 139) hx hb dX8_runScript_89 (by decide) (fun c9 => ?_) (fun c9 => ?_)
      · have hq := kite_t c9 hq
        refine lv_iconst (v := (-1)) hx hb dX8_runScript_139 (by decide) ?_
        have ho := Option.some.inj hq
        subst ho
        exact hend _ _ _ _ hP hS dX8_runScript_140
      · have hq := kite_f c9 hq
        refine lv_lload hx hb dX8_runScript_92 (lv_at hl 3 rfl) ?_
        refine lv_ldc2 (v := 100000) hx hb hown (hts (.constantLong RX8 200 (100000 : Int64)) (by decide +kernel)) dX8_runScript_94 ?_
        refine lv_ldiv hx hb dX8_runScript_97 (by decide) ?_
        refine lv_lstore (lv' := [(4, .long (x4 / (100000 : Int64))), (0, .ref aM), (1, .int x1), (2, .long x2), (6, .int x6)]) hx hb dX8_runScript_98 hl (by decide) rfl (fun ls hl => ?_)
        refine lv_lload_n hx hb dX8_runScript_100 rfl (lv_at hl 3 rfl) ?_
        refine lv_lload hx hb dX8_runScript_101 (lv_at hl 0 rfl) ?_
        obtain ⟨hz, hq⟩ := kite_n hq
        refine lv_ldiv hx hb dX8_runScript_103 hz ?_
        refine lv_ldc2 (v := 100000) hx hb hown (hts (.constantLong RX8 200 (100000 : Int64)) (by decide +kernel)) dX8_runScript_104 ?_
        refine lv_lrem hx hb dX8_runScript_107 (by decide) ?_
        refine lv_l2i (v := (((x2 / (x4 / (100000 : Int64))) - (x2 / (x4 / (100000 : Int64))) / (100000 : Int64) * (100000 : Int64))).toInt32) hx hb dX8_runScript_108 rfl ?_
        refine lv_istore (lv' := [(7, .int ((((x2 / (x4 / (100000 : Int64))) - (x2 / (x4 / (100000 : Int64))) / (100000 : Int64) * (100000 : Int64))).toInt32)), (4, .long (x4 / (100000 : Int64))), (0, .ref aM), (1, .int x1), (2, .long x2), (6, .int x6)]) hx hb dX8_runScript_109 hl (by decide) rfl (fun ls hl => ?_)
        refine lv_aload_n hx hb dX8_runScript_111 rfl (lv_at hl 2 rfl) ?_
        refine lv_iload hx hb dX8_runScript_112 (lv_at hl 0 rfl) ?_
        refine lv_sipush (v := 10000) hx hb dX8_runScript_114 (by decide) ?_
        refine lv_idiv hx hb dX8_runScript_117 (by decide) ?_
        refine lv_iload hx hb dX8_runScript_118 (lv_at hl 0 rfl) ?_
        refine lv_sipush (v := 10000) hx hb dX8_runScript_120 (by decide) ?_
        refine lv_irem hx hb dX8_runScript_123 (by decide) ?_
        obtain ⟨o124, ho124, hq⟩ := kbind hq
        refine kc_Vi (av := [.int (((((x2 / (x4 / (100000 : Int64))) - (x2 / (x4 / (100000 : Int64))) / (100000 : Int64) * (100000 : Int64))).toInt32) / (10000 : Int32)), .int (((((x2 / (x4 / (100000 : Int64))) - (x2 / (x4 / (100000 : Int64))) / (100000 : Int64) * (100000 : Int64))).toInt32) - ((((x2 / (x4 / (100000 : Int64))) - (x2 / (x4 / (100000 : Int64))) / (100000 : Int64) * (100000 : Int64))).toInt32) / (10000 : Int32) * (10000 : Int32))]) (rest := []) hF hK hG hA (mk_X8_command l D cI aM aMtext aMnow aMtrial aMdiary aMkept aMisKept aMside aMwas H.size mref msize macts mspot mout mtrial mside mwas (((((x2 / (x4 / (100000 : Int64))) - (x2 / (x4 / (100000 : Int64))) / (100000 : Int64) * (100000 : Int64))).toInt32) / (10000 : Int32)) (((((x2 / (x4 / (100000 : Int64))) - (x2 / (x4 / (100000 : Int64))) / (100000 : Int64) * (100000 : Int64))).toInt32) - ((((x2 / (x4 / (100000 : Int64))) - (x2 / (x4 / (100000 : Int64))) / (100000 : Int64) * (100000 : Int64))).toInt32) / (10000 : Int32) * (10000 : Int32)) o124 ho124) (cwV 2 hts gX8_runScript_X8_command rfl rfl rfl (by decide +kernel) ⟨Nat.le_of_ble_eq_true rfl, Nat.le_of_ble_eq_true rfl⟩) hP hD hS [0, 2, 3, 4] (by decide) rfl rfl 0 rfl rfl rfl hl.1 rfl (Nat.le_of_ble_eq_true rfl) ⟨Nat.zero_le _, Nat.zero_le _⟩ dX8_runScript_124 (fun H locs hP hD hS => ?_)
        have hP : va_P D vwCl [(aM, .inr (7, [.int mref, .ref aMtext, .int msize, .ref aMnow, .ref aMtrial, .ref aMdiary, .int macts, .ref aMkept, .ref aMisKept, .ref aMside, .ref aMwas, .int mspot, .int mout])), (aMnow, .inl (cI 0, 79, .inl mnow)), (aMtrial, .inl (cI 0, 79, .inl o124.2.1)), (aMside, .inl (cI 0, 10, .inl o124.2.2.1)), (aMwas, .inl (cI 0, 30, .inl o124.2.2.2))] H := hP
        have hD : va_D A [(aM, .inr (7, [.int mref, .ref aMtext, .int msize, .ref aMnow, .ref aMtrial, .ref aMdiary, .int macts, .ref aMkept, .ref aMisKept, .ref aMside, .ref aMwas, .int mspot, .int mout])), (aMnow, .inl (cI 0, 79, .inl mnow)), (aMtrial, .inl (cI 0, 79, .inl o124.2.1)), (aMside, .inl (cI 0, 10, .inl o124.2.2.1)), (aMwas, .inl (cI 0, 30, .inl o124.2.2.2))] := hD
        refine lv_if_ne (tgt := 133) hx hb dX8_runScript_127 (by decide) (fun c9 => ?_) (fun c9 => ?_)
        · have hq := kite_f c9 hq
          refine lv_iinc (v := (x6 + 1)) (lv' := [(6, .int (x6 + 1)), (7, .int ((((x2 / (x4 / (100000 : Int64))) - (x2 / (x4 / (100000 : Int64))) / (100000 : Int64) * (100000 : Int64))).toInt32)), (4, .long (x4 / (100000 : Int64))), (0, .ref aM), (1, .int x1), (2, .long x2)]) hx hb dX8_runScript_133 hl (k := 5) rfl rfl (by decide) rfl (fun ls hl => ?_)
          refine lv_goto (tgt := 86) hx hb dX8_runScript_136 (by decide) ?_
          exact ih _ _ _ mref o124.2.1 o124.2.2.1 o124.2.2.2 x1 x2 (x4 / (100000 : Int64)) (x6 + 1) hq hP hD hS (lv_sub hl [3, 4, 5, 2, 0] rfl)
        · have hq := kite_t c9 hq
          refine lv_iload hx hb dX8_runScript_130 (lv_at hl 5 rfl) ?_
          have ho := Option.some.inj hq
          subst ho
          exact hend _ _ _ _ hP hS dX8_runScript_132
  have b_62 : ∀ (H : Heap) (locs : List Loc) (ls : Array Slot) (mref : Int32) (mtrial : kF) (mside : kF) (mwas : kF) (x1 : Int32) (x2 : Int64) (x4 : Int64) (k1 : Int32), fn_X8_runScript_62 mref mnow mtrial mside mwas x1 x2 x4 k1 = some o → va_P D vwCl [(aM, .inr (7, [.int mref, .ref aMtext, .int msize, .ref aMnow, .ref aMtrial, .ref aMdiary, .int macts, .ref aMkept, .ref aMisKept, .ref aMside, .ref aMwas, .int mspot, .int mout])), (aMnow, .inl (cI 0, 79, .inl mnow)), (aMtrial, .inl (cI 0, 79, .inl mtrial)), (aMside, .inl (cI 0, 10, .inl mside)), (aMwas, .inl (cI 0, 30, .inl mwas))] H → va_D A [(aM, .inr (7, [.int mref, .ref aMtext, .int msize, .ref aMnow, .ref aMtrial, .ref aMdiary, .int macts, .ref aMkept, .ref aMisKept, .ref aMside, .ref aMwas, .int mspot, .int mout])), (aMnow, .inl (cI 0, 79, .inl mnow)), (aMtrial, .inl (cI 0, 79, .inl mtrial)), (aMside, .inl (cI 0, 10, .inl mside)), (aMwas, .inl (cI 0, 30, .inl mwas))] → va_S A s.heap H locs → lv_has ls 8 [(0, .ref aM), (1, .int x1), (2, .long x2), (4, .long x4)] → W p l e { frames := 6, cells := 0, slots := 0, locals := 148 } s m args below meth c H locs 0 0 Q (F0 m 62 ls [.int k1, .ref aM]) := by
    intro H locs ls mref mtrial mside mwas x1 x2 x4 k1
    intro hq hP hD hS hl
    obtain ⟨o62, ho62, hq⟩ := kbind hq
    refine kc_Vi (av := [.int k1]) (rest := []) hF hK hG hA (mk_X8_refused l D cI aM aMtext aMnow aMtrial aMdiary aMkept aMisKept aMside aMwas H.size mref msize macts mspot mout k1 o62 ho62) (cwV 1 hts gX8_runScript_X8_refused rfl rfl rfl (by decide +kernel) ⟨Nat.le_of_ble_eq_true rfl, Nat.le_of_ble_eq_true rfl⟩) hP hD hS [0] (by decide) rfl rfl 0 rfl rfl rfl hl.1 rfl (Nat.le_of_ble_eq_true rfl) ⟨Nat.zero_le _, Nat.zero_le _⟩ dX8_runScript_62 (fun H locs hP hD hS => ?_)
    have hP : va_P D vwCl [(aM, .inr (7, [.int o62.2, .ref aMtext, .int msize, .ref aMnow, .ref aMtrial, .ref aMdiary, .int macts, .ref aMkept, .ref aMisKept, .ref aMside, .ref aMwas, .int mspot, .int mout])), (aMnow, .inl (cI 0, 79, .inl mnow)), (aMtrial, .inl (cI 0, 79, .inl mtrial)), (aMside, .inl (cI 0, 10, .inl mside)), (aMwas, .inl (cI 0, 30, .inl mwas))] H := hP
    have hD : va_D A [(aM, .inr (7, [.int o62.2, .ref aMtext, .int msize, .ref aMnow, .ref aMtrial, .ref aMdiary, .int macts, .ref aMkept, .ref aMisKept, .ref aMside, .ref aMwas, .int mspot, .int mout])), (aMnow, .inl (cI 0, 79, .inl mnow)), (aMtrial, .inl (cI 0, 79, .inl mtrial)), (aMside, .inl (cI 0, 10, .inl mside)), (aMwas, .inl (cI 0, 30, .inl mwas))] := hD
    refine lv_if_eq (tgt := 70) hx hb dX8_runScript_65 (by decide) (fun c9 => ?_) (fun c9 => ?_)
    · have hq := kite_t c9 hq
      refine lv_aload_n hx hb dX8_runScript_70 rfl (lv_at hl 0 rfl) ?_
      refine va_get (D := D) (ci := 7) (v := .ref aMnow) (C := RX8) (T := TX8) (N := 13) hx hb hts iw_X8_runScript_X8 hown hK.1 hP 0 rfl rfl 3 (by decide) (hts (.fieldLink RX8 13 "PinDeckModel" "now" "[I") (by decide +kernel)) (fun _ h9 => h9) rfl dX8_runScript_71 ?_
      refine lv_iconst (v := 0) hx hb dX8_runScript_74 (by decide) ?_
      refine lv_aload_n hx hb dX8_runScript_75 rfl (lv_at hl 0 rfl) ?_
      refine va_get (D := D) (ci := 7) (v := .ref aMtrial) (C := RX8) (T := TX8) (N := 13) hx hb hts iw_X8_runScript_X8 hown hK.1 hP 0 rfl rfl 4 (by decide) (hts (.fieldLink RX8 16 "PinDeckModel" "trial" "[I") (by decide +kernel)) (fun _ h9 => h9) rfl dX8_runScript_76 ?_
      refine lv_iconst (v := 0) hx hb dX8_runScript_79 (by decide) ?_
      obtain ⟨o80, ho80, hq⟩ := kbind hq
      refine kc_Sv (av := [.ref aMnow, .int (0 : Int32), .ref aMtrial, .int (0 : Int32)]) (rest := []) hF hK hG hA (mk_X8_copyState l D cI 79 79 aMnow aMtrial H.size mnow mtrial (0 : Int32) (0 : Int32) o80 ho80) (va_cwS 4 hts gX8_runScript_X8_copyState rfl rfl rfl (by decide +kernel) ⟨Nat.le_of_ble_eq_true rfl, Nat.le_of_ble_eq_true rfl⟩) hP hD hS [1, 2] (by decide) rfl rfl rfl hl.1 rfl (Nat.le_of_ble_eq_true rfl) ⟨Nat.zero_le _, Nat.zero_le _⟩ dX8_runScript_80 (fun H locs hP hD hS => ?_)
      have hP : va_P D vwCl [(aM, .inr (7, [.int o62.2, .ref aMtext, .int msize, .ref aMnow, .ref aMtrial, .ref aMdiary, .int macts, .ref aMkept, .ref aMisKept, .ref aMside, .ref aMwas, .int mspot, .int mout])), (aMnow, .inl (cI 0, 79, .inl mnow)), (aMtrial, .inl (cI 0, 79, .inl o80)), (aMside, .inl (cI 0, 10, .inl mside)), (aMwas, .inl (cI 0, 30, .inl mwas))] H := hP
      have hD : va_D A [(aM, .inr (7, [.int o62.2, .ref aMtext, .int msize, .ref aMnow, .ref aMtrial, .ref aMdiary, .int macts, .ref aMkept, .ref aMisKept, .ref aMside, .ref aMwas, .int mspot, .int mout])), (aMnow, .inl (cI 0, 79, .inl mnow)), (aMtrial, .inl (cI 0, 79, .inl o80)), (aMside, .inl (cI 0, 10, .inl mside)), (aMwas, .inl (cI 0, 30, .inl mwas))] := hD
      refine lv_iconst (v := 0) hx hb dX8_runScript_83 (by decide) ?_
      refine lv_istore (lv' := [(6, .int (0 : Int32)), (0, .ref aM), (1, .int x1), (2, .long x2), (4, .long x4)]) hx hb dX8_runScript_84 hl (by decide) rfl (fun ls hl => ?_)
      exact b_86 4096 _ _ _ o62.2 o80 mside mwas x1 x2 x4 (0 : Int32) hq hP hD hS (lv_sub hl [1, 2, 3, 4, 0] rfl)
    · have hq := kite_f c9 hq
      refine lv_iconst (v := 0) hx hb dX8_runScript_68 (by decide) ?_
      have ho := Option.some.inj hq
      subst ho
      exact hend _ _ _ _ hP hS dX8_runScript_69
  have b_61 : ∀ (H : Heap) (locs : List Loc) (ls : Array Slot) (mref : Int32) (mtrial : kF) (mside : kF) (mwas : kF) (x1 : Int32) (x2 : Int64) (x4 : Int64), fn_X8_runScript_61 mref mnow mtrial mside mwas x1 x2 x4 = some o → va_P D vwCl [(aM, .inr (7, [.int mref, .ref aMtext, .int msize, .ref aMnow, .ref aMtrial, .ref aMdiary, .int macts, .ref aMkept, .ref aMisKept, .ref aMside, .ref aMwas, .int mspot, .int mout])), (aMnow, .inl (cI 0, 79, .inl mnow)), (aMtrial, .inl (cI 0, 79, .inl mtrial)), (aMside, .inl (cI 0, 10, .inl mside)), (aMwas, .inl (cI 0, 30, .inl mwas))] H → va_D A [(aM, .inr (7, [.int mref, .ref aMtext, .int msize, .ref aMnow, .ref aMtrial, .ref aMdiary, .int macts, .ref aMkept, .ref aMisKept, .ref aMside, .ref aMwas, .int mspot, .int mout])), (aMnow, .inl (cI 0, 79, .inl mnow)), (aMtrial, .inl (cI 0, 79, .inl mtrial)), (aMside, .inl (cI 0, 10, .inl mside)), (aMwas, .inl (cI 0, 30, .inl mwas))] → va_S A s.heap H locs → lv_has ls 8 [(0, .ref aM), (1, .int x1), (2, .long x2), (4, .long x4)] → W p l e { frames := 6, cells := 0, slots := 0, locals := 148 } s m args below meth c H locs 0 0 Q (F0 m 61 ls [.ref aM]) := by
    intro H locs ls mref mtrial mside mwas x1 x2 x4
    intro hq hP hD hS hl
    refine lv_iconst (v := 1) hx hb dX8_runScript_61 (by decide) ?_
    exact b_62  _ _ _ mref mtrial mside mwas x1 x2 x4 (1 : Int32) hq hP hD hS (lv_sub hl [0, 1, 2, 3] rfl)
  have b_32 : ∀ (H : Heap) (locs : List Loc) (ls : Array Slot) (mref : Int32) (mtrial : kF) (mside : kF) (mwas : kF) (x1 : Int32) (x2 : Int64) (x4 : Int64), fn_X8_runScript_32 mref mnow mtrial mside mwas x1 x2 x4 = some o → va_P D vwCl [(aM, .inr (7, [.int mref, .ref aMtext, .int msize, .ref aMnow, .ref aMtrial, .ref aMdiary, .int macts, .ref aMkept, .ref aMisKept, .ref aMside, .ref aMwas, .int mspot, .int mout])), (aMnow, .inl (cI 0, 79, .inl mnow)), (aMtrial, .inl (cI 0, 79, .inl mtrial)), (aMside, .inl (cI 0, 10, .inl mside)), (aMwas, .inl (cI 0, 30, .inl mwas))] H → va_D A [(aM, .inr (7, [.int mref, .ref aMtext, .int msize, .ref aMnow, .ref aMtrial, .ref aMdiary, .int macts, .ref aMkept, .ref aMisKept, .ref aMside, .ref aMwas, .int mspot, .int mout])), (aMnow, .inl (cI 0, 79, .inl mnow)), (aMtrial, .inl (cI 0, 79, .inl mtrial)), (aMside, .inl (cI 0, 10, .inl mside)), (aMwas, .inl (cI 0, 30, .inl mwas))] → va_S A s.heap H locs → lv_has ls 8 [(0, .ref aM), (1, .int x1), (2, .long x2), (4, .long x4)] → W p l e { frames := 6, cells := 0, slots := 0, locals := 148 } s m args below meth c H locs 0 0 Q (F0 m 32 ls []) := by
    intro H locs ls mref mtrial mside mwas x1 x2 x4
    intro hq hP hD hS hl
    refine lv_aload_n hx hb dX8_runScript_32 rfl (lv_at hl 0 rfl) ?_
    refine lv_iload_n hx hb dX8_runScript_33 rfl (lv_at hl 1 rfl) ?_
    refine lv_i2l (v := (x1).toInt64) hx hb dX8_runScript_34 rfl ?_
    refine lv_lconst (v := 1) hx hb dX8_runScript_35 (by decide) ?_
    refine lv_ldc2 (v := 3) hx hb hown (hts (.constantLong RX8 71 (3 : Int64)) (by decide +kernel)) dX8_runScript_36 ?_
    obtain ⟨o39, ho39, hq⟩ := kbind hq
    refine kc_Si (av := [.long ((x1).toInt64), .long (1 : Int64), .long (3 : Int64)]) (rest := [.ref aM]) hF hK hG hA (mk_X8_in l D cI H.size ((x1).toInt64) (1 : Int64) (3 : Int64) o39 ho39) (va_cwS 3 hts gX8_runScript_X8_in rfl rfl rfl (by decide +kernel) ⟨Nat.le_of_ble_eq_true rfl, Nat.le_of_ble_eq_true rfl⟩) hP hD hS [] (by decide) rfl rfl rfl hl.1 rfl (Nat.le_of_ble_eq_true rfl) ⟨Nat.zero_le _, Nat.zero_le _⟩ dX8_runScript_39 (fun H locs hP hD hS => ?_)
    have hP : va_P D vwCl [(aM, .inr (7, [.int mref, .ref aMtext, .int msize, .ref aMnow, .ref aMtrial, .ref aMdiary, .int macts, .ref aMkept, .ref aMisKept, .ref aMside, .ref aMwas, .int mspot, .int mout])), (aMnow, .inl (cI 0, 79, .inl mnow)), (aMtrial, .inl (cI 0, 79, .inl mtrial)), (aMside, .inl (cI 0, 10, .inl mside)), (aMwas, .inl (cI 0, 30, .inl mwas))] H := hP
    have hD : va_D A [(aM, .inr (7, [.int mref, .ref aMtext, .int msize, .ref aMnow, .ref aMtrial, .ref aMdiary, .int macts, .ref aMkept, .ref aMisKept, .ref aMside, .ref aMwas, .int mspot, .int mout])), (aMnow, .inl (cI 0, 79, .inl mnow)), (aMtrial, .inl (cI 0, 79, .inl mtrial)), (aMside, .inl (cI 0, 10, .inl mside)), (aMwas, .inl (cI 0, 30, .inl mwas))] := hD
    refine lv_if_eq (tgt := 61) hx hb dX8_runScript_42 (by decide) (fun c9 => ?_) (fun c9 => ?_)
    · have hq := kite_t c9 hq
      exact b_61  _ _ _ mref mtrial mside mwas x1 x2 x4 hq hP hD hS (lv_sub hl [0, 1, 2, 3] rfl)
    · have hq := kite_f c9 hq
      refine lv_lload_n hx hb dX8_runScript_45 rfl (lv_at hl 2 rfl) ?_
      refine lv_lconst (v := 0) hx hb dX8_runScript_46 (by decide) ?_
      refine lv_lload hx hb dX8_runScript_47 (lv_at hl 3 rfl) ?_
      refine lv_lconst (v := 1) hx hb dX8_runScript_49 (by decide) ?_
      refine lv_lsub hx hb dX8_runScript_50 ?_
      obtain ⟨o51, ho51, hq⟩ := kbind hq
      refine kc_Si (av := [.long x2, .long (0 : Int64), .long (x4 - (1 : Int64))]) (rest := [.ref aM]) hF hK hG hA (mk_X8_in l D cI H.size x2 (0 : Int64) (x4 - (1 : Int64)) o51 ho51) (va_cwS 3 hts gX8_runScript_X8_in rfl rfl rfl (by decide +kernel) ⟨Nat.le_of_ble_eq_true rfl, Nat.le_of_ble_eq_true rfl⟩) hP hD hS [] (by decide) rfl rfl rfl hl.1 rfl (Nat.le_of_ble_eq_true rfl) ⟨Nat.zero_le _, Nat.zero_le _⟩ dX8_runScript_51 (fun H locs hP hD hS => ?_)
      have hP : va_P D vwCl [(aM, .inr (7, [.int mref, .ref aMtext, .int msize, .ref aMnow, .ref aMtrial, .ref aMdiary, .int macts, .ref aMkept, .ref aMisKept, .ref aMside, .ref aMwas, .int mspot, .int mout])), (aMnow, .inl (cI 0, 79, .inl mnow)), (aMtrial, .inl (cI 0, 79, .inl mtrial)), (aMside, .inl (cI 0, 10, .inl mside)), (aMwas, .inl (cI 0, 30, .inl mwas))] H := hP
      have hD : va_D A [(aM, .inr (7, [.int mref, .ref aMtext, .int msize, .ref aMnow, .ref aMtrial, .ref aMdiary, .int macts, .ref aMkept, .ref aMisKept, .ref aMside, .ref aMwas, .int mspot, .int mout])), (aMnow, .inl (cI 0, 79, .inl mnow)), (aMtrial, .inl (cI 0, 79, .inl mtrial)), (aMside, .inl (cI 0, 10, .inl mside)), (aMwas, .inl (cI 0, 30, .inl mwas))] := hD
      refine lv_if_eq (tgt := 61) hx hb dX8_runScript_54 (by decide) (fun c9 => ?_) (fun c9 => ?_)
      · have hq := kite_t c9 hq
        exact b_61  _ _ _ mref mtrial mside mwas x1 x2 x4 hq hP hD hS (lv_sub hl [0, 1, 2, 3] rfl)
      · have hq := kite_f c9 hq
        refine lv_iconst (v := 0) hx hb dX8_runScript_57 (by decide) ?_
        refine lv_goto (tgt := 62) hx hb dX8_runScript_58 (by decide) ?_
        exact b_62  _ _ _ mref mtrial mside mwas x1 x2 x4 (0 : Int32) hq hP hD hS (lv_sub hl [0, 1, 2, 3] rfl)
  have b_6 : ∀ (q : Nat), ∀ (H : Heap) (locs : List Loc) (ls : Array Slot) (mref : Int32) (mtrial : kF) (mside : kF) (mwas : kF) (x1 : Int32) (x2 : Int64) (x4 : Int64) (x6 : Int32), fn_X8_runScript_6 q mref mnow mtrial mside mwas x1 x2 x4 x6 = some o → va_P D vwCl [(aM, .inr (7, [.int mref, .ref aMtext, .int msize, .ref aMnow, .ref aMtrial, .ref aMdiary, .int macts, .ref aMkept, .ref aMisKept, .ref aMside, .ref aMwas, .int mspot, .int mout])), (aMnow, .inl (cI 0, 79, .inl mnow)), (aMtrial, .inl (cI 0, 79, .inl mtrial)), (aMside, .inl (cI 0, 10, .inl mside)), (aMwas, .inl (cI 0, 30, .inl mwas))] H → va_D A [(aM, .inr (7, [.int mref, .ref aMtext, .int msize, .ref aMnow, .ref aMtrial, .ref aMdiary, .int macts, .ref aMkept, .ref aMisKept, .ref aMside, .ref aMwas, .int mspot, .int mout])), (aMnow, .inl (cI 0, 79, .inl mnow)), (aMtrial, .inl (cI 0, 79, .inl mtrial)), (aMside, .inl (cI 0, 10, .inl mside)), (aMwas, .inl (cI 0, 30, .inl mwas))] → va_S A s.heap H locs → lv_has ls 8 [(0, .ref aM), (1, .int x1), (2, .long x2), (4, .long x4), (6, .int x6)] → W p l e { frames := 6, cells := 0, slots := 0, locals := 148 } s m args below meth c H locs 0 0 Q (F0 m 6 ls []) := by
    intro q
    induction q with
    | zero =>
      intro H locs ls mref mtrial mside mwas x1 x2 x4 x6
      intro hq
      cases hq
    | succ q ih =>
      intro H locs ls mref mtrial mside mwas x1 x2 x4 x6
      intro hq hP hD hS hl
      refine lv_iload hx hb dX8_runScript_6 (lv_at hl 4 rfl) ?_
      refine lv_iload_n hx hb dX8_runScript_8 rfl (lv_at hl 1 rfl) ?_
      refine lv_icmp_ge (tgt := 32) hx hb dX8_runScript_9 (by decide) (fun c9 => ?_) (fun c9 => ?_)
      · have hq := kite_t c9 hq
        exact b_32  _ _ _ mref mtrial mside mwas x1 x2 x4 hq hP hD hS (lv_sub hl [0, 1, 2, 3] rfl)
      · have hq := kite_f c9 hq
        refine lv_iload hx hb dX8_runScript_12 (lv_at hl 4 rfl) ?_
        refine lv_iconst (v := 3) hx hb dX8_runScript_14 (by decide) ?_
        refine lv_icmp_ge (tgt := 32) hx hb dX8_runScript_15 (by decide) (fun c9 => ?_) (fun c9 => ?_)
        · have hq := kite_t c9 hq
          exact b_32  _ _ _ mref mtrial mside mwas x1 x2 x4 hq hP hD hS (lv_sub hl [0, 1, 2, 3] rfl)
        · have hq := kite_f c9 hq
          refine lv_lload hx hb dX8_runScript_18 (lv_at hl 3 rfl) ?_
          refine lv_ldc2 (v := 100000) hx hb hown (hts (.constantLong RX8 200 (100000 : Int64)) (by decide +kernel)) dX8_runScript_20 ?_
          refine lv_lmul hx hb dX8_runScript_23 ?_
          refine lv_lstore (lv' := [(4, .long (x4 * (100000 : Int64))), (0, .ref aM), (1, .int x1), (2, .long x2), (6, .int x6)]) hx hb dX8_runScript_24 hl (by decide) rfl (fun ls hl => ?_)
          refine lv_iinc (v := (x6 + 1)) (lv' := [(6, .int (x6 + 1)), (4, .long (x4 * (100000 : Int64))), (0, .ref aM), (1, .int x1), (2, .long x2)]) hx hb dX8_runScript_26 hl (k := 4) rfl rfl (by decide) rfl (fun ls hl => ?_)
          refine lv_goto (tgt := 6) hx hb dX8_runScript_29 (by decide) ?_
          exact ih _ _ _ mref mtrial mside mwas x1 x2 (x4 * (100000 : Int64)) (x6 + 1) hq hP hD hS (lv_sub hl [2, 3, 4, 1, 0] rfl)
  refine lv_lconst (v := 1) hx hb dX8_runScript_0 (by decide) ?_
  refine lv_lstore (lv' := [(4, .long (1 : Int64)), (0, .ref aM), (1, .int x1), (2, .long x2)]) hx hb dX8_runScript_1 hl (by decide) rfl (fun ls hl => ?_)
  refine lv_iconst (v := 0) hx hb dX8_runScript_3 (by decide) ?_
  refine lv_istore (lv' := [(6, .int (0 : Int32)), (4, .long (1 : Int64)), (0, .ref aM), (1, .int x1), (2, .long x2)]) hx hb dX8_runScript_4 hl (by decide) rfl (fun ls hl => ?_)
  exact b_6 4096 _ _ _ mref mtrial mside mwas x1 x2 (1 : Int64) (0 : Int32) hq hP hD hS (lv_sub hl [2, 3, 4, 1, 0] rfl)

theorem iw_X8_turn_X8 : ∀ w ∈ wsX80, w ∈ wsX8_turn := by decide +kernel
set_option maxHeartbeats 4000000 in
set_option maxRecDepth 100000 in
theorem mk_X8_turn (l : Launch) (D : va_G) (cI : Nat → ClassId) (aM aMtext aMnow aMtrial aMdiary aMkept aMisKept aMside aMwas : Nat) (sz : Nat) (mref : Int32) (msize : Int32) (macts : Int32) (mspot : Int32) (mout : Int32) (mtrial : kF) (mside : kF) (mwas : kF) (x1 : Int32) (o : kF × kF × kF) (hq : fn_X8_turn mtrial mside mwas x1 = some o) : Met l yX8_turn wsX8_turn ({ frames := 6, cells := 0, slots := 0, locals := 146 }) (kPc D cI [(aM, .inr (7, [.int mref, .ref aMtext, .int msize, .ref aMnow, .ref aMtrial, .ref aMdiary, .int macts, .ref aMkept, .ref aMisKept, .ref aMside, .ref aMwas, .int mspot, .int mout])), (aMtrial, .inl (cI 0, 79, .inl mtrial)), (aMside, .inl (cI 0, 10, .inl mside)), (aMwas, .inl (cI 0, 30, .inl mwas))] sz [.ref aM, .int x1]) (kQv D [(aM, .inr (7, [.int mref, .ref aMtext, .int msize, .ref aMnow, .ref aMtrial, .ref aMdiary, .int macts, .ref aMkept, .ref aMisKept, .ref aMside, .ref aMwas, .int mspot, .int mout])), (aMtrial, .inl (cI 0, 79, .inl mtrial)), (aMside, .inl (cI 0, 10, .inl mside)), (aMwas, .inl (cI 0, 30, .inl mwas))] [(aM, .inr (7, [.int mref, .ref aMtext, .int msize, .ref aMnow, .ref aMtrial, .ref aMdiary, .int macts, .ref aMkept, .ref aMisKept, .ref aMside, .ref aMwas, .int mspot, .int mout])), (aMtrial, .inl (cI 0, 79, .inl o.1)), (aMside, .inl (cI 0, 10, .inl o.2.1)), (aMwas, .inl (cI 0, 30, .inl o.2.2))] sz) 0 0 (va_A [(aM, .inr (7, [.int mref, .ref aMtext, .int msize, .ref aMnow, .ref aMtrial, .ref aMdiary, .int macts, .ref aMkept, .ref aMisKept, .ref aMside, .ref aMwas, .int mspot, .int mout])), (aMtrial, .inl (cI 0, 79, .inl mtrial)), (aMside, .inl (cI 0, 10, .inl mside)), (aMwas, .inl (cI 0, 30, .inl mwas))] sz) := by
  refine kM_v (cc := cX8_turn) (maxL := 4) (by decide +kernel) rfl (Nat.le_of_ble_eq_true rfl) ?_
  intro p e s m args below meth c A Q hF hK hG hD hA hend ls hP hS hl
  obtain ⟨hx, hb, hml, hown, hts⟩ := id hF
  have hl : lv_has ls 4 [(0, .ref aM), (1, .int x1)] := hl
  have b_134 : ∀ (H : Heap) (locs : List Loc) (ls : Array Slot) (mtrial : kF) (mside : kF) (mwas : kF), fn_X8_turn_134 mtrial mside mwas = some o → va_P D vwCl [(aM, .inr (7, [.int mref, .ref aMtext, .int msize, .ref aMnow, .ref aMtrial, .ref aMdiary, .int macts, .ref aMkept, .ref aMisKept, .ref aMside, .ref aMwas, .int mspot, .int mout])), (aMtrial, .inl (cI 0, 79, .inl mtrial)), (aMside, .inl (cI 0, 10, .inl mside)), (aMwas, .inl (cI 0, 30, .inl mwas))] H → va_D A [(aM, .inr (7, [.int mref, .ref aMtext, .int msize, .ref aMnow, .ref aMtrial, .ref aMdiary, .int macts, .ref aMkept, .ref aMisKept, .ref aMside, .ref aMwas, .int mspot, .int mout])), (aMtrial, .inl (cI 0, 79, .inl mtrial)), (aMside, .inl (cI 0, 10, .inl mside)), (aMwas, .inl (cI 0, 30, .inl mwas))] → va_S A s.heap H locs → lv_has ls 4 [] → W p l e { frames := 6, cells := 0, slots := 0, locals := 146 } s m args below meth c H locs 0 0 Q (F0 m 134 ls []) := by
    intro H locs ls mtrial mside mwas
    intro hq hP hD hS hl
    have ho := Option.some.inj hq
    subst ho
    exact hend _ _ _ _ hP hS dX8_turn_134
  have b_130 : ∀ (H : Heap) (locs : List Loc) (ls : Array Slot) (mtrial : kF) (mside : kF) (mwas : kF) (k2 : Int32) (k3 : Int32) (k4 : Int32) (k5 : Int32), fn_X8_turn_130 mtrial mside mwas k2 k3 k4 k5 = some o → va_P D vwCl [(aM, .inr (7, [.int mref, .ref aMtext, .int msize, .ref aMnow, .ref aMtrial, .ref aMdiary, .int macts, .ref aMkept, .ref aMisKept, .ref aMside, .ref aMwas, .int mspot, .int mout])), (aMtrial, .inl (cI 0, 79, .inl mtrial)), (aMside, .inl (cI 0, 10, .inl mside)), (aMwas, .inl (cI 0, 30, .inl mwas))] H → va_D A [(aM, .inr (7, [.int mref, .ref aMtext, .int msize, .ref aMnow, .ref aMtrial, .ref aMdiary, .int macts, .ref aMkept, .ref aMisKept, .ref aMside, .ref aMwas, .int mspot, .int mout])), (aMtrial, .inl (cI 0, 79, .inl mtrial)), (aMside, .inl (cI 0, 10, .inl mside)), (aMwas, .inl (cI 0, 30, .inl mwas))] → va_S A s.heap H locs → lv_has ls 4 [] → W p l e { frames := 6, cells := 0, slots := 0, locals := 146 } s m args below meth c H locs 0 0 Q (F0 m 130 ls [.int k5, .int k4, .int k3, .int k2, .ref aMtrial, .ref aM]) := by
    intro H locs ls mtrial mside mwas k2 k3 k4 k5
    intro hq hP hD hS hl
    obtain ⟨o130, ho130, hq⟩ := kbind hq
    refine kc_Vi (av := [.ref aMtrial, .int k2, .int k3, .int k4, .int k5]) (rest := []) hF hK hG hA (mk_X8_throwOn l D cI aM aMtext aMnow aMtrial aMdiary aMkept aMisKept aMside aMwas aMtrial H.size mref msize macts mspot mout mside mwas mtrial k2 k3 k4 k5 o130 ho130) (cwV 5 hts gX8_turn_X8_throwOn rfl rfl rfl (by decide +kernel) ⟨Nat.le_of_ble_eq_true rfl, Nat.le_of_ble_eq_true rfl⟩) hP hD hS [0, 2, 3, 1] (by decide) rfl rfl 0 rfl rfl rfl hl.1 rfl (Nat.le_of_ble_eq_true rfl) ⟨Nat.zero_le _, Nat.zero_le _⟩ dX8_turn_130 (fun H locs hP hD hS => ?_)
    have hP : va_P D vwCl [(aM, .inr (7, [.int mref, .ref aMtext, .int msize, .ref aMnow, .ref aMtrial, .ref aMdiary, .int macts, .ref aMkept, .ref aMisKept, .ref aMside, .ref aMwas, .int mspot, .int mout])), (aMtrial, .inl (cI 0, 79, .inl o130.2.2.2)), (aMside, .inl (cI 0, 10, .inl o130.2.1)), (aMwas, .inl (cI 0, 30, .inl o130.2.2.1))] H := hP
    have hD : va_D A [(aM, .inr (7, [.int mref, .ref aMtext, .int msize, .ref aMnow, .ref aMtrial, .ref aMdiary, .int macts, .ref aMkept, .ref aMisKept, .ref aMside, .ref aMwas, .int mspot, .int mout])), (aMtrial, .inl (cI 0, 79, .inl o130.2.2.2)), (aMside, .inl (cI 0, 10, .inl o130.2.1)), (aMwas, .inl (cI 0, 30, .inl o130.2.2.1))] := hD
    refine lv_pop hx hb dX8_turn_133 rfl ?_
    exact b_134  _ _ _ o130.2.2.2 o130.2.1 o130.2.2.1 hq hP hD hS (lv_sub hl [] rfl)
  have b_71 : ∀ (H : Heap) (locs : List Loc) (ls : Array Slot) (mtrial : kF) (mside : kF) (mwas : kF), fn_X8_turn_71 mtrial mside mwas = some o → va_P D vwCl [(aM, .inr (7, [.int mref, .ref aMtext, .int msize, .ref aMnow, .ref aMtrial, .ref aMdiary, .int macts, .ref aMkept, .ref aMisKept, .ref aMside, .ref aMwas, .int mspot, .int mout])), (aMtrial, .inl (cI 0, 79, .inl mtrial)), (aMside, .inl (cI 0, 10, .inl mside)), (aMwas, .inl (cI 0, 30, .inl mwas))] H → va_D A [(aM, .inr (7, [.int mref, .ref aMtext, .int msize, .ref aMnow, .ref aMtrial, .ref aMdiary, .int macts, .ref aMkept, .ref aMisKept, .ref aMside, .ref aMwas, .int mspot, .int mout])), (aMtrial, .inl (cI 0, 79, .inl mtrial)), (aMside, .inl (cI 0, 10, .inl mside)), (aMwas, .inl (cI 0, 30, .inl mwas))] → va_S A s.heap H locs → lv_has ls 4 [] → W p l e { frames := 6, cells := 0, slots := 0, locals := 146 } s m args below meth c H locs 0 0 Q (F0 m 71 ls []) := by
    intro H locs ls mtrial mside mwas
    intro hq hP hD hS hl
    refine lv_goto (tgt := 134) hx hb dX8_turn_71 (by decide) ?_
    exact b_134  _ _ _ mtrial mside mwas hq hP hD hS (lv_sub hl [] rfl)
  refine lv_iload_n hx hb dX8_turn_0 rfl (lv_at hl 1 rfl) ?_
  refine lv_bipush (v := 8) hx hb dX8_turn_1 (by decide) ?_
  refine lv_idiv hx hb dX8_turn_3 (by decide) ?_
  refine lv_istore_n (lv' := [(2, .int (x1 / (8 : Int32))), (0, .ref aM), (1, .int x1)]) hx hb dX8_turn_4 rfl hl (by decide) rfl (fun ls hl => ?_)
  refine lv_iload_n hx hb dX8_turn_5 rfl (lv_at hl 2 rfl) ?_
  refine lv_bipush (v := 8) hx hb dX8_turn_6 (by decide) ?_
  refine lv_irem hx hb dX8_turn_8 (by decide) ?_
  refine lv_istore_n (lv' := [(3, .int (x1 - x1 / (8 : Int32) * (8 : Int32))), (2, .int (x1 / (8 : Int32))), (0, .ref aM), (1, .int x1)]) hx hb dX8_turn_9 rfl hl (by decide) rfl (fun ls hl => ?_)
  refine lv_iload_n hx hb dX8_turn_10 rfl (lv_at hl 0 rfl) ?_
  refine lv_if_ne (tgt := 50) hx hb dX8_turn_11 (by decide) (fun c9 => ?_) (fun c9 => ?_)
  · have hq := kite_f c9 hq
    refine lv_iload_n hx hb dX8_turn_50 rfl (lv_at hl 0 rfl) ?_
    refine lv_iconst (v := 1) hx hb dX8_turn_51 (by decide) ?_
    refine lv_icmp_ne (tgt := 74) hx hb dX8_turn_52 (by decide) (fun c9 => ?_) (fun c9 => ?_)
    · have hq := kite_f c9 hq
      refine lv_aload_n hx hb dX8_turn_74 rfl (lv_at hl 2 rfl) ?_
      refine va_get (D := D) (ci := 7) (v := .ref aMtrial) (C := RX8) (T := TX8) (N := 13) hx hb hts iw_X8_turn_X8 hown hK.1 hP 0 rfl rfl 4 (by decide) (hts (.fieldLink RX8 16 "PinDeckModel" "trial" "[I") (by decide +kernel)) (fun _ h9 => h9) rfl dX8_turn_75 ?_
      obtain ⟨o78, ho78, hq⟩ := kbind hq
      refine kc_Si (av := [.ref aMtrial]) (rest := []) hF hK hG hA (mk_X8_isOver l D cI aMtrial s.heap.size mtrial o78 ho78) (va_cwS 1 hts gX8_turn_X8_isOver rfl rfl rfl (by decide +kernel) ⟨Nat.le_of_ble_eq_true rfl, Nat.le_of_ble_eq_true rfl⟩) hP hD hS [1] (by decide) rfl rfl rfl hl.1 rfl (Nat.le_of_ble_eq_true rfl) ⟨Nat.zero_le _, Nat.zero_le _⟩ dX8_turn_78 (fun H locs hP hD hS => ?_)
      have hP : va_P D vwCl [(aM, .inr (7, [.int mref, .ref aMtext, .int msize, .ref aMnow, .ref aMtrial, .ref aMdiary, .int macts, .ref aMkept, .ref aMisKept, .ref aMside, .ref aMwas, .int mspot, .int mout])), (aMtrial, .inl (cI 0, 79, .inl mtrial)), (aMside, .inl (cI 0, 10, .inl mside)), (aMwas, .inl (cI 0, 30, .inl mwas))] H := hP
      have hD : va_D A [(aM, .inr (7, [.int mref, .ref aMtext, .int msize, .ref aMnow, .ref aMtrial, .ref aMdiary, .int macts, .ref aMkept, .ref aMisKept, .ref aMside, .ref aMwas, .int mspot, .int mout])), (aMtrial, .inl (cI 0, 79, .inl mtrial)), (aMside, .inl (cI 0, 10, .inl mside)), (aMwas, .inl (cI 0, 30, .inl mwas))] := hD
      refine lv_if_ne (tgt := 134) hx hb dX8_turn_81 (by decide) (fun c9 => ?_) (fun c9 => ?_)
      · have hq := kite_f c9 hq
        exact b_134  _ _ _ mtrial mside mwas hq hP hD hS (lv_sub hl [] rfl)
      · have hq := kite_t c9 hq
        refine lv_aload_n hx hb dX8_turn_84 rfl (lv_at hl 2 rfl) ?_
        refine lv_aload_n hx hb dX8_turn_85 rfl (lv_at hl 2 rfl) ?_
        refine va_get (D := D) (ci := 7) (v := .ref aMtrial) (C := RX8) (T := TX8) (N := 13) hx hb hts iw_X8_turn_X8 hown hK.1 hP 0 rfl rfl 4 (by decide) (hts (.fieldLink RX8 16 "PinDeckModel" "trial" "[I") (by decide +kernel)) (fun _ h9 => h9) rfl dX8_turn_86 ?_
        refine lv_bipush (v := 10) hx hb dX8_turn_89 (by decide) ?_
        refine lv_iload_n hx hb dX8_turn_91 rfl (lv_at hl 1 rfl) ?_
        refine lv_bipush (v := 21) hx hb dX8_turn_92 (by decide) ?_
        refine lv_irem hx hb dX8_turn_94 (by decide) ?_
        refine lv_iadd hx hb dX8_turn_95 ?_
        refine lv_iload_n hx hb dX8_turn_96 rfl (lv_at hl 1 rfl) ?_
        refine lv_bipush (v := 32) hx hb dX8_turn_97 (by decide) ?_
        refine lv_idiv hx hb dX8_turn_99 (by decide) ?_
        refine lv_iconst (v := 5) hx hb dX8_turn_100 (by decide) ?_
        refine lv_irem hx hb dX8_turn_101 (by decide) ?_
        refine lv_iconst (v := 2) hx hb dX8_turn_102 (by decide) ?_
        refine lv_isub hx hb dX8_turn_103 ?_
        refine lv_iconst (v := 1) hx hb dX8_turn_104 (by decide) ?_
        refine lv_iload_n hx hb dX8_turn_105 rfl (lv_at hl 1 rfl) ?_
        refine lv_sipush (v := 256) hx hb dX8_turn_106 (by decide) ?_
        refine lv_idiv hx hb dX8_turn_109 (by decide) ?_
        refine lv_bipush (v := 30) hx hb dX8_turn_110 (by decide) ?_
        refine lv_irem hx hb dX8_turn_112 (by decide) ?_
        refine lv_iadd hx hb dX8_turn_113 ?_
        refine lv_iload_n hx hb dX8_turn_114 rfl (lv_at hl 1 rfl) ?_
        refine lv_sipush (v := 8192) hx hb dX8_turn_115 (by decide) ?_
        refine lv_idiv hx hb dX8_turn_118 (by decide) ?_
        refine lv_bipush (v := 16) hx hb dX8_turn_119 (by decide) ?_
        refine lv_irem hx hb dX8_turn_121 (by decide) ?_
        refine lv_if_ne (tgt := 129) hx hb dX8_turn_122 (by decide) (fun c9 => ?_) (fun c9 => ?_)
        · have hq := kite_f c9 hq
          refine lv_iconst (v := 0) hx hb dX8_turn_129 (by decide) ?_
          exact b_130  _ _ _ mtrial mside mwas ((10 : Int32) + ((x1 / (8 : Int32)) - (x1 / (8 : Int32)) / (21 : Int32) * (21 : Int32))) ((((x1 / (8 : Int32)) / (32 : Int32)) - ((x1 / (8 : Int32)) / (32 : Int32)) / (5 : Int32) * (5 : Int32)) - (2 : Int32)) ((1 : Int32) + (((x1 / (8 : Int32)) / (256 : Int32)) - ((x1 / (8 : Int32)) / (256 : Int32)) / (30 : Int32) * (30 : Int32))) (0 : Int32) hq hP hD hS (lv_sub hl [] rfl)
        · have hq := kite_t c9 hq
          refine lv_iconst (v := 1) hx hb dX8_turn_125 (by decide) ?_
          refine lv_goto (tgt := 130) hx hb dX8_turn_126 (by decide) ?_
          exact b_130  _ _ _ mtrial mside mwas ((10 : Int32) + ((x1 / (8 : Int32)) - (x1 / (8 : Int32)) / (21 : Int32) * (21 : Int32))) ((((x1 / (8 : Int32)) / (32 : Int32)) - ((x1 / (8 : Int32)) / (32 : Int32)) / (5 : Int32) * (5 : Int32)) - (2 : Int32)) ((1 : Int32) + (((x1 / (8 : Int32)) / (256 : Int32)) - ((x1 / (8 : Int32)) / (256 : Int32)) / (30 : Int32) * (30 : Int32))) (1 : Int32) hq hP hD hS (lv_sub hl [] rfl)
    · have hq := kite_t c9 hq
      refine lv_aload_n hx hb dX8_turn_55 rfl (lv_at hl 2 rfl) ?_
      refine va_get (D := D) (ci := 7) (v := .ref aMtrial) (C := RX8) (T := TX8) (N := 13) hx hb hts iw_X8_turn_X8 hown hK.1 hP 0 rfl rfl 4 (by decide) (hts (.fieldLink RX8 16 "PinDeckModel" "trial" "[I") (by decide +kernel)) (fun _ h9 => h9) rfl dX8_turn_56 ?_
      refine lv_bipush (v := 77) hx hb dX8_turn_59 (by decide) ?_
      refine lv_iload_n hx hb dX8_turn_61 rfl (lv_at hl 1 rfl) ?_
      refine lv_iconst (v := 2) hx hb dX8_turn_62 (by decide) ?_
      refine lv_irem hx hb dX8_turn_63 (by decide) ?_
      refine lv_iadd hx hb dX8_turn_64 ?_
      refine lv_iload_n hx hb dX8_turn_65 rfl (lv_at hl 1 rfl) ?_
      refine lv_iconst (v := 2) hx hb dX8_turn_66 (by decide) ?_
      refine lv_idiv hx hb dX8_turn_67 (by decide) ?_
      refine lv_iconst (v := 4) hx hb dX8_turn_68 (by decide) ?_
      refine lv_irem hx hb dX8_turn_69 (by decide) ?_
      obtain ⟨hz, hq⟩ := kite_n hq
      refine k_iast (j := (((77 : Int32) + ((x1 / (8 : Int32)) - (x1 / (8 : Int32)) / (2 : Int32) * (2 : Int32))).toNatClampNeg)) hx hb hK.1 hP hD hS 1 0 rfl rfl hz rfl dX8_turn_70 (fun H locs hP hD hS => ?_)
      have hP : va_P D vwCl [(aM, .inr (7, [.int mref, .ref aMtext, .int msize, .ref aMnow, .ref aMtrial, .ref aMdiary, .int macts, .ref aMkept, .ref aMisKept, .ref aMside, .ref aMwas, .int mspot, .int mout])), (aMtrial, .inl (cI 0, 79, .inl (upd mtrial (((77 : Int32) + ((x1 / (8 : Int32)) - (x1 / (8 : Int32)) / (2 : Int32) * (2 : Int32))).toNatClampNeg) (((x1 / (8 : Int32)) / (2 : Int32)) - ((x1 / (8 : Int32)) / (2 : Int32)) / (4 : Int32) * (4 : Int32))))), (aMside, .inl (cI 0, 10, .inl mside)), (aMwas, .inl (cI 0, 30, .inl mwas))] H := hP
      have hD : va_D A [(aM, .inr (7, [.int mref, .ref aMtext, .int msize, .ref aMnow, .ref aMtrial, .ref aMdiary, .int macts, .ref aMkept, .ref aMisKept, .ref aMside, .ref aMwas, .int mspot, .int mout])), (aMtrial, .inl (cI 0, 79, .inl (upd mtrial (((77 : Int32) + ((x1 / (8 : Int32)) - (x1 / (8 : Int32)) / (2 : Int32) * (2 : Int32))).toNatClampNeg) (((x1 / (8 : Int32)) / (2 : Int32)) - ((x1 / (8 : Int32)) / (2 : Int32)) / (4 : Int32) * (4 : Int32))))), (aMside, .inl (cI 0, 10, .inl mside)), (aMwas, .inl (cI 0, 30, .inl mwas))] := hD
      exact b_71  _ _ _ (upd mtrial (((77 : Int32) + ((x1 / (8 : Int32)) - (x1 / (8 : Int32)) / (2 : Int32) * (2 : Int32))).toNatClampNeg) (((x1 / (8 : Int32)) / (2 : Int32)) - ((x1 / (8 : Int32)) / (2 : Int32)) / (4 : Int32) * (4 : Int32))) mside mwas hq hP hD hS (lv_sub hl [] rfl)
  · have hq := kite_t c9 hq
    refine lv_aload_n hx hb dX8_turn_14 rfl (lv_at hl 2 rfl) ?_
    refine va_get (D := D) (ci := 7) (v := .ref aMtrial) (C := RX8) (T := TX8) (N := 13) hx hb hts iw_X8_turn_X8 hown hK.1 hP 0 rfl rfl 4 (by decide) (hts (.fieldLink RX8 16 "PinDeckModel" "trial" "[I") (by decide +kernel)) (fun _ h9 => h9) rfl dX8_turn_15 ?_
    refine lv_iconst (v := 0) hx hb dX8_turn_18 (by decide) ?_
    refine lv_iload_n hx hb dX8_turn_19 rfl (lv_at hl 1 rfl) ?_
    refine lv_bipush (v := 10) hx hb dX8_turn_20 (by decide) ?_
    refine lv_irem hx hb dX8_turn_22 (by decide) ?_
    refine lv_iadd hx hb dX8_turn_23 ?_
    obtain ⟨hz, hq⟩ := kite_n hq
    refine k_iald (j := (((0 : Int32) + ((x1 / (8 : Int32)) - (x1 / (8 : Int32)) / (10 : Int32) * (10 : Int32))).toNatClampNeg)) hx hb hK.1 hP 1 0 rfl rfl hz rfl dX8_turn_24 ?_
    refine lv_iconst (v := 4) hx hb dX8_turn_25 (by decide) ?_
    refine lv_icmp_eq (tgt := 134) hx hb dX8_turn_26 (by decide) (fun c9 => ?_) (fun c9 => ?_)
    · have hq := kite_t c9 hq
      exact b_134  _ _ _ mtrial mside mwas hq hP hD hS (lv_sub hl [] rfl)
    · have hq := kite_f c9 hq
      refine lv_aload_n hx hb dX8_turn_29 rfl (lv_at hl 2 rfl) ?_
      refine va_get (D := D) (ci := 7) (v := .ref aMtrial) (C := RX8) (T := TX8) (N := 13) hx hb hts iw_X8_turn_X8 hown hK.1 hP 0 rfl rfl 4 (by decide) (hts (.fieldLink RX8 16 "PinDeckModel" "trial" "[I") (by decide +kernel)) (fun _ h9 => h9) rfl dX8_turn_30 ?_
      refine lv_iload_n hx hb dX8_turn_33 rfl (lv_at hl 1 rfl) ?_
      refine lv_bipush (v := 10) hx hb dX8_turn_34 (by decide) ?_
      refine lv_irem hx hb dX8_turn_36 (by decide) ?_
      refine lv_iload_n hx hb dX8_turn_37 rfl (lv_at hl 1 rfl) ?_
      refine lv_bipush (v := 16) hx hb dX8_turn_38 (by decide) ?_
      refine lv_idiv hx hb dX8_turn_40 (by decide) ?_
      refine lv_iconst (v := 4) hx hb dX8_turn_41 (by decide) ?_
      refine lv_irem hx hb dX8_turn_42 (by decide) ?_
      obtain ⟨o43, ho43, hq⟩ := kbind hq
      refine kc_Si (av := [.ref aMtrial, .int ((x1 / (8 : Int32)) - (x1 / (8 : Int32)) / (10 : Int32) * (10 : Int32)), .int (((x1 / (8 : Int32)) / (16 : Int32)) - ((x1 / (8 : Int32)) / (16 : Int32)) / (4 : Int32) * (4 : Int32))]) (rest := []) hF hK hG hA (mk_X8_touchOn l D cI aMtrial s.heap.size mtrial ((x1 / (8 : Int32)) - (x1 / (8 : Int32)) / (10 : Int32) * (10 : Int32)) (((x1 / (8 : Int32)) / (16 : Int32)) - ((x1 / (8 : Int32)) / (16 : Int32)) / (4 : Int32) * (4 : Int32)) o43 ho43) (va_cwS 3 hts gX8_turn_X8_touchOn rfl rfl rfl (by decide +kernel) ⟨Nat.le_of_ble_eq_true rfl, Nat.le_of_ble_eq_true rfl⟩) hP hD hS [1] (by decide) rfl rfl rfl hl.1 rfl (Nat.le_of_ble_eq_true rfl) ⟨Nat.zero_le _, Nat.zero_le _⟩ dX8_turn_43 (fun H locs hP hD hS => ?_)
      have hP : va_P D vwCl [(aM, .inr (7, [.int mref, .ref aMtext, .int msize, .ref aMnow, .ref aMtrial, .ref aMdiary, .int macts, .ref aMkept, .ref aMisKept, .ref aMside, .ref aMwas, .int mspot, .int mout])), (aMtrial, .inl (cI 0, 79, .inl o43.2)), (aMside, .inl (cI 0, 10, .inl mside)), (aMwas, .inl (cI 0, 30, .inl mwas))] H := hP
      have hD : va_D A [(aM, .inr (7, [.int mref, .ref aMtext, .int msize, .ref aMnow, .ref aMtrial, .ref aMdiary, .int macts, .ref aMkept, .ref aMisKept, .ref aMside, .ref aMwas, .int mspot, .int mout])), (aMtrial, .inl (cI 0, 79, .inl o43.2)), (aMside, .inl (cI 0, 10, .inl mside)), (aMwas, .inl (cI 0, 30, .inl mwas))] := hD
      refine lv_pop hx hb dX8_turn_46 rfl ?_
      refine lv_goto (tgt := 134) hx hb dX8_turn_47 (by decide) ?_
      exact b_134  _ _ _ o43.2 mside mwas hq hP hD hS (lv_sub hl [] rfl)

theorem iw_X8_simulate_X8 : ∀ w ∈ wsX80, w ∈ wsX8_simulate := by decide +kernel
set_option maxHeartbeats 4000000 in
set_option maxRecDepth 100000 in
theorem mk_X8_simulate (l : Launch) (D : va_G) (cI : Nat → ClassId) (aM aMtext aMnow aMtrial aMdiary aMkept aMisKept aMside aMwas : Nat) (sz : Nat) (mref : Int32) (msize : Int32) (macts : Int32) (mspot : Int32) (mout : Int32) (mnow : kF) (mtrial : kF) (mside : kF) (mwas : kF) (x1 : Int64) (x3 : Int32) (o : Int32 × Int32 × kF × kF × kF) (hq : fn_X8_simulate mref mnow mtrial mside mwas x1 x3 = some o) : Met l yX8_simulate wsX8_simulate ({ frames := 7, cells := 0, slots := 0, locals := 169 }) (kPc D cI [(aM, .inr (7, [.int mref, .ref aMtext, .int msize, .ref aMnow, .ref aMtrial, .ref aMdiary, .int macts, .ref aMkept, .ref aMisKept, .ref aMside, .ref aMwas, .int mspot, .int mout])), (aMnow, .inl (cI 0, 79, .inl mnow)), (aMtrial, .inl (cI 0, 79, .inl mtrial)), (aMside, .inl (cI 0, 10, .inl mside)), (aMwas, .inl (cI 0, 30, .inl mwas))] sz [.ref aM, .long x1, .int x3]) (kQi D [(aM, .inr (7, [.int mref, .ref aMtext, .int msize, .ref aMnow, .ref aMtrial, .ref aMdiary, .int macts, .ref aMkept, .ref aMisKept, .ref aMside, .ref aMwas, .int mspot, .int mout])), (aMnow, .inl (cI 0, 79, .inl mnow)), (aMtrial, .inl (cI 0, 79, .inl mtrial)), (aMside, .inl (cI 0, 10, .inl mside)), (aMwas, .inl (cI 0, 30, .inl mwas))] [(aM, .inr (7, [.int o.2.1, .ref aMtext, .int msize, .ref aMnow, .ref aMtrial, .ref aMdiary, .int macts, .ref aMkept, .ref aMisKept, .ref aMside, .ref aMwas, .int mspot, .int mout])), (aMnow, .inl (cI 0, 79, .inl mnow)), (aMtrial, .inl (cI 0, 79, .inl o.2.2.1)), (aMside, .inl (cI 0, 10, .inl o.2.2.2.1)), (aMwas, .inl (cI 0, 30, .inl o.2.2.2.2))] sz o.1) 0 0 (va_A [(aM, .inr (7, [.int mref, .ref aMtext, .int msize, .ref aMnow, .ref aMtrial, .ref aMdiary, .int macts, .ref aMkept, .ref aMisKept, .ref aMside, .ref aMwas, .int mspot, .int mout])), (aMnow, .inl (cI 0, 79, .inl mnow)), (aMtrial, .inl (cI 0, 79, .inl mtrial)), (aMside, .inl (cI 0, 10, .inl mside)), (aMwas, .inl (cI 0, 30, .inl mwas))] sz) := by
  refine kM_i (cc := cX8_simulate) (maxL := 7) (by decide +kernel) rfl (Nat.le_of_ble_eq_true rfl) ?_
  intro p e s m args below meth c A Q hF hK hG hD hA hend ls hP hS hl
  obtain ⟨hx, hb, hml, hown, hts⟩ := id hF
  have hl : lv_has ls 7 [(0, .ref aM), (1, .long x1), (3, .int x3)] := hl
  have b_45 : ∀ (q : Nat), ∀ (H : Heap) (locs : List Loc) (ls : Array Slot) (mref : Int32) (mtrial : kF) (mside : kF) (mwas : kF) (x3 : Int32) (x4 : Int64) (x6 : Int32), fn_X8_simulate_45 q mref mnow mtrial mside mwas x3 x4 x6 = some o → va_P D vwCl [(aM, .inr (7, [.int mref, .ref aMtext, .int msize, .ref aMnow, .ref aMtrial, .ref aMdiary, .int macts, .ref aMkept, .ref aMisKept, .ref aMside, .ref aMwas, .int mspot, .int mout])), (aMnow, .inl (cI 0, 79, .inl mnow)), (aMtrial, .inl (cI 0, 79, .inl mtrial)), (aMside, .inl (cI 0, 10, .inl mside)), (aMwas, .inl (cI 0, 30, .inl mwas))] H → va_D A [(aM, .inr (7, [.int mref, .ref aMtext, .int msize, .ref aMnow, .ref aMtrial, .ref aMdiary, .int macts, .ref aMkept, .ref aMisKept, .ref aMside, .ref aMwas, .int mspot, .int mout])), (aMnow, .inl (cI 0, 79, .inl mnow)), (aMtrial, .inl (cI 0, 79, .inl mtrial)), (aMside, .inl (cI 0, 10, .inl mside)), (aMwas, .inl (cI 0, 30, .inl mwas))] → va_S A s.heap H locs → lv_has ls 7 [(0, .ref aM), (3, .int x3), (4, .long x4), (6, .int x6)] → W p l e { frames := 7, cells := 0, slots := 0, locals := 169 } s m args below meth c H locs 0 0 Q (F0 m 45 ls []) := by
    intro q
    induction q with
    | zero =>
      intro H locs ls mref mtrial mside mwas x3 x4 x6
      intro hq
      cases hq
    | succ q ih =>
      intro H locs ls mref mtrial mside mwas x3 x4 x6
      intro hq hP hD hS hl
      refine lv_iload hx hb dX8_simulate_45 (lv_at hl 3 rfl) ?_
      refine lv_iload_n hx hb dX8_simulate_47 rfl (lv_at hl 1 rfl) ?_
      refine lv_icmp_ge (tgt := 79) hx hb dX8_simulate_48 (by decide) (fun c9 => ?_) (fun c9 => ?_)
      · have hq := kite_t c9 hq
        refine lv_sipush (v := 1000) hx hb dX8_simulate_79 (by decide) ?_
        refine lv_aload_n hx hb dX8_simulate_82 rfl (lv_at hl 0 rfl) ?_
        refine va_get (D := D) (ci := 7) (v := .ref aMtrial) (C := RX8) (T := TX8) (N := 13) hx hb hts iw_X8_simulate_X8 hown hK.1 hP 0 rfl rfl 4 (by decide) (hts (.fieldLink RX8 16 "PinDeckModel" "trial" "[I") (by decide +kernel)) (fun _ h9 => h9) rfl dX8_simulate_83 ?_
        refine lv_bipush (v := 51) hx hb dX8_simulate_86 (by decide) ?_
        refine k_iald (j := 51) hx hb hK.1 hP 2 0 rfl rfl (by decide) (by decide) dX8_simulate_88 ?_
        refine lv_imul hx hb dX8_simulate_89 ?_
        refine lv_aload_n hx hb dX8_simulate_90 rfl (lv_at hl 0 rfl) ?_
        refine va_get (D := D) (ci := 7) (v := .ref aMtrial) (C := RX8) (T := TX8) (N := 13) hx hb hts iw_X8_simulate_X8 hown hK.1 hP 0 rfl rfl 4 (by decide) (hts (.fieldLink RX8 16 "PinDeckModel" "trial" "[I") (by decide +kernel)) (fun _ h9 => h9) rfl dX8_simulate_91 ?_
        obtain ⟨o94, ho94, hq⟩ := kbind hq
        refine kc_Si (av := [.ref aMtrial]) (rest := [.int ((1000 : Int32) * (mtrial 51))]) hF hK hG hA (mk_X8_points l D cI aMtrial H.size mtrial o94 ho94) (va_cwS 1 hts gX8_simulate_X8_points rfl rfl rfl (by decide +kernel) ⟨Nat.le_of_ble_eq_true rfl, Nat.le_of_ble_eq_true rfl⟩) hP hD hS [2] (by decide) rfl rfl rfl hl.1 rfl (Nat.le_of_ble_eq_true rfl) ⟨Nat.zero_le _, Nat.zero_le _⟩ dX8_simulate_94 (fun H locs hP hD hS => ?_)
        have hP : va_P D vwCl [(aM, .inr (7, [.int mref, .ref aMtext, .int msize, .ref aMnow, .ref aMtrial, .ref aMdiary, .int macts, .ref aMkept, .ref aMisKept, .ref aMside, .ref aMwas, .int mspot, .int mout])), (aMnow, .inl (cI 0, 79, .inl mnow)), (aMtrial, .inl (cI 0, 79, .inl mtrial)), (aMside, .inl (cI 0, 10, .inl mside)), (aMwas, .inl (cI 0, 30, .inl mwas))] H := hP
        have hD : va_D A [(aM, .inr (7, [.int mref, .ref aMtext, .int msize, .ref aMnow, .ref aMtrial, .ref aMdiary, .int macts, .ref aMkept, .ref aMisKept, .ref aMside, .ref aMwas, .int mspot, .int mout])), (aMnow, .inl (cI 0, 79, .inl mnow)), (aMtrial, .inl (cI 0, 79, .inl mtrial)), (aMside, .inl (cI 0, 10, .inl mside)), (aMwas, .inl (cI 0, 30, .inl mwas))] := hD
        refine lv_iadd hx hb dX8_simulate_97 ?_
        have ho := Option.some.inj hq
        subst ho
        exact hend _ _ _ _ hP hS dX8_simulate_98
      · have hq := kite_f c9 hq
        refine lv_lload hx hb dX8_simulate_51 (lv_at hl 2 rfl) ?_
        refine lv_ldc2 (v := 6364136223846793005) hx hb hown (hts (.constantLong RX8 207 (6364136223846793005 : Int64)) (by decide +kernel)) dX8_simulate_53 ?_
        refine lv_lmul hx hb dX8_simulate_56 ?_
        refine lv_ldc2 (v := 1442695040888963407) hx hb hown (hts (.constantLong RX8 209 (1442695040888963407 : Int64)) (by decide +kernel)) dX8_simulate_57 ?_
        refine lv_ladd hx hb dX8_simulate_60 ?_
        refine lv_lstore (lv' := [(4, .long ((x4 * (6364136223846793005 : Int64)) + (1442695040888963407 : Int64))), (0, .ref aM), (3, .int x3), (6, .int x6)]) hx hb dX8_simulate_61 hl (by decide) rfl (fun ls hl => ?_)
        refine lv_aload_n hx hb dX8_simulate_63 rfl (lv_at hl 1 rfl) ?_
        refine lv_lload hx hb dX8_simulate_64 (lv_at hl 0 rfl) ?_
        refine lv_bipush (v := 33) hx hb dX8_simulate_66 (by decide) ?_
        refine lv_lushr (v := ((((x4 * (6364136223846793005 : Int64)) + (1442695040888963407 : Int64))).toUInt64 >>> (((33 : Int32)).toInt64.toUInt64 &&& Int64.toUInt64 63)).toInt64) hx hb dX8_simulate_68 rfl ?_
        refine lv_l2i (v := ((((((x4 * (6364136223846793005 : Int64)) + (1442695040888963407 : Int64))).toUInt64 >>> (((33 : Int32)).toInt64.toUInt64 &&& Int64.toUInt64 63)).toInt64)).toInt32) hx hb dX8_simulate_69 rfl ?_
        obtain ⟨o70, ho70, hq⟩ := kbind hq
        refine kc_Vv (av := [.int (((((((x4 * (6364136223846793005 : Int64)) + (1442695040888963407 : Int64))).toUInt64 >>> (((33 : Int32)).toInt64.toUInt64 &&& Int64.toUInt64 63)).toInt64)).toInt32)]) (rest := []) hF hK hG hA (mk_X8_turn l D cI aM aMtext aMnow aMtrial aMdiary aMkept aMisKept aMside aMwas H.size mref msize macts mspot mout mtrial mside mwas (((((((x4 * (6364136223846793005 : Int64)) + (1442695040888963407 : Int64))).toUInt64 >>> (((33 : Int32)).toInt64.toUInt64 &&& Int64.toUInt64 63)).toInt64)).toInt32) o70 ho70) (cwV 1 hts gX8_simulate_X8_turn rfl rfl rfl (by decide +kernel) ⟨Nat.le_of_ble_eq_true rfl, Nat.le_of_ble_eq_true rfl⟩) hP hD hS [0, 2, 3, 4] (by decide) rfl rfl 0 rfl rfl rfl hl.1 rfl (Nat.le_of_ble_eq_true rfl) ⟨Nat.zero_le _, Nat.zero_le _⟩ dX8_simulate_70 (fun H locs hP hD hS => ?_)
        have hP : va_P D vwCl [(aM, .inr (7, [.int mref, .ref aMtext, .int msize, .ref aMnow, .ref aMtrial, .ref aMdiary, .int macts, .ref aMkept, .ref aMisKept, .ref aMside, .ref aMwas, .int mspot, .int mout])), (aMnow, .inl (cI 0, 79, .inl mnow)), (aMtrial, .inl (cI 0, 79, .inl o70.1)), (aMside, .inl (cI 0, 10, .inl o70.2.1)), (aMwas, .inl (cI 0, 30, .inl o70.2.2))] H := hP
        have hD : va_D A [(aM, .inr (7, [.int mref, .ref aMtext, .int msize, .ref aMnow, .ref aMtrial, .ref aMdiary, .int macts, .ref aMkept, .ref aMisKept, .ref aMside, .ref aMwas, .int mspot, .int mout])), (aMnow, .inl (cI 0, 79, .inl mnow)), (aMtrial, .inl (cI 0, 79, .inl o70.1)), (aMside, .inl (cI 0, 10, .inl o70.2.1)), (aMwas, .inl (cI 0, 30, .inl o70.2.2))] := hD
        refine lv_iinc (v := (x6 + 1)) (lv' := [(6, .int (x6 + 1)), (4, .long ((x4 * (6364136223846793005 : Int64)) + (1442695040888963407 : Int64))), (0, .ref aM), (3, .int x3)]) hx hb dX8_simulate_73 hl (k := 3) rfl rfl (by decide) rfl (fun ls hl => ?_)
        refine lv_goto (tgt := 45) hx hb dX8_simulate_76 (by decide) ?_
        exact ih _ _ _ mref o70.1 o70.2.1 o70.2.2 x3 ((x4 * (6364136223846793005 : Int64)) + (1442695040888963407 : Int64)) (x6 + 1) hq hP hD hS (lv_sub hl [2, 3, 1, 0] rfl)
  have b_18 : ∀ (H : Heap) (locs : List Loc) (ls : Array Slot) (mref : Int32) (mtrial : kF) (mside : kF) (mwas : kF) (x1 : Int64) (x3 : Int32) (k1 : Int32), fn_X8_simulate_18 mref mnow mtrial mside mwas x1 x3 k1 = some o → va_P D vwCl [(aM, .inr (7, [.int mref, .ref aMtext, .int msize, .ref aMnow, .ref aMtrial, .ref aMdiary, .int macts, .ref aMkept, .ref aMisKept, .ref aMside, .ref aMwas, .int mspot, .int mout])), (aMnow, .inl (cI 0, 79, .inl mnow)), (aMtrial, .inl (cI 0, 79, .inl mtrial)), (aMside, .inl (cI 0, 10, .inl mside)), (aMwas, .inl (cI 0, 30, .inl mwas))] H → va_D A [(aM, .inr (7, [.int mref, .ref aMtext, .int msize, .ref aMnow, .ref aMtrial, .ref aMdiary, .int macts, .ref aMkept, .ref aMisKept, .ref aMside, .ref aMwas, .int mspot, .int mout])), (aMnow, .inl (cI 0, 79, .inl mnow)), (aMtrial, .inl (cI 0, 79, .inl mtrial)), (aMside, .inl (cI 0, 10, .inl mside)), (aMwas, .inl (cI 0, 30, .inl mwas))] → va_S A s.heap H locs → lv_has ls 7 [(0, .ref aM), (1, .long x1), (3, .int x3)] → W p l e { frames := 7, cells := 0, slots := 0, locals := 169 } s m args below meth c H locs 0 0 Q (F0 m 18 ls [.int k1, .ref aM]) := by
    intro H locs ls mref mtrial mside mwas x1 x3 k1
    intro hq hP hD hS hl
    obtain ⟨o18, ho18, hq⟩ := kbind hq
    refine kc_Vi (av := [.int k1]) (rest := []) hF hK hG hA (mk_X8_refused l D cI aM aMtext aMnow aMtrial aMdiary aMkept aMisKept aMside aMwas H.size mref msize macts mspot mout k1 o18 ho18) (cwV 1 hts gX8_simulate_X8_refused rfl rfl rfl (by decide +kernel) ⟨Nat.le_of_ble_eq_true rfl, Nat.le_of_ble_eq_true rfl⟩) hP hD hS [0] (by decide) rfl rfl 0 rfl rfl rfl hl.1 rfl (Nat.le_of_ble_eq_true rfl) ⟨Nat.zero_le _, Nat.zero_le _⟩ dX8_simulate_18 (fun H locs hP hD hS => ?_)
    have hP : va_P D vwCl [(aM, .inr (7, [.int o18.2, .ref aMtext, .int msize, .ref aMnow, .ref aMtrial, .ref aMdiary, .int macts, .ref aMkept, .ref aMisKept, .ref aMside, .ref aMwas, .int mspot, .int mout])), (aMnow, .inl (cI 0, 79, .inl mnow)), (aMtrial, .inl (cI 0, 79, .inl mtrial)), (aMside, .inl (cI 0, 10, .inl mside)), (aMwas, .inl (cI 0, 30, .inl mwas))] H := hP
    have hD : va_D A [(aM, .inr (7, [.int o18.2, .ref aMtext, .int msize, .ref aMnow, .ref aMtrial, .ref aMdiary, .int macts, .ref aMkept, .ref aMisKept, .ref aMside, .ref aMwas, .int mspot, .int mout])), (aMnow, .inl (cI 0, 79, .inl mnow)), (aMtrial, .inl (cI 0, 79, .inl mtrial)), (aMside, .inl (cI 0, 10, .inl mside)), (aMwas, .inl (cI 0, 30, .inl mwas))] := hD
    refine lv_if_eq (tgt := 26) hx hb dX8_simulate_21 (by decide) (fun c9 => ?_) (fun c9 => ?_)
    · have hq := kite_t c9 hq
      refine lv_aload_n hx hb dX8_simulate_26 rfl (lv_at hl 0 rfl) ?_
      refine va_get (D := D) (ci := 7) (v := .ref aMnow) (C := RX8) (T := TX8) (N := 13) hx hb hts iw_X8_simulate_X8 hown hK.1 hP 0 rfl rfl 3 (by decide) (hts (.fieldLink RX8 13 "PinDeckModel" "now" "[I") (by decide +kernel)) (fun _ h9 => h9) rfl dX8_simulate_27 ?_
      refine lv_iconst (v := 0) hx hb dX8_simulate_30 (by decide) ?_
      refine lv_aload_n hx hb dX8_simulate_31 rfl (lv_at hl 0 rfl) ?_
      refine va_get (D := D) (ci := 7) (v := .ref aMtrial) (C := RX8) (T := TX8) (N := 13) hx hb hts iw_X8_simulate_X8 hown hK.1 hP 0 rfl rfl 4 (by decide) (hts (.fieldLink RX8 16 "PinDeckModel" "trial" "[I") (by decide +kernel)) (fun _ h9 => h9) rfl dX8_simulate_32 ?_
      refine lv_iconst (v := 0) hx hb dX8_simulate_35 (by decide) ?_
      obtain ⟨o36, ho36, hq⟩ := kbind hq
      refine kc_Sv (av := [.ref aMnow, .int (0 : Int32), .ref aMtrial, .int (0 : Int32)]) (rest := []) hF hK hG hA (mk_X8_copyState l D cI 79 79 aMnow aMtrial H.size mnow mtrial (0 : Int32) (0 : Int32) o36 ho36) (va_cwS 4 hts gX8_simulate_X8_copyState rfl rfl rfl (by decide +kernel) ⟨Nat.le_of_ble_eq_true rfl, Nat.le_of_ble_eq_true rfl⟩) hP hD hS [1, 2] (by decide) rfl rfl rfl hl.1 rfl (Nat.le_of_ble_eq_true rfl) ⟨Nat.zero_le _, Nat.zero_le _⟩ dX8_simulate_36 (fun H locs hP hD hS => ?_)
      have hP : va_P D vwCl [(aM, .inr (7, [.int o18.2, .ref aMtext, .int msize, .ref aMnow, .ref aMtrial, .ref aMdiary, .int macts, .ref aMkept, .ref aMisKept, .ref aMside, .ref aMwas, .int mspot, .int mout])), (aMnow, .inl (cI 0, 79, .inl mnow)), (aMtrial, .inl (cI 0, 79, .inl o36)), (aMside, .inl (cI 0, 10, .inl mside)), (aMwas, .inl (cI 0, 30, .inl mwas))] H := hP
      have hD : va_D A [(aM, .inr (7, [.int o18.2, .ref aMtext, .int msize, .ref aMnow, .ref aMtrial, .ref aMdiary, .int macts, .ref aMkept, .ref aMisKept, .ref aMside, .ref aMwas, .int mspot, .int mout])), (aMnow, .inl (cI 0, 79, .inl mnow)), (aMtrial, .inl (cI 0, 79, .inl o36)), (aMside, .inl (cI 0, 10, .inl mside)), (aMwas, .inl (cI 0, 30, .inl mwas))] := hD
      refine lv_lload_n hx hb dX8_simulate_39 rfl (lv_at hl 1 rfl) ?_
      refine lv_lstore (lv' := [(4, .long x1), (0, .ref aM), (1, .long x1), (3, .int x3)]) hx hb dX8_simulate_40 hl (by decide) rfl (fun ls hl => ?_)
      refine lv_iconst (v := 0) hx hb dX8_simulate_42 (by decide) ?_
      refine lv_istore (lv' := [(6, .int (0 : Int32)), (4, .long x1), (0, .ref aM), (1, .long x1), (3, .int x3)]) hx hb dX8_simulate_43 hl (by decide) rfl (fun ls hl => ?_)
      exact b_45 4096 _ _ _ o18.2 o36 mside mwas x3 x1 (0 : Int32) hq hP hD hS (lv_sub hl [2, 4, 1, 0] rfl)
    · have hq := kite_f c9 hq
      refine lv_iconst (v := 0) hx hb dX8_simulate_24 (by decide) ?_
      have ho := Option.some.inj hq
      subst ho
      exact hend _ _ _ _ hP hS dX8_simulate_25
  refine lv_aload_n hx hb dX8_simulate_0 rfl (lv_at hl 0 rfl) ?_
  refine lv_iload_n hx hb dX8_simulate_1 rfl (lv_at hl 2 rfl) ?_
  refine lv_i2l (v := (x3).toInt64) hx hb dX8_simulate_2 rfl ?_
  refine lv_lconst (v := 1) hx hb dX8_simulate_3 (by decide) ?_
  refine lv_ldc2 (v := 60) hx hb hown (hts (.constantLong RX8 205 (60 : Int64)) (by decide +kernel)) dX8_simulate_4 ?_
  obtain ⟨o7, ho7, hq⟩ := kbind hq
  refine kc_Si (av := [.long ((x3).toInt64), .long (1 : Int64), .long (60 : Int64)]) (rest := [.ref aM]) hF hK hG hA (mk_X8_in l D cI s.heap.size ((x3).toInt64) (1 : Int64) (60 : Int64) o7 ho7) (va_cwS 3 hts gX8_simulate_X8_in rfl rfl rfl (by decide +kernel) ⟨Nat.le_of_ble_eq_true rfl, Nat.le_of_ble_eq_true rfl⟩) hP hD hS [] (by decide) rfl rfl rfl hl.1 rfl (Nat.le_of_ble_eq_true rfl) ⟨Nat.zero_le _, Nat.zero_le _⟩ dX8_simulate_7 (fun H locs hP hD hS => ?_)
  have hP : va_P D vwCl [(aM, .inr (7, [.int mref, .ref aMtext, .int msize, .ref aMnow, .ref aMtrial, .ref aMdiary, .int macts, .ref aMkept, .ref aMisKept, .ref aMside, .ref aMwas, .int mspot, .int mout])), (aMnow, .inl (cI 0, 79, .inl mnow)), (aMtrial, .inl (cI 0, 79, .inl mtrial)), (aMside, .inl (cI 0, 10, .inl mside)), (aMwas, .inl (cI 0, 30, .inl mwas))] H := hP
  have hD : va_D A [(aM, .inr (7, [.int mref, .ref aMtext, .int msize, .ref aMnow, .ref aMtrial, .ref aMdiary, .int macts, .ref aMkept, .ref aMisKept, .ref aMside, .ref aMwas, .int mspot, .int mout])), (aMnow, .inl (cI 0, 79, .inl mnow)), (aMtrial, .inl (cI 0, 79, .inl mtrial)), (aMside, .inl (cI 0, 10, .inl mside)), (aMwas, .inl (cI 0, 30, .inl mwas))] := hD
  refine lv_if_eq (tgt := 17) hx hb dX8_simulate_10 (by decide) (fun c9 => ?_) (fun c9 => ?_)
  · have hq := kite_t c9 hq
    refine lv_iconst (v := 1) hx hb dX8_simulate_17 (by decide) ?_
    exact b_18  _ _ _ mref mtrial mside mwas x1 x3 (1 : Int32) hq hP hD hS (lv_sub hl [0, 1, 2] rfl)
  · have hq := kite_f c9 hq
    refine lv_iconst (v := 0) hx hb dX8_simulate_13 (by decide) ?_
    refine lv_goto (tgt := 18) hx hb dX8_simulate_14 (by decide) ?_
    exact b_18  _ _ _ mref mtrial mside mwas x1 x3 (0 : Int32) hq hP hD hS (lv_sub hl [0, 1, 2] rfl)

theorem iw_X8_save_X8 : ∀ w ∈ wsX80, w ∈ wsX8_save := by decide +kernel
set_option maxHeartbeats 4000000 in
set_option maxRecDepth 100000 in
theorem mk_X8_save (l : Launch) (D : va_G) (cI : Nat → ClassId) (aM aMtext aMnow aMtrial aMdiary aMkept aMisKept aMside aMwas : Nat) (sz : Nat) (mref : Int32) (msize : Int32) (macts : Int32) (mspot : Int32) (mout : Int32) (mnow : kF) (mkept : kF) (misk : kF) (x1 : Int32) (o : Int32 × Int32 × kF × kF) (hq : fn_X8_save mref mnow mkept misk x1 = some o) : Met l yX8_save wsX8_save ({ frames := 1, cells := 0, slots := 0, locals := 25 }) (kPc D cI [(aM, .inr (7, [.int mref, .ref aMtext, .int msize, .ref aMnow, .ref aMtrial, .ref aMdiary, .int macts, .ref aMkept, .ref aMisKept, .ref aMside, .ref aMwas, .int mspot, .int mout])), (aMnow, .inl (cI 0, 79, .inl mnow)), (aMkept, .inl (cI 0, 158, .inl mkept)), (aMisKept, .inl (cI 1, 2, .inl misk))] sz [.ref aM, .int x1]) (kQi D [(aM, .inr (7, [.int mref, .ref aMtext, .int msize, .ref aMnow, .ref aMtrial, .ref aMdiary, .int macts, .ref aMkept, .ref aMisKept, .ref aMside, .ref aMwas, .int mspot, .int mout])), (aMnow, .inl (cI 0, 79, .inl mnow)), (aMkept, .inl (cI 0, 158, .inl mkept)), (aMisKept, .inl (cI 1, 2, .inl misk))] [(aM, .inr (7, [.int o.2.1, .ref aMtext, .int msize, .ref aMnow, .ref aMtrial, .ref aMdiary, .int macts, .ref aMkept, .ref aMisKept, .ref aMside, .ref aMwas, .int mspot, .int mout])), (aMnow, .inl (cI 0, 79, .inl mnow)), (aMkept, .inl (cI 0, 158, .inl o.2.2.1)), (aMisKept, .inl (cI 1, 2, .inl o.2.2.2))] sz o.1) 0 0 (va_A [(aM, .inr (7, [.int mref, .ref aMtext, .int msize, .ref aMnow, .ref aMtrial, .ref aMdiary, .int macts, .ref aMkept, .ref aMisKept, .ref aMside, .ref aMwas, .int mspot, .int mout])), (aMnow, .inl (cI 0, 79, .inl mnow)), (aMkept, .inl (cI 0, 158, .inl mkept)), (aMisKept, .inl (cI 1, 2, .inl misk))] sz) := by
  refine kM_i (cc := cX8_save) (maxL := 2) (by decide +kernel) rfl (Nat.le_of_ble_eq_true rfl) ?_
  intro p e s m args below meth c A Q hF hK hG hD hA hend ls hP hS hl
  obtain ⟨hx, hb, hml, hown, hts⟩ := id hF
  have hl : lv_has ls 2 [(0, .ref aM), (1, .int x1)] := hl
  have b_16 : ∀ (H : Heap) (locs : List Loc) (ls : Array Slot) (mref : Int32) (mkept : kF) (misk : kF) (x1 : Int32) (k1 : Int32), fn_X8_save_16 mref mnow mkept misk x1 k1 = some o → va_P D vwCl [(aM, .inr (7, [.int mref, .ref aMtext, .int msize, .ref aMnow, .ref aMtrial, .ref aMdiary, .int macts, .ref aMkept, .ref aMisKept, .ref aMside, .ref aMwas, .int mspot, .int mout])), (aMnow, .inl (cI 0, 79, .inl mnow)), (aMkept, .inl (cI 0, 158, .inl mkept)), (aMisKept, .inl (cI 1, 2, .inl misk))] H → va_D A [(aM, .inr (7, [.int mref, .ref aMtext, .int msize, .ref aMnow, .ref aMtrial, .ref aMdiary, .int macts, .ref aMkept, .ref aMisKept, .ref aMside, .ref aMwas, .int mspot, .int mout])), (aMnow, .inl (cI 0, 79, .inl mnow)), (aMkept, .inl (cI 0, 158, .inl mkept)), (aMisKept, .inl (cI 1, 2, .inl misk))] → va_S A s.heap H locs → lv_has ls 2 [(0, .ref aM), (1, .int x1)] → W p l e { frames := 1, cells := 0, slots := 0, locals := 25 } s m args below meth c H locs 0 0 Q (F0 m 16 ls [.int k1, .ref aM]) := by
    intro H locs ls mref mkept misk x1 k1
    intro hq hP hD hS hl
    obtain ⟨o16, ho16, hq⟩ := kbind hq
    refine kc_Vi (av := [.int k1]) (rest := []) hF hK hG hA (mk_X8_refused l D cI aM aMtext aMnow aMtrial aMdiary aMkept aMisKept aMside aMwas H.size mref msize macts mspot mout k1 o16 ho16) (cwV 1 hts gX8_save_X8_refused rfl rfl rfl (by decide +kernel) ⟨Nat.le_of_ble_eq_true rfl, Nat.le_of_ble_eq_true rfl⟩) hP hD hS [0] (by decide) rfl rfl 0 rfl rfl rfl hl.1 rfl (Nat.le_of_ble_eq_true rfl) ⟨Nat.zero_le _, Nat.zero_le _⟩ dX8_save_16 (fun H locs hP hD hS => ?_)
    have hP : va_P D vwCl [(aM, .inr (7, [.int o16.2, .ref aMtext, .int msize, .ref aMnow, .ref aMtrial, .ref aMdiary, .int macts, .ref aMkept, .ref aMisKept, .ref aMside, .ref aMwas, .int mspot, .int mout])), (aMnow, .inl (cI 0, 79, .inl mnow)), (aMkept, .inl (cI 0, 158, .inl mkept)), (aMisKept, .inl (cI 1, 2, .inl misk))] H := hP
    have hD : va_D A [(aM, .inr (7, [.int o16.2, .ref aMtext, .int msize, .ref aMnow, .ref aMtrial, .ref aMdiary, .int macts, .ref aMkept, .ref aMisKept, .ref aMside, .ref aMwas, .int mspot, .int mout])), (aMnow, .inl (cI 0, 79, .inl mnow)), (aMkept, .inl (cI 0, 158, .inl mkept)), (aMisKept, .inl (cI 1, 2, .inl misk))] := hD
    refine lv_if_eq (tgt := 24) hx hb dX8_save_19 (by decide) (fun c9 => ?_) (fun c9 => ?_)
    · have hq := kite_t c9 hq
      refine lv_aload_n hx hb dX8_save_24 rfl (lv_at hl 0 rfl) ?_
      refine va_get (D := D) (ci := 7) (v := .ref aMnow) (C := RX8) (T := TX8) (N := 13) hx hb hts iw_X8_save_X8 hown hK.1 hP 0 rfl rfl 3 (by decide) (hts (.fieldLink RX8 13 "PinDeckModel" "now" "[I") (by decide +kernel)) (fun _ h9 => h9) rfl dX8_save_25 ?_
      refine lv_iconst (v := 0) hx hb dX8_save_28 (by decide) ?_
      refine lv_aload_n hx hb dX8_save_29 rfl (lv_at hl 0 rfl) ?_
      refine va_get (D := D) (ci := 7) (v := .ref aMkept) (C := RX8) (T := TX8) (N := 13) hx hb hts iw_X8_save_X8 hown hK.1 hP 0 rfl rfl 7 (by decide) (hts (.fieldLink RX8 22 "PinDeckModel" "kept" "[I") (by decide +kernel)) (fun _ h9 => h9) rfl dX8_save_30 ?_
      refine lv_bipush (v := 79) hx hb dX8_save_33 (by decide) ?_
      refine lv_iload_n hx hb dX8_save_35 rfl (lv_at hl 1 rfl) ?_
      refine lv_imul hx hb dX8_save_36 ?_
      obtain ⟨o37, ho37, hq⟩ := kbind hq
      refine kc_Sv (av := [.ref aMnow, .int (0 : Int32), .ref aMkept, .int ((79 : Int32) * x1)]) (rest := []) hF hK hG hA (mk_X8_copyState l D cI 79 158 aMnow aMkept H.size mnow mkept (0 : Int32) ((79 : Int32) * x1) o37 ho37) (va_cwS 4 hts gX8_save_X8_copyState rfl rfl rfl (by decide +kernel) ⟨Nat.le_of_ble_eq_true rfl, Nat.le_of_ble_eq_true rfl⟩) hP hD hS [1, 2] (by decide) rfl rfl rfl hl.1 rfl (Nat.le_of_ble_eq_true rfl) ⟨Nat.zero_le _, Nat.zero_le _⟩ dX8_save_37 (fun H locs hP hD hS => ?_)
      have hP : va_P D vwCl [(aM, .inr (7, [.int o16.2, .ref aMtext, .int msize, .ref aMnow, .ref aMtrial, .ref aMdiary, .int macts, .ref aMkept, .ref aMisKept, .ref aMside, .ref aMwas, .int mspot, .int mout])), (aMnow, .inl (cI 0, 79, .inl mnow)), (aMkept, .inl (cI 0, 158, .inl o37)), (aMisKept, .inl (cI 1, 2, .inl misk))] H := hP
      have hD : va_D A [(aM, .inr (7, [.int o16.2, .ref aMtext, .int msize, .ref aMnow, .ref aMtrial, .ref aMdiary, .int macts, .ref aMkept, .ref aMisKept, .ref aMside, .ref aMwas, .int mspot, .int mout])), (aMnow, .inl (cI 0, 79, .inl mnow)), (aMkept, .inl (cI 0, 158, .inl o37)), (aMisKept, .inl (cI 1, 2, .inl misk))] := hD
      refine lv_aload_n hx hb dX8_save_40 rfl (lv_at hl 0 rfl) ?_
      refine va_get (D := D) (ci := 7) (v := .ref aMisKept) (C := RX8) (T := TX8) (N := 13) hx hb hts iw_X8_save_X8 hown hK.1 hP 0 rfl rfl 8 (by decide) (hts (.fieldLink RX8 25 "PinDeckModel" "isKept" "[Z") (by decide +kernel)) (fun _ h9 => h9) rfl dX8_save_41 ?_
      refine lv_iload_n hx hb dX8_save_44 rfl (lv_at hl 1 rfl) ?_
      refine lv_iconst (v := 1) hx hb dX8_save_45 (by decide) ?_
      obtain ⟨hz, hq⟩ := kite_n hq
      refine k_zast (j := (x1.toNatClampNeg)) hx hb hK.1 hP hD hS 3 1 rfl rfl hz rfl dX8_save_46 (fun H locs hP hD hS => ?_)
      have hP : va_P D vwCl [(aM, .inr (7, [.int o16.2, .ref aMtext, .int msize, .ref aMnow, .ref aMtrial, .ref aMdiary, .int macts, .ref aMkept, .ref aMisKept, .ref aMside, .ref aMwas, .int mspot, .int mout])), (aMnow, .inl (cI 0, 79, .inl mnow)), (aMkept, .inl (cI 0, 158, .inl o37)), (aMisKept, .inl (cI 1, 2, .inl (upd misk (x1.toNatClampNeg) (vp_nar .boolean (1 : Int32)))))] H := hP
      have hD : va_D A [(aM, .inr (7, [.int o16.2, .ref aMtext, .int msize, .ref aMnow, .ref aMtrial, .ref aMdiary, .int macts, .ref aMkept, .ref aMisKept, .ref aMside, .ref aMwas, .int mspot, .int mout])), (aMnow, .inl (cI 0, 79, .inl mnow)), (aMkept, .inl (cI 0, 158, .inl o37)), (aMisKept, .inl (cI 1, 2, .inl (upd misk (x1.toNatClampNeg) (vp_nar .boolean (1 : Int32)))))] := hD
      refine lv_aload_n hx hb dX8_save_47 rfl (lv_at hl 0 rfl) ?_
      refine va_get (D := D) (ci := 7) (v := .ref aMnow) (C := RX8) (T := TX8) (N := 13) hx hb hts iw_X8_save_X8 hown hK.1 hP 0 rfl rfl 3 (by decide) (hts (.fieldLink RX8 13 "PinDeckModel" "now" "[I") (by decide +kernel)) (fun _ h9 => h9) rfl dX8_save_48 ?_
      refine lv_bipush (v := 51) hx hb dX8_save_51 (by decide) ?_
      refine k_iald (j := 51) hx hb hK.1 hP 1 0 rfl rfl (by decide) (by decide) dX8_save_53 ?_
      have ho := Option.some.inj hq
      subst ho
      exact hend _ _ _ _ hP hS dX8_save_54
    · have hq := kite_f c9 hq
      refine lv_iconst (v := 0) hx hb dX8_save_22 (by decide) ?_
      have ho := Option.some.inj hq
      subst ho
      exact hend _ _ _ _ hP hS dX8_save_23
  refine lv_aload_n hx hb dX8_save_0 rfl (lv_at hl 0 rfl) ?_
  refine lv_iload_n hx hb dX8_save_1 rfl (lv_at hl 1 rfl) ?_
  refine lv_i2l (v := (x1).toInt64) hx hb dX8_save_2 rfl ?_
  refine lv_lconst (v := 0) hx hb dX8_save_3 (by decide) ?_
  refine lv_lconst (v := 1) hx hb dX8_save_4 (by decide) ?_
  obtain ⟨o5, ho5, hq⟩ := kbind hq
  refine kc_Si (av := [.long ((x1).toInt64), .long (0 : Int64), .long (1 : Int64)]) (rest := [.ref aM]) hF hK hG hA (mk_X8_in l D cI s.heap.size ((x1).toInt64) (0 : Int64) (1 : Int64) o5 ho5) (va_cwS 3 hts gX8_save_X8_in rfl rfl rfl (by decide +kernel) ⟨Nat.le_of_ble_eq_true rfl, Nat.le_of_ble_eq_true rfl⟩) hP hD hS [] (by decide) rfl rfl rfl hl.1 rfl (Nat.le_of_ble_eq_true rfl) ⟨Nat.zero_le _, Nat.zero_le _⟩ dX8_save_5 (fun H locs hP hD hS => ?_)
  have hP : va_P D vwCl [(aM, .inr (7, [.int mref, .ref aMtext, .int msize, .ref aMnow, .ref aMtrial, .ref aMdiary, .int macts, .ref aMkept, .ref aMisKept, .ref aMside, .ref aMwas, .int mspot, .int mout])), (aMnow, .inl (cI 0, 79, .inl mnow)), (aMkept, .inl (cI 0, 158, .inl mkept)), (aMisKept, .inl (cI 1, 2, .inl misk))] H := hP
  have hD : va_D A [(aM, .inr (7, [.int mref, .ref aMtext, .int msize, .ref aMnow, .ref aMtrial, .ref aMdiary, .int macts, .ref aMkept, .ref aMisKept, .ref aMside, .ref aMwas, .int mspot, .int mout])), (aMnow, .inl (cI 0, 79, .inl mnow)), (aMkept, .inl (cI 0, 158, .inl mkept)), (aMisKept, .inl (cI 1, 2, .inl misk))] := hD
  refine lv_if_eq (tgt := 15) hx hb dX8_save_8 (by decide) (fun c9 => ?_) (fun c9 => ?_)
  · have hq := kite_t c9 hq
    refine lv_iconst (v := 1) hx hb dX8_save_15 (by decide) ?_
    exact b_16  _ _ _ mref mkept misk x1 (1 : Int32) hq hP hD hS (lv_sub hl [0, 1] rfl)
  · have hq := kite_f c9 hq
    refine lv_iconst (v := 0) hx hb dX8_save_11 (by decide) ?_
    refine lv_goto (tgt := 16) hx hb dX8_save_12 (by decide) ?_
    exact b_16  _ _ _ mref mkept misk x1 (0 : Int32) hq hP hD hS (lv_sub hl [0, 1] rfl)

theorem iw_X8_restore_X8 : ∀ w ∈ wsX80, w ∈ wsX8_restore := by decide +kernel
set_option maxHeartbeats 4000000 in
set_option maxRecDepth 100000 in
theorem mk_X8_restore (l : Launch) (D : va_G) (cI : Nat → ClassId) (aM aMtext aMnow aMtrial aMdiary aMkept aMisKept aMside aMwas : Nat) (sz : Nat) (mref : Int32) (msize : Int32) (macts : Int32) (mspot : Int32) (mout : Int32) (mnow : kF) (mkept : kF) (misk : kF) (x1 : Int32) (o : Int32 × Int32 × Int32 × kF) (hq : fn_X8_restore mref macts mnow mkept misk x1 = some o) : Met l yX8_restore wsX8_restore ({ frames := 1, cells := 0, slots := 0, locals := 25 }) (kPc D cI [(aM, .inr (7, [.int mref, .ref aMtext, .int msize, .ref aMnow, .ref aMtrial, .ref aMdiary, .int macts, .ref aMkept, .ref aMisKept, .ref aMside, .ref aMwas, .int mspot, .int mout])), (aMnow, .inl (cI 0, 79, .inl mnow)), (aMkept, .inl (cI 0, 158, .inl mkept)), (aMisKept, .inl (cI 1, 2, .inl misk))] sz [.ref aM, .int x1]) (kQi D [(aM, .inr (7, [.int mref, .ref aMtext, .int msize, .ref aMnow, .ref aMtrial, .ref aMdiary, .int macts, .ref aMkept, .ref aMisKept, .ref aMside, .ref aMwas, .int mspot, .int mout])), (aMnow, .inl (cI 0, 79, .inl mnow)), (aMkept, .inl (cI 0, 158, .inl mkept)), (aMisKept, .inl (cI 1, 2, .inl misk))] [(aM, .inr (7, [.int o.2.1, .ref aMtext, .int msize, .ref aMnow, .ref aMtrial, .ref aMdiary, .int o.2.2.1, .ref aMkept, .ref aMisKept, .ref aMside, .ref aMwas, .int mspot, .int mout])), (aMnow, .inl (cI 0, 79, .inl o.2.2.2)), (aMkept, .inl (cI 0, 158, .inl mkept)), (aMisKept, .inl (cI 1, 2, .inl misk))] sz o.1) 0 0 (va_A [(aM, .inr (7, [.int mref, .ref aMtext, .int msize, .ref aMnow, .ref aMtrial, .ref aMdiary, .int macts, .ref aMkept, .ref aMisKept, .ref aMside, .ref aMwas, .int mspot, .int mout])), (aMnow, .inl (cI 0, 79, .inl mnow)), (aMkept, .inl (cI 0, 158, .inl mkept)), (aMisKept, .inl (cI 1, 2, .inl misk))] sz) := by
  refine kM_i (cc := cX8_restore) (maxL := 2) (by decide +kernel) rfl (Nat.le_of_ble_eq_true rfl) ?_
  intro p e s m args below meth c A Q hF hK hG hD hA hend ls hP hS hl
  obtain ⟨hx, hb, hml, hown, hts⟩ := id hF
  have hl : lv_has ls 2 [(0, .ref aM), (1, .int x1)] := hl
  have b_29 : ∀ (H : Heap) (locs : List Loc) (ls : Array Slot) (mref : Int32) (macts : Int32) (mnow : kF) (x1 : Int32) (k1 : Int32), fn_X8_restore_29 mref macts mnow mkept misk x1 k1 = some o → va_P D vwCl [(aM, .inr (7, [.int mref, .ref aMtext, .int msize, .ref aMnow, .ref aMtrial, .ref aMdiary, .int macts, .ref aMkept, .ref aMisKept, .ref aMside, .ref aMwas, .int mspot, .int mout])), (aMnow, .inl (cI 0, 79, .inl mnow)), (aMkept, .inl (cI 0, 158, .inl mkept)), (aMisKept, .inl (cI 1, 2, .inl misk))] H → va_D A [(aM, .inr (7, [.int mref, .ref aMtext, .int msize, .ref aMnow, .ref aMtrial, .ref aMdiary, .int macts, .ref aMkept, .ref aMisKept, .ref aMside, .ref aMwas, .int mspot, .int mout])), (aMnow, .inl (cI 0, 79, .inl mnow)), (aMkept, .inl (cI 0, 158, .inl mkept)), (aMisKept, .inl (cI 1, 2, .inl misk))] → va_S A s.heap H locs → lv_has ls 2 [(0, .ref aM), (1, .int x1)] → W p l e { frames := 1, cells := 0, slots := 0, locals := 25 } s m args below meth c H locs 0 0 Q (F0 m 29 ls [.int k1, .ref aM]) := by
    intro H locs ls mref macts mnow x1 k1
    intro hq hP hD hS hl
    obtain ⟨o29, ho29, hq⟩ := kbind hq
    refine kc_Vi (av := [.int k1]) (rest := []) hF hK hG hA (mk_X8_refused l D cI aM aMtext aMnow aMtrial aMdiary aMkept aMisKept aMside aMwas H.size mref msize macts mspot mout k1 o29 ho29) (cwV 1 hts gX8_restore_X8_refused rfl rfl rfl (by decide +kernel) ⟨Nat.le_of_ble_eq_true rfl, Nat.le_of_ble_eq_true rfl⟩) hP hD hS [0] (by decide) rfl rfl 0 rfl rfl rfl hl.1 rfl (Nat.le_of_ble_eq_true rfl) ⟨Nat.zero_le _, Nat.zero_le _⟩ dX8_restore_29 (fun H locs hP hD hS => ?_)
    have hP : va_P D vwCl [(aM, .inr (7, [.int o29.2, .ref aMtext, .int msize, .ref aMnow, .ref aMtrial, .ref aMdiary, .int macts, .ref aMkept, .ref aMisKept, .ref aMside, .ref aMwas, .int mspot, .int mout])), (aMnow, .inl (cI 0, 79, .inl mnow)), (aMkept, .inl (cI 0, 158, .inl mkept)), (aMisKept, .inl (cI 1, 2, .inl misk))] H := hP
    have hD : va_D A [(aM, .inr (7, [.int o29.2, .ref aMtext, .int msize, .ref aMnow, .ref aMtrial, .ref aMdiary, .int macts, .ref aMkept, .ref aMisKept, .ref aMside, .ref aMwas, .int mspot, .int mout])), (aMnow, .inl (cI 0, 79, .inl mnow)), (aMkept, .inl (cI 0, 158, .inl mkept)), (aMisKept, .inl (cI 1, 2, .inl misk))] := hD
    refine lv_if_eq (tgt := 37) hx hb dX8_restore_32 (by decide) (fun c9 => ?_) (fun c9 => ?_)
    · have hq := kite_t c9 hq
      refine lv_aload_n hx hb dX8_restore_37 rfl (lv_at hl 0 rfl) ?_
      refine va_get (D := D) (ci := 7) (v := .ref aMkept) (C := RX8) (T := TX8) (N := 13) hx hb hts iw_X8_restore_X8 hown hK.1 hP 0 rfl rfl 7 (by decide) (hts (.fieldLink RX8 22 "PinDeckModel" "kept" "[I") (by decide +kernel)) (fun _ h9 => h9) rfl dX8_restore_38 ?_
      refine lv_bipush (v := 79) hx hb dX8_restore_41 (by decide) ?_
      refine lv_iload_n hx hb dX8_restore_43 rfl (lv_at hl 1 rfl) ?_
      refine lv_imul hx hb dX8_restore_44 ?_
      refine lv_aload_n hx hb dX8_restore_45 rfl (lv_at hl 0 rfl) ?_
      refine va_get (D := D) (ci := 7) (v := .ref aMnow) (C := RX8) (T := TX8) (N := 13) hx hb hts iw_X8_restore_X8 hown hK.1 hP 0 rfl rfl 3 (by decide) (hts (.fieldLink RX8 13 "PinDeckModel" "now" "[I") (by decide +kernel)) (fun _ h9 => h9) rfl dX8_restore_46 ?_
      refine lv_iconst (v := 0) hx hb dX8_restore_49 (by decide) ?_
      obtain ⟨o50, ho50, hq⟩ := kbind hq
      refine kc_Sv (av := [.ref aMkept, .int ((79 : Int32) * x1), .ref aMnow, .int (0 : Int32)]) (rest := []) hF hK hG hA (mk_X8_copyState l D cI 158 79 aMkept aMnow H.size mkept mnow ((79 : Int32) * x1) (0 : Int32) o50 ho50) (va_cwS 4 hts gX8_restore_X8_copyState rfl rfl rfl (by decide +kernel) ⟨Nat.le_of_ble_eq_true rfl, Nat.le_of_ble_eq_true rfl⟩) hP hD hS [2, 1] (by decide) rfl rfl rfl hl.1 rfl (Nat.le_of_ble_eq_true rfl) ⟨Nat.zero_le _, Nat.zero_le _⟩ dX8_restore_50 (fun H locs hP hD hS => ?_)
      have hP : va_P D vwCl [(aM, .inr (7, [.int o29.2, .ref aMtext, .int msize, .ref aMnow, .ref aMtrial, .ref aMdiary, .int macts, .ref aMkept, .ref aMisKept, .ref aMside, .ref aMwas, .int mspot, .int mout])), (aMnow, .inl (cI 0, 79, .inl o50)), (aMkept, .inl (cI 0, 158, .inl mkept)), (aMisKept, .inl (cI 1, 2, .inl misk))] H := hP
      have hD : va_D A [(aM, .inr (7, [.int o29.2, .ref aMtext, .int msize, .ref aMnow, .ref aMtrial, .ref aMdiary, .int macts, .ref aMkept, .ref aMisKept, .ref aMside, .ref aMwas, .int mspot, .int mout])), (aMnow, .inl (cI 0, 79, .inl o50)), (aMkept, .inl (cI 0, 158, .inl mkept)), (aMisKept, .inl (cI 1, 2, .inl misk))] := hD
      refine lv_aload_n hx hb dX8_restore_53 rfl (lv_at hl 0 rfl) ?_
      refine lv_iconst (v := 0) hx hb dX8_restore_54 (by decide) ?_
      refine va_put (D := D) (ci := 7) (v := .int (0 : Int32)) (ty := .int) (C := RX8) (T := TX8) (N := 13) hx hb hts iw_X8_restore_X8 tyX8 tyX8_ok nmX8 hown hK.1 hP hD hS 0 rfl rfl 6 (by decide) (hts (.fieldLink RX8 170 "PinDeckModel" "acts" "I") (by decide +kernel)) (fun _ h9 => h9) rfl (by decide +kernel) rfl rfl (Nat.le_of_ble_eq_true rfl) dX8_restore_55 (fun H locs hP hD hS => ?_)
      have hP : va_P D vwCl [(aM, .inr (7, [.int o29.2, .ref aMtext, .int msize, .ref aMnow, .ref aMtrial, .ref aMdiary, .int (0 : Int32), .ref aMkept, .ref aMisKept, .ref aMside, .ref aMwas, .int mspot, .int mout])), (aMnow, .inl (cI 0, 79, .inl o50)), (aMkept, .inl (cI 0, 158, .inl mkept)), (aMisKept, .inl (cI 1, 2, .inl misk))] H := hP
      have hD : va_D A [(aM, .inr (7, [.int o29.2, .ref aMtext, .int msize, .ref aMnow, .ref aMtrial, .ref aMdiary, .int (0 : Int32), .ref aMkept, .ref aMisKept, .ref aMside, .ref aMwas, .int mspot, .int mout])), (aMnow, .inl (cI 0, 79, .inl o50)), (aMkept, .inl (cI 0, 158, .inl mkept)), (aMisKept, .inl (cI 1, 2, .inl misk))] := hD
      refine lv_aload_n hx hb dX8_restore_58 rfl (lv_at hl 0 rfl) ?_
      refine va_get (D := D) (ci := 7) (v := .ref aMnow) (C := RX8) (T := TX8) (N := 13) hx hb hts iw_X8_restore_X8 hown hK.1 hP 0 rfl rfl 3 (by decide) (hts (.fieldLink RX8 13 "PinDeckModel" "now" "[I") (by decide +kernel)) (fun _ h9 => h9) rfl dX8_restore_59 ?_
      refine lv_bipush (v := 51) hx hb dX8_restore_62 (by decide) ?_
      refine k_iald (j := 51) hx hb hK.1 hP 1 0 rfl rfl (by decide) (by decide) dX8_restore_64 ?_
      have ho := Option.some.inj hq
      subst ho
      exact hend _ _ _ _ hP hS dX8_restore_65
    · have hq := kite_f c9 hq
      refine lv_iconst (v := 0) hx hb dX8_restore_35 (by decide) ?_
      have ho := Option.some.inj hq
      subst ho
      exact hend _ _ _ _ hP hS dX8_restore_36
  refine lv_aload_n hx hb dX8_restore_0 rfl (lv_at hl 0 rfl) ?_
  refine lv_iload_n hx hb dX8_restore_1 rfl (lv_at hl 1 rfl) ?_
  refine lv_i2l (v := (x1).toInt64) hx hb dX8_restore_2 rfl ?_
  refine lv_lconst (v := 0) hx hb dX8_restore_3 (by decide) ?_
  refine lv_lconst (v := 1) hx hb dX8_restore_4 (by decide) ?_
  obtain ⟨o5, ho5, hq⟩ := kbind hq
  refine kc_Si (av := [.long ((x1).toInt64), .long (0 : Int64), .long (1 : Int64)]) (rest := [.ref aM]) hF hK hG hA (mk_X8_in l D cI s.heap.size ((x1).toInt64) (0 : Int64) (1 : Int64) o5 ho5) (va_cwS 3 hts gX8_restore_X8_in rfl rfl rfl (by decide +kernel) ⟨Nat.le_of_ble_eq_true rfl, Nat.le_of_ble_eq_true rfl⟩) hP hD hS [] (by decide) rfl rfl rfl hl.1 rfl (Nat.le_of_ble_eq_true rfl) ⟨Nat.zero_le _, Nat.zero_le _⟩ dX8_restore_5 (fun H locs hP hD hS => ?_)
  have hP : va_P D vwCl [(aM, .inr (7, [.int mref, .ref aMtext, .int msize, .ref aMnow, .ref aMtrial, .ref aMdiary, .int macts, .ref aMkept, .ref aMisKept, .ref aMside, .ref aMwas, .int mspot, .int mout])), (aMnow, .inl (cI 0, 79, .inl mnow)), (aMkept, .inl (cI 0, 158, .inl mkept)), (aMisKept, .inl (cI 1, 2, .inl misk))] H := hP
  have hD : va_D A [(aM, .inr (7, [.int mref, .ref aMtext, .int msize, .ref aMnow, .ref aMtrial, .ref aMdiary, .int macts, .ref aMkept, .ref aMisKept, .ref aMside, .ref aMwas, .int mspot, .int mout])), (aMnow, .inl (cI 0, 79, .inl mnow)), (aMkept, .inl (cI 0, 158, .inl mkept)), (aMisKept, .inl (cI 1, 2, .inl misk))] := hD
  refine lv_if_ne (tgt := 15) hx hb dX8_restore_8 (by decide) (fun c9 => ?_) (fun c9 => ?_)
  · have hq := kite_f c9 hq
    refine lv_aload_n hx hb dX8_restore_15 rfl (lv_at hl 0 rfl) ?_
    refine va_get (D := D) (ci := 7) (v := .ref aMisKept) (C := RX8) (T := TX8) (N := 13) hx hb hts iw_X8_restore_X8 hown hK.1 hP 0 rfl rfl 8 (by decide) (hts (.fieldLink RX8 25 "PinDeckModel" "isKept" "[Z") (by decide +kernel)) (fun _ h9 => h9) rfl dX8_restore_16 ?_
    refine lv_iload_n hx hb dX8_restore_19 rfl (lv_at hl 1 rfl) ?_
    obtain ⟨hz, hq⟩ := kite_n hq
    refine k_zald (j := (x1.toNatClampNeg)) hx hb hK.1 hP 3 1 rfl rfl hz rfl dX8_restore_20 ?_
    refine lv_if_ne (tgt := 28) hx hb dX8_restore_21 (by decide) (fun c9 => ?_) (fun c9 => ?_)
    · have hq := kite_f c9 hq
      refine lv_iconst (v := 0) hx hb dX8_restore_28 (by decide) ?_
      exact b_29  _ _ _ mref macts mnow x1 (0 : Int32) hq hP hD hS (lv_sub hl [0, 1] rfl)
    · have hq := kite_t c9 hq
      refine lv_iconst (v := 2) hx hb dX8_restore_24 (by decide) ?_
      refine lv_goto (tgt := 29) hx hb dX8_restore_25 (by decide) ?_
      exact b_29  _ _ _ mref macts mnow x1 (2 : Int32) hq hP hD hS (lv_sub hl [0, 1] rfl)
  · have hq := kite_t c9 hq
    refine lv_iconst (v := 1) hx hb dX8_restore_11 (by decide) ?_
    refine lv_goto (tgt := 29) hx hb dX8_restore_12 (by decide) ?_
    exact b_29  _ _ _ mref macts mnow x1 (1 : Int32) hq hP hD hS (lv_sub hl [0, 1] rfl)
