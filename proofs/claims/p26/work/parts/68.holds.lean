/-! holds (written by wip/p26/gen/gen26.py) -/
set_option maxHeartbeats 8000000 in
set_option maxRecDepth 100000 in
theorem mk_L_holds (l : Launch) (hst : l.stackTraces = false) (D : va_G) (cI : Nat → ClassId) (u : kHad) (sz : Nat) (d : kDk) (x1 : Int32) (o : Int32 × kDk) (hq : fn_L_holds d x1 = some o) : Met l yL_holds wsL_holds ({ frames := 10, cells := 185, slots := 1110, locals := 245 }) (kPc D cI (dkW cI u d) sz [.ref (u.1 0), .int x1]) (kQi D (dkW cI u d) (dkW cI u o.2) sz o.1) 185 1110 (va_A (dkW cI u d) sz) := by
  refine kM_hz (nc := 185) (cc := cL_holds) (maxL := 16) (by decide +kernel) rfl (Nat.le_of_ble_eq_true rfl) ?_
  intro p e s m args below meth c A Q hF hK hG hD hA hend ls hP hS hl
  obtain ⟨hx, hb, hml, hown, hts⟩ := id hF
  have hl : lv_has ls 16 [(0, .ref (u.1 0)), (1, .int x1)] := hl
  have b_660 : ∀ (kc : Nat) (H : Heap) (locs : List Loc) (ls : Array Slot) (d : kDk) (k0 : Int32), kc + 0 ≤ 185 → fn_L_holds_660 d k0 = some o → va_P D vwCl (dkW cI u d) H → va_D A (dkW cI u d) → va_S A s.heap H locs → lv_has ls 16 [] → W p l e ({ frames := 10, cells := 185, slots := 1110, locals := 245 }) s m args below meth c H locs kc (6 * kc) Q (F0 m 660 ls [.int k0]) := by
    intro kc H locs ls d k0
    intro hkc hq hP hD hS hl
    obtain ⟨hz, hq⟩ := kite_b hq
    have ho := Option.some.inj hq
    subst ho
    refine W.widen (k := 185) (n := 6 * 185) (by omega) (by omega) ?_
    exact hend _ _ _ _ hz hP hS dL_holds_660
  have b_659 : ∀ (kc : Nat) (H : Heap) (locs : List Loc) (ls : Array Slot) (d : kDk), kc + 0 ≤ 185 → fn_L_holds_659 d = some o → va_P D vwCl (dkW cI u d) H → va_D A (dkW cI u d) → va_S A s.heap H locs → lv_has ls 16 [] → W p l e ({ frames := 10, cells := 185, slots := 1110, locals := 245 }) s m args below meth c H locs kc (6 * kc) Q (F0 m 659 ls []) := by
    intro kc H locs ls d
    intro hkc hq hP hD hS hl
    refine lv_iconst (v := 0) hx hb dL_holds_659 (by decide) ?_
    exact b_660  kc _ _ _ d (0 : Int32) (by omega) hq hP hD hS (lv_sub hl [] rfl)
  have b_644 : ∀ (kc : Nat) (H : Heap) (locs : List Loc) (ls : Array Slot) (d : kDk) (x1 : Int32) (k0 : Int32) (k1 : Int32), kc + 12 ≤ 185 → fn_L_holds_644 d x1 k0 k1 = some o → va_P D vwCl (dkW cI u d) H → va_D A (dkW cI u d) → va_S A s.heap H locs → lv_has ls 16 [(0, .ref (u.1 0)), (1, .int x1)] → W p l e ({ frames := 10, cells := 185, slots := 1110, locals := 245 }) s m args below meth c H locs kc (6 * kc) Q (F0 m 644 ls [.int k1, .int k0]) := by
    intro kc H locs ls d x1 k0 k1
    intro hkc hq hP hD hS hl
    refine lv_icmp_ne (tgt := 659) hx hb dL_holds_644 (by decide) (fun c9 => ?_) (fun c9 => ?_)
    · have hq := kite_f c9 hq
      exact b_659  kc _ _ _ d (by omega) hq hP hD hS (lv_sub hl [] rfl)
    · have hq := kite_t c9 hq
      refine lv_aload_n hx hb dL_holds_647 rfl (lv_at hl 0 rfl) ?_
      refine lv_iload_n hx hb dL_holds_648 rfl (lv_at hl 1 rfl) ?_
      obtain ⟨o649, ho649, hq⟩ := kbind hq
      refine kh_Si (k := kc) (nc := 12) (av := [.ref (u.1 0), .int x1]) (rest := []) (ws' := (dkW cI u o649.2)) hF hK hG hA (mk_L_balls l hst D cI u H.size d x1 o649 ho649) (va_cwS 2 hts gL_holds_L_balls rfl rfl rfl (by decide +kernel) ⟨Nat.le_of_ble_eq_true rfl, Nat.le_of_ble_eq_true rfl⟩) hP hD hS (kSub_all dkW_fst) rfl hl.1 rfl (Nat.le_of_ble_eq_true rfl) ⟨by show kc + 12 ≤ 185; omega, by show 6 * kc + 6 * 12 ≤ 1110; omega⟩ dL_holds_649 (fun H locs hP hD hS => ?_)
      refine lv_if_eq (tgt := 659) hx hb dL_holds_652 (by decide) (fun c9 => ?_) (fun c9 => ?_)
      · have hq := kite_t c9 hq
        exact b_659  (kc + 12) _ _ _ o649.2 (by omega) hq hP hD hS (lv_sub hl [] rfl)
      · have hq := kite_f c9 hq
        refine lv_iconst (v := 1) hx hb dL_holds_655 (by decide) ?_
        refine lv_goto (tgt := 660) hx hb dL_holds_656 (by decide) ?_
        exact b_660  (kc + 12) _ _ _ o649.2 (1 : Int32) (by omega) hq hP hD hS (lv_sub hl [] rfl)
  have b_614 : ∀ (kc : Nat) (H : Heap) (locs : List Loc) (ls : Array Slot) (d : kDk) (x1 : Int32) (x7 : Int32) (x11 : Int32) (k0 : Int32) (k1 : Int32), kc + 14 ≤ 185 → fn_L_holds_614 d x1 x7 x11 k0 k1 = some o → va_P D vwCl (dkW cI u d) H → va_D A (dkW cI u d) → va_S A s.heap H locs → lv_has ls 16 [(0, .ref (u.1 0)), (1, .int x1), (7, .int x7), (11, .int x11)] → W p l e ({ frames := 10, cells := 185, slots := 1110, locals := 245 }) s m args below meth c H locs kc (6 * kc) Q (F0 m 614 ls [.int k1, .int k0]) := by
    intro kc H locs ls d x1 x7 x11 k0 k1
    intro hkc hq hP hD hS hl
    refine lv_icmp_ne (tgt := 659) hx hb dL_holds_614 (by decide) (fun c9 => ?_) (fun c9 => ?_)
    · have hq := kite_f c9 hq
      exact b_659  kc _ _ _ d (by omega) hq hP hD hS (lv_sub hl [] rfl)
    · have hq := kite_t c9 hq
      refine lv_aload_n hx hb dL_holds_617 rfl (lv_at hl 0 rfl) ?_
      refine lv_iconst (v := 2) hx hb dL_holds_618 (by decide) ?_
      refine lv_iconst (v := 1) hx hb dL_holds_619 (by decide) ?_
      refine lv_iconst (v := 0) hx hb dL_holds_620 (by decide) ?_
      refine lv_iconst (v := 0) hx hb dL_holds_621 (by decide) ?_
      obtain ⟨o622, ho622, hq⟩ := kbind hq
      refine kh_Si (k := kc) (nc := 1) (av := [.ref (u.1 0), .int (2 : Int32), .int (1 : Int32), .int (0 : Int32), .int (0 : Int32)]) (rest := []) (ws' := (dkW cI u o622.2)) hF hK hG hA (mk_L_call l hst D cI u H.size d (2 : Int32) (1 : Int32) (0 : Int32) (0 : Int32) o622 ho622) (va_cwS 5 hts gL_holds_L_call rfl rfl rfl (by decide +kernel) ⟨Nat.le_of_ble_eq_true rfl, Nat.le_of_ble_eq_true rfl⟩) hP hD hS (kSub_all dkW_fst) rfl hl.1 rfl (Nat.le_of_ble_eq_true rfl) ⟨by show kc + 1 ≤ 185; omega, by show 6 * kc + 6 * 1 ≤ 1110; omega⟩ dL_holds_622 (fun H locs hP hD hS => ?_)
      refine lv_iload hx hb dL_holds_625 (lv_at hl 3 rfl) ?_
      refine lv_iconst (v := 1) hx hb dL_holds_627 (by decide) ?_
      refine lv_icmp_ne (tgt := 635) hx hb dL_holds_628 (by decide) (fun c9 => ?_) (fun c9 => ?_)
      · have hq := kite_f c9 hq
        refine lv_aload_n hx hb dL_holds_635 rfl (lv_at hl 0 rfl) ?_
        refine lv_iconst (v := 4) hx hb dL_holds_636 (by decide) ?_
        refine lv_iload hx hb dL_holds_637 (lv_at hl 2 rfl) ?_
        refine lv_iconst (v := 0) hx hb dL_holds_639 (by decide) ?_
        refine lv_iconst (v := 0) hx hb dL_holds_640 (by decide) ?_
        obtain ⟨o641, ho641, hq⟩ := kbind hq
        refine kh_Si (k := (kc + 1)) (nc := 1) (av := [.ref (u.1 0), .int (4 : Int32), .int x7, .int (0 : Int32), .int (0 : Int32)]) (rest := [.int o622.1]) (ws' := (dkW cI u o641.2)) hF hK hG hA (mk_L_call l hst D cI u H.size o622.2 (4 : Int32) x7 (0 : Int32) (0 : Int32) o641 ho641) (va_cwS 5 hts gL_holds_L_call rfl rfl rfl (by decide +kernel) ⟨Nat.le_of_ble_eq_true rfl, Nat.le_of_ble_eq_true rfl⟩) hP hD hS (kSub_all dkW_fst) rfl hl.1 rfl (Nat.le_of_ble_eq_true rfl) ⟨by show (kc + 1) + 1 ≤ 185; omega, by show 6 * (kc + 1) + 6 * 1 ≤ 1110; omega⟩ dL_holds_641 (fun H locs hP hD hS => ?_)
        exact b_644  (kc + 1 + 1) _ _ _ o641.2 x1 o622.1 o641.1 (by omega) hq hP hD hS (lv_sub hl [0, 1] rfl)
      · have hq := kite_t c9 hq
        refine lv_iconst (v := 0) hx hb dL_holds_631 (by decide) ?_
        refine lv_goto (tgt := 644) hx hb dL_holds_632 (by decide) ?_
        exact b_644  (kc + 1) _ _ _ o622.2 x1 o622.1 (0 : Int32) (by omega) hq hP hD hS (lv_sub hl [0, 1] rfl)
  have b_602 : ∀ (kc : Nat) (H : Heap) (locs : List Loc) (ls : Array Slot) (d : kDk) (x1 : Int32) (x7 : Int32) (x11 : Int32) (k0 : Int32), kc + 14 ≤ 185 → fn_L_holds_602 d x1 x7 x11 k0 = some o → va_P D vwCl (dkW cI u d) H → va_D A (dkW cI u d) → va_S A s.heap H locs → lv_has ls 16 [(0, .ref (u.1 0)), (1, .int x1), (7, .int x7), (11, .int x11)] → W p l e ({ frames := 10, cells := 185, slots := 1110, locals := 245 }) s m args below meth c H locs kc (6 * kc) Q (F0 m 602 ls [.int k0]) := by
    intro kc H locs ls d x1 x7 x11 k0
    intro hkc hq hP hD hS hl
    refine lv_iload hx hb dL_holds_602 (lv_at hl 2 rfl) ?_
    refine lv_bipush (v := 10) hx hb dL_holds_604 (by decide) ?_
    refine lv_icmp_ne (tgt := 613) hx hb dL_holds_606 (by decide) (fun c9 => ?_) (fun c9 => ?_)
    · have hq := kite_f c9 hq
      refine lv_iconst (v := 0) hx hb dL_holds_613 (by decide) ?_
      exact b_614  kc _ _ _ d x1 x7 x11 k0 (0 : Int32) (by omega) hq hP hD hS (lv_sub hl [0, 1, 2, 3] rfl)
    · have hq := kite_t c9 hq
      refine lv_iconst (v := 1) hx hb dL_holds_609 (by decide) ?_
      refine lv_goto (tgt := 614) hx hb dL_holds_610 (by decide) ?_
      exact b_614  kc _ _ _ d x1 x7 x11 k0 (1 : Int32) (by omega) hq hP hD hS (lv_sub hl [0, 1, 2, 3] rfl)
  have b_524 : ∀ (kc : Nat) (H : Heap) (locs : List Loc) (ls : Array Slot) (d : kDk) (x1 : Int32) (x2 : Int32) (x3 : Int32) (x4 : Int32) (x5 : Int32) (x6 : Int32) (x7 : Int32) (x8 : Int32) (x9 : Int32) (x10 : Int32) (x11 : Int32), kc + 17 ≤ 185 → fn_L_holds_524 d x1 x2 x3 x4 x5 x6 x7 x8 x9 x10 x11 = some o → va_P D vwCl (dkW cI u d) H → va_D A (dkW cI u d) → va_S A s.heap H locs → lv_has ls 16 [(0, .ref (u.1 0)), (1, .int x1), (2, .int x2), (3, .int x3), (4, .int x4), (5, .int x5), (6, .int x6), (7, .int x7), (8, .int x8), (9, .int x9), (10, .int x10), (11, .int x11)] → W p l e ({ frames := 10, cells := 185, slots := 1110, locals := 245 }) s m args below meth c H locs kc (6 * kc) Q (F0 m 524 ls []) := by
    intro kc H locs ls d x1 x2 x3 x4 x5 x6 x7 x8 x9 x10 x11
    intro hkc hq hP hD hS hl
    refine lv_iload hx hb dL_holds_524 (lv_at hl 5 rfl) ?_
    refine lv_if_eq (tgt := 659) hx hb dL_holds_526 (by decide) (fun c9 => ?_) (fun c9 => ?_)
    · have hq := kite_t c9 hq
      exact b_659  kc _ _ _ d (by omega) hq hP hD hS (lv_sub hl [] rfl)
    · have hq := kite_f c9 hq
      refine lv_aload_n hx hb dL_holds_529 rfl (lv_at hl 0 rfl) ?_
      refine lv_iconst (v := 2) hx hb dL_holds_530 (by decide) ?_
      refine lv_bipush (v := 7) hx hb dL_holds_531 (by decide) ?_
      refine lv_iconst (v := 0) hx hb dL_holds_533 (by decide) ?_
      refine lv_iconst (v := 0) hx hb dL_holds_534 (by decide) ?_
      obtain ⟨o535, ho535, hq⟩ := kbind hq
      refine kh_Si (k := kc) (nc := 1) (av := [.ref (u.1 0), .int (2 : Int32), .int (7 : Int32), .int (0 : Int32), .int (0 : Int32)]) (rest := []) (ws' := (dkW cI u o535.2)) hF hK hG hA (mk_L_call l hst D cI u H.size d (2 : Int32) (7 : Int32) (0 : Int32) (0 : Int32) o535 ho535) (va_cwS 5 hts gL_holds_L_call rfl rfl rfl (by decide +kernel) ⟨Nat.le_of_ble_eq_true rfl, Nat.le_of_ble_eq_true rfl⟩) hP hD hS (kSub_all dkW_fst) rfl hl.1 rfl (Nat.le_of_ble_eq_true rfl) ⟨by show kc + 1 ≤ 185; omega, by show 6 * kc + 6 * 1 ≤ 1110; omega⟩ dL_holds_535 (fun H locs hP hD hS => ?_)
      refine lv_iload_n hx hb dL_holds_538 rfl (lv_at hl 2 rfl) ?_
      refine lv_icmp_ne (tgt := 659) hx hb dL_holds_539 (by decide) (fun c9 => ?_) (fun c9 => ?_)
      · have hq := kite_f c9 hq
        exact b_659  (kc + 1) _ _ _ o535.2 (by omega) hq hP hD hS (lv_sub hl [] rfl)
      · have hq := kite_t c9 hq
        refine lv_aload_n hx hb dL_holds_542 rfl (lv_at hl 0 rfl) ?_
        refine lv_iconst (v := 2) hx hb dL_holds_543 (by decide) ?_
        refine lv_bipush (v := 8) hx hb dL_holds_544 (by decide) ?_
        refine lv_iconst (v := 0) hx hb dL_holds_546 (by decide) ?_
        refine lv_iconst (v := 0) hx hb dL_holds_547 (by decide) ?_
        obtain ⟨o548, ho548, hq⟩ := kbind hq
        refine kh_Si (k := (kc + 1)) (nc := 1) (av := [.ref (u.1 0), .int (2 : Int32), .int (8 : Int32), .int (0 : Int32), .int (0 : Int32)]) (rest := []) (ws' := (dkW cI u o548.2)) hF hK hG hA (mk_L_call l hst D cI u H.size o535.2 (2 : Int32) (8 : Int32) (0 : Int32) (0 : Int32) o548 ho548) (va_cwS 5 hts gL_holds_L_call rfl rfl rfl (by decide +kernel) ⟨Nat.le_of_ble_eq_true rfl, Nat.le_of_ble_eq_true rfl⟩) hP hD hS (kSub_all dkW_fst) rfl hl.1 rfl (Nat.le_of_ble_eq_true rfl) ⟨by show (kc + 1) + 1 ≤ 185; omega, by show 6 * (kc + 1) + 6 * 1 ≤ 1110; omega⟩ dL_holds_548 (fun H locs hP hD hS => ?_)
        refine lv_iload_n hx hb dL_holds_551 rfl (lv_at hl 3 rfl) ?_
        refine lv_icmp_ne (tgt := 659) hx hb dL_holds_552 (by decide) (fun c9 => ?_) (fun c9 => ?_)
        · have hq := kite_f c9 hq
          exact b_659  (kc + 1 + 1) _ _ _ o548.2 (by omega) hq hP hD hS (lv_sub hl [] rfl)
        · have hq := kite_t c9 hq
          refine lv_aload_n hx hb dL_holds_555 rfl (lv_at hl 0 rfl) ?_
          obtain ⟨o556, ho556, hq⟩ := kbind hq
          refine kd_Vi (av := []) (rest := []) (ws' := (dkW cI u o556.2)) hF hK hG hA (bm_drops l hst D cI u H.size o548.2 o556 ho556) (cwV 0 hts gL_holds_X7_drops rfl rfl rfl (by decide +kernel) ⟨Nat.le_of_ble_eq_true rfl, Nat.le_of_ble_eq_true rfl⟩) hP hD hS (kSub_all dkW_fst) 0 (ci := 6) (N := 5) (T := TX7) rfl rfl rfl hl.1 rfl (Nat.le_of_ble_eq_true rfl) ⟨by show (kc + 1 + 1) ≤ 185; omega, by show 6 * (kc + 1 + 1) ≤ 1110; omega⟩ dL_holds_556 (fun H locs hP hD hS => ?_)
          refine lv_iload hx hb dL_holds_559 (lv_at hl 4 rfl) ?_
          refine lv_icmp_ne (tgt := 659) hx hb dL_holds_561 (by decide) (fun c9 => ?_) (fun c9 => ?_)
          · have hq := kite_f c9 hq
            exact b_659  (kc + 1 + 1) _ _ _ o556.2 (by omega) hq hP hD hS (lv_sub hl [] rfl)
          · have hq := kite_t c9 hq
            refine lv_iload hx hb dL_holds_564 (lv_at hl 9 rfl) ?_
            refine lv_iload hx hb dL_holds_566 (lv_at hl 6 rfl) ?_
            refine lv_icmp_ne (tgt := 659) hx hb dL_holds_568 (by decide) (fun c9 => ?_) (fun c9 => ?_)
            · have hq := kite_f c9 hq
              exact b_659  (kc + 1 + 1) _ _ _ o556.2 (by omega) hq hP hD hS (lv_sub hl [] rfl)
            · have hq := kite_t c9 hq
              refine lv_aload_n hx hb dL_holds_571 rfl (lv_at hl 0 rfl) ?_
              refine lv_iconst (v := 2) hx hb dL_holds_572 (by decide) ?_
              refine lv_iconst (v := 3) hx hb dL_holds_573 (by decide) ?_
              refine lv_iconst (v := 0) hx hb dL_holds_574 (by decide) ?_
              refine lv_iconst (v := 0) hx hb dL_holds_575 (by decide) ?_
              obtain ⟨o576, ho576, hq⟩ := kbind hq
              refine kh_Si (k := (kc + 1 + 1)) (nc := 1) (av := [.ref (u.1 0), .int (2 : Int32), .int (3 : Int32), .int (0 : Int32), .int (0 : Int32)]) (rest := []) (ws' := (dkW cI u o576.2)) hF hK hG hA (mk_L_call l hst D cI u H.size o556.2 (2 : Int32) (3 : Int32) (0 : Int32) (0 : Int32) o576 ho576) (va_cwS 5 hts gL_holds_L_call rfl rfl rfl (by decide +kernel) ⟨Nat.le_of_ble_eq_true rfl, Nat.le_of_ble_eq_true rfl⟩) hP hD hS (kSub_all dkW_fst) rfl hl.1 rfl (Nat.le_of_ble_eq_true rfl) ⟨by show (kc + 1 + 1) + 1 ≤ 185; omega, by show 6 * (kc + 1 + 1) + 6 * 1 ≤ 1110; omega⟩ dL_holds_576 (fun H locs hP hD hS => ?_)
              refine lv_iload hx hb dL_holds_579 (lv_at hl 10 rfl) ?_
              refine lv_icmp_ne (tgt := 659) hx hb dL_holds_581 (by decide) (fun c9 => ?_) (fun c9 => ?_)
              · have hq := kite_f c9 hq
                exact b_659  (kc + 1 + 1 + 1) _ _ _ o576.2 (by omega) hq hP hD hS (lv_sub hl [] rfl)
              · have hq := kite_t c9 hq
                refine lv_iload hx hb dL_holds_584 (lv_at hl 10 rfl) ?_
                refine lv_iload hx hb dL_holds_586 (lv_at hl 8 rfl) ?_
                refine lv_icmp_lt (tgt := 659) hx hb dL_holds_588 (by decide) (fun c9 => ?_) (fun c9 => ?_)
                · have hq := kite_t c9 hq
                  exact b_659  (kc + 1 + 1 + 1) _ _ _ o576.2 (by omega) hq hP hD hS (lv_sub hl [] rfl)
                · have hq := kite_f c9 hq
                  refine lv_iload hx hb dL_holds_591 (lv_at hl 11 rfl) ?_
                  refine lv_iconst (v := 1) hx hb dL_holds_593 (by decide) ?_
                  refine lv_icmp_ne (tgt := 601) hx hb dL_holds_594 (by decide) (fun c9 => ?_) (fun c9 => ?_)
                  · have hq := kite_f c9 hq
                    refine lv_iconst (v := 0) hx hb dL_holds_601 (by decide) ?_
                    exact b_602  (kc + 1 + 1 + 1) _ _ _ o576.2 x1 x7 x11 (0 : Int32) (by omega) hq hP hD hS (lv_sub hl [0, 1, 7, 11] rfl)
                  · have hq := kite_t c9 hq
                    refine lv_iconst (v := 1) hx hb dL_holds_597 (by decide) ?_
                    refine lv_goto (tgt := 602) hx hb dL_holds_598 (by decide) ?_
                    exact b_602  (kc + 1 + 1 + 1) _ _ _ o576.2 x1 x7 x11 (1 : Int32) (by omega) hq hP hD hS (lv_sub hl [0, 1, 7, 11] rfl)
  have b_516 : ∀ (q345 : kDk → Int32 → Int32 → Int32 → Int32 → Int32 → Int32 → Int32 → Int32 → Int32 → Int32 → Int32 → Int32 → Option (Int32 × kDk)) (c345 : Nat), 17 ≤ c345 → (∀ (kc : Nat) (H : Heap) (locs : List Loc) (ls : Array Slot) (d : kDk) (x1 : Int32) (x2 : Int32) (x3 : Int32) (x4 : Int32) (x5 : Int32) (x6 : Int32) (x7 : Int32) (x8 : Int32) (x9 : Int32) (x10 : Int32) (x11 : Int32) (x12 : Int32), kc + c345 ≤ 185 → q345 d x1 x2 x3 x4 x5 x6 x7 x8 x9 x10 x11 x12 = some o → va_P D vwCl (dkW cI u d) H → va_D A (dkW cI u d) → va_S A s.heap H locs → lv_has ls 16 [(0, .ref (u.1 0)), (1, .int x1), (2, .int x2), (3, .int x3), (4, .int x4), (5, .int x5), (6, .int x6), (7, .int x7), (8, .int x8), (9, .int x9), (10, .int x10), (11, .int x11), (12, .int x12)] → W p l e ({ frames := 10, cells := 185, slots := 1110, locals := 245 }) s m args below meth c H locs kc (6 * kc) Q (F0 m 345 ls [])) → ∀ (kc : Nat) (H : Heap) (locs : List Loc) (ls : Array Slot) (d : kDk) (x1 : Int32) (x2 : Int32) (x3 : Int32) (x4 : Int32) (x6 : Int32) (x7 : Int32) (x8 : Int32) (x9 : Int32) (x10 : Int32) (x11 : Int32) (x12 : Int32) (k0 : Int32), kc + (0 + c345) ≤ 185 → fn_L_holds_516 q345 d x1 x2 x3 x4 x6 x7 x8 x9 x10 x11 x12 k0 = some o → va_P D vwCl (dkW cI u d) H → va_D A (dkW cI u d) → va_S A s.heap H locs → lv_has ls 16 [(0, .ref (u.1 0)), (1, .int x1), (2, .int x2), (3, .int x3), (4, .int x4), (6, .int x6), (7, .int x7), (8, .int x8), (9, .int x9), (10, .int x10), (11, .int x11), (12, .int x12)] → W p l e ({ frames := 10, cells := 185, slots := 1110, locals := 245 }) s m args below meth c H locs kc (6 * kc) Q (F0 m 516 ls [.int k0]) := by
    intro q345 c345 hc345 i345
    intro kc H locs ls d x1 x2 x3 x4 x6 x7 x8 x9 x10 x11 x12 k0
    intro hkc hq hP hD hS hl
    refine lv_istore (lv' := [(5, .int k0), (0, .ref (u.1 0)), (1, .int x1), (2, .int x2), (3, .int x3), (4, .int x4), (6, .int x6), (7, .int x7), (8, .int x8), (9, .int x9), (10, .int x10), (11, .int x11), (12, .int x12)]) hx hb dL_holds_516 hl (by decide) rfl (fun ls hl => ?_)
    refine lv_iinc (v := (x12 + 1)) (lv' := [(12, .int (x12 + 1)), (5, .int k0), (0, .ref (u.1 0)), (1, .int x1), (2, .int x2), (3, .int x3), (4, .int x4), (6, .int x6), (7, .int x7), (8, .int x8), (9, .int x9), (10, .int x10), (11, .int x11)]) hx hb dL_holds_518 hl (k := 12) rfl rfl (by decide) rfl (fun ls hl => ?_)
    refine lv_goto (tgt := 345) hx hb dL_holds_521 (by decide) ?_
    exact i345 kc _ _ _ d x1 x2 x3 x4 k0 x6 x7 x8 x9 x10 x11 (x12 + 1) (by omega) hq hP hD hS (lv_sub hl [2, 3, 4, 5, 6, 1, 7, 8, 9, 10, 11, 12, 0] rfl)
  have b_515 : ∀ (q345 : kDk → Int32 → Int32 → Int32 → Int32 → Int32 → Int32 → Int32 → Int32 → Int32 → Int32 → Int32 → Int32 → Option (Int32 × kDk)) (c345 : Nat), 17 ≤ c345 → (∀ (kc : Nat) (H : Heap) (locs : List Loc) (ls : Array Slot) (d : kDk) (x1 : Int32) (x2 : Int32) (x3 : Int32) (x4 : Int32) (x5 : Int32) (x6 : Int32) (x7 : Int32) (x8 : Int32) (x9 : Int32) (x10 : Int32) (x11 : Int32) (x12 : Int32), kc + c345 ≤ 185 → q345 d x1 x2 x3 x4 x5 x6 x7 x8 x9 x10 x11 x12 = some o → va_P D vwCl (dkW cI u d) H → va_D A (dkW cI u d) → va_S A s.heap H locs → lv_has ls 16 [(0, .ref (u.1 0)), (1, .int x1), (2, .int x2), (3, .int x3), (4, .int x4), (5, .int x5), (6, .int x6), (7, .int x7), (8, .int x8), (9, .int x9), (10, .int x10), (11, .int x11), (12, .int x12)] → W p l e ({ frames := 10, cells := 185, slots := 1110, locals := 245 }) s m args below meth c H locs kc (6 * kc) Q (F0 m 345 ls [])) → ∀ (kc : Nat) (H : Heap) (locs : List Loc) (ls : Array Slot) (d : kDk) (x1 : Int32) (x2 : Int32) (x3 : Int32) (x4 : Int32) (x6 : Int32) (x7 : Int32) (x8 : Int32) (x9 : Int32) (x10 : Int32) (x11 : Int32) (x12 : Int32), kc + (0 + c345) ≤ 185 → fn_L_holds_515 q345 d x1 x2 x3 x4 x6 x7 x8 x9 x10 x11 x12 = some o → va_P D vwCl (dkW cI u d) H → va_D A (dkW cI u d) → va_S A s.heap H locs → lv_has ls 16 [(0, .ref (u.1 0)), (1, .int x1), (2, .int x2), (3, .int x3), (4, .int x4), (6, .int x6), (7, .int x7), (8, .int x8), (9, .int x9), (10, .int x10), (11, .int x11), (12, .int x12)] → W p l e ({ frames := 10, cells := 185, slots := 1110, locals := 245 }) s m args below meth c H locs kc (6 * kc) Q (F0 m 515 ls []) := by
    intro q345 c345 hc345 i345
    intro kc H locs ls d x1 x2 x3 x4 x6 x7 x8 x9 x10 x11 x12
    intro hkc hq hP hD hS hl
    refine lv_iconst (v := 0) hx hb dL_holds_515 (by decide) ?_
    exact b_516 q345 c345 hc345 i345 kc _ _ _ d x1 x2 x3 x4 x6 x7 x8 x9 x10 x11 x12 (0 : Int32) (by omega) hq hP hD hS (lv_sub hl [0, 1, 2, 3, 4, 5, 6, 7, 8, 9, 10, 11] rfl)
  have b_511 : ∀ (q345 : kDk → Int32 → Int32 → Int32 → Int32 → Int32 → Int32 → Int32 → Int32 → Int32 → Int32 → Int32 → Int32 → Option (Int32 × kDk)) (c345 : Nat), 17 ≤ c345 → (∀ (kc : Nat) (H : Heap) (locs : List Loc) (ls : Array Slot) (d : kDk) (x1 : Int32) (x2 : Int32) (x3 : Int32) (x4 : Int32) (x5 : Int32) (x6 : Int32) (x7 : Int32) (x8 : Int32) (x9 : Int32) (x10 : Int32) (x11 : Int32) (x12 : Int32), kc + c345 ≤ 185 → q345 d x1 x2 x3 x4 x5 x6 x7 x8 x9 x10 x11 x12 = some o → va_P D vwCl (dkW cI u d) H → va_D A (dkW cI u d) → va_S A s.heap H locs → lv_has ls 16 [(0, .ref (u.1 0)), (1, .int x1), (2, .int x2), (3, .int x3), (4, .int x4), (5, .int x5), (6, .int x6), (7, .int x7), (8, .int x8), (9, .int x9), (10, .int x10), (11, .int x11), (12, .int x12)] → W p l e ({ frames := 10, cells := 185, slots := 1110, locals := 245 }) s m args below meth c H locs kc (6 * kc) Q (F0 m 345 ls [])) → ∀ (kc : Nat) (H : Heap) (locs : List Loc) (ls : Array Slot) (d : kDk) (x1 : Int32) (x2 : Int32) (x3 : Int32) (x4 : Int32) (x6 : Int32) (x7 : Int32) (x8 : Int32) (x9 : Int32) (x10 : Int32) (x11 : Int32) (x12 : Int32), kc + (0 + c345) ≤ 185 → fn_L_holds_511 q345 d x1 x2 x3 x4 x6 x7 x8 x9 x10 x11 x12 = some o → va_P D vwCl (dkW cI u d) H → va_D A (dkW cI u d) → va_S A s.heap H locs → lv_has ls 16 [(0, .ref (u.1 0)), (1, .int x1), (2, .int x2), (3, .int x3), (4, .int x4), (6, .int x6), (7, .int x7), (8, .int x8), (9, .int x9), (10, .int x10), (11, .int x11), (12, .int x12)] → W p l e ({ frames := 10, cells := 185, slots := 1110, locals := 245 }) s m args below meth c H locs kc (6 * kc) Q (F0 m 511 ls []) := by
    intro q345 c345 hc345 i345
    intro kc H locs ls d x1 x2 x3 x4 x6 x7 x8 x9 x10 x11 x12
    intro hkc hq hP hD hS hl
    refine lv_iconst (v := 1) hx hb dL_holds_511 (by decide) ?_
    refine lv_goto (tgt := 516) hx hb dL_holds_512 (by decide) ?_
    exact b_516 q345 c345 hc345 i345 kc _ _ _ d x1 x2 x3 x4 x6 x7 x8 x9 x10 x11 x12 (1 : Int32) (by omega) hq hP hD hS (lv_sub hl [0, 1, 2, 3, 4, 5, 6, 7, 8, 9, 10, 11] rfl)
  have b_499 : ∀ (q345 : kDk → Int32 → Int32 → Int32 → Int32 → Int32 → Int32 → Int32 → Int32 → Int32 → Int32 → Int32 → Int32 → Option (Int32 × kDk)) (c345 : Nat), 17 ≤ c345 → (∀ (kc : Nat) (H : Heap) (locs : List Loc) (ls : Array Slot) (d : kDk) (x1 : Int32) (x2 : Int32) (x3 : Int32) (x4 : Int32) (x5 : Int32) (x6 : Int32) (x7 : Int32) (x8 : Int32) (x9 : Int32) (x10 : Int32) (x11 : Int32) (x12 : Int32), kc + c345 ≤ 185 → q345 d x1 x2 x3 x4 x5 x6 x7 x8 x9 x10 x11 x12 = some o → va_P D vwCl (dkW cI u d) H → va_D A (dkW cI u d) → va_S A s.heap H locs → lv_has ls 16 [(0, .ref (u.1 0)), (1, .int x1), (2, .int x2), (3, .int x3), (4, .int x4), (5, .int x5), (6, .int x6), (7, .int x7), (8, .int x8), (9, .int x9), (10, .int x10), (11, .int x11), (12, .int x12)] → W p l e ({ frames := 10, cells := 185, slots := 1110, locals := 245 }) s m args below meth c H locs kc (6 * kc) Q (F0 m 345 ls [])) → ∀ (kc : Nat) (H : Heap) (locs : List Loc) (ls : Array Slot) (d : kDk) (x1 : Int32) (x2 : Int32) (x3 : Int32) (x4 : Int32) (x6 : Int32) (x7 : Int32) (x8 : Int32) (x9 : Int32) (x10 : Int32) (x11 : Int32) (x12 : Int32) (x13 : Int32) (x15 : Int32), kc + (0 + c345) ≤ 185 → fn_L_holds_499 q345 d x1 x2 x3 x4 x6 x7 x8 x9 x10 x11 x12 x13 x15 = some o → va_P D vwCl (dkW cI u d) H → va_D A (dkW cI u d) → va_S A s.heap H locs → lv_has ls 16 [(0, .ref (u.1 0)), (1, .int x1), (2, .int x2), (3, .int x3), (4, .int x4), (6, .int x6), (7, .int x7), (8, .int x8), (9, .int x9), (10, .int x10), (11, .int x11), (12, .int x12), (13, .int x13), (15, .int x15)] → W p l e ({ frames := 10, cells := 185, slots := 1110, locals := 245 }) s m args below meth c H locs kc (6 * kc) Q (F0 m 499 ls []) := by
    intro q345 c345 hc345 i345
    intro kc H locs ls d x1 x2 x3 x4 x6 x7 x8 x9 x10 x11 x12 x13 x15
    intro hkc hq hP hD hS hl
    refine lv_iload hx hb dL_holds_499 (lv_at hl 13 rfl) ?_
    refine lv_iconst (v := 2) hx hb dL_holds_501 (by decide) ?_
    refine lv_icmp_ne (tgt := 511) hx hb dL_holds_502 (by decide) (fun c9 => ?_) (fun c9 => ?_)
    · have hq := kite_f c9 hq
      exact b_511 q345 c345 hc345 i345 kc _ _ _ d x1 x2 x3 x4 x6 x7 x8 x9 x10 x11 x12 (by omega) hq hP hD hS (lv_sub hl [0, 1, 2, 3, 4, 5, 6, 7, 8, 9, 10, 11] rfl)
    · have hq := kite_t c9 hq
      refine lv_iload hx hb dL_holds_505 (lv_at hl 12 rfl) ?_
      refine lv_iconst (v := 2) hx hb dL_holds_507 (by decide) ?_
      refine lv_icmp_lt (tgt := 515) hx hb dL_holds_508 (by decide) (fun c9 => ?_) (fun c9 => ?_)
      · have hq := kite_t c9 hq
        exact b_515 q345 c345 hc345 i345 kc _ _ _ d x1 x2 x3 x4 x6 x7 x8 x9 x10 x11 x12 (by omega) hq hP hD hS (lv_sub hl [0, 1, 2, 3, 4, 5, 6, 7, 8, 9, 10, 11] rfl)
      · have hq := kite_f c9 hq
        exact b_511 q345 c345 hc345 i345 kc _ _ _ d x1 x2 x3 x4 x6 x7 x8 x9 x10 x11 x12 (by omega) hq hP hD hS (lv_sub hl [0, 1, 2, 3, 4, 5, 6, 7, 8, 9, 10, 11] rfl)
  have b_480 : ∀ (q345 : kDk → Int32 → Int32 → Int32 → Int32 → Int32 → Int32 → Int32 → Int32 → Int32 → Int32 → Int32 → Int32 → Option (Int32 × kDk)) (c345 : Nat), 17 ≤ c345 → (∀ (kc : Nat) (H : Heap) (locs : List Loc) (ls : Array Slot) (d : kDk) (x1 : Int32) (x2 : Int32) (x3 : Int32) (x4 : Int32) (x5 : Int32) (x6 : Int32) (x7 : Int32) (x8 : Int32) (x9 : Int32) (x10 : Int32) (x11 : Int32) (x12 : Int32), kc + c345 ≤ 185 → q345 d x1 x2 x3 x4 x5 x6 x7 x8 x9 x10 x11 x12 = some o → va_P D vwCl (dkW cI u d) H → va_D A (dkW cI u d) → va_S A s.heap H locs → lv_has ls 16 [(0, .ref (u.1 0)), (1, .int x1), (2, .int x2), (3, .int x3), (4, .int x4), (5, .int x5), (6, .int x6), (7, .int x7), (8, .int x8), (9, .int x9), (10, .int x10), (11, .int x11), (12, .int x12)] → W p l e ({ frames := 10, cells := 185, slots := 1110, locals := 245 }) s m args below meth c H locs kc (6 * kc) Q (F0 m 345 ls [])) → ∀ (kc : Nat) (H : Heap) (locs : List Loc) (ls : Array Slot) (d : kDk) (x1 : Int32) (x2 : Int32) (x3 : Int32) (x4 : Int32) (x6 : Int32) (x7 : Int32) (x8 : Int32) (x9 : Int32) (x10 : Int32) (x11 : Int32) (x12 : Int32) (x13 : Int32) (x15 : Int32), kc + (0 + c345) ≤ 185 → fn_L_holds_480 q345 d x1 x2 x3 x4 x6 x7 x8 x9 x10 x11 x12 x13 x15 = some o → va_P D vwCl (dkW cI u d) H → va_D A (dkW cI u d) → va_S A s.heap H locs → lv_has ls 16 [(0, .ref (u.1 0)), (1, .int x1), (2, .int x2), (3, .int x3), (4, .int x4), (6, .int x6), (7, .int x7), (8, .int x8), (9, .int x9), (10, .int x10), (11, .int x11), (12, .int x12), (13, .int x13), (15, .int x15)] → W p l e ({ frames := 10, cells := 185, slots := 1110, locals := 245 }) s m args below meth c H locs kc (6 * kc) Q (F0 m 480 ls []) := by
    intro q345 c345 hc345 i345
    intro kc H locs ls d x1 x2 x3 x4 x6 x7 x8 x9 x10 x11 x12 x13 x15
    intro hkc hq hP hD hS hl
    refine lv_iload hx hb dL_holds_480 (lv_at hl 11 rfl) ?_
    refine lv_bipush (v := 9) hx hb dL_holds_482 (by decide) ?_
    refine lv_icmp_eq (tgt := 499) hx hb dL_holds_484 (by decide) (fun c9 => ?_) (fun c9 => ?_)
    · have hq := kite_t c9 hq
      exact b_499 q345 c345 hc345 i345 kc _ _ _ d x1 x2 x3 x4 x6 x7 x8 x9 x10 x11 x12 x13 x15 (by omega) hq hP hD hS (lv_sub hl [0, 1, 2, 3, 4, 5, 6, 7, 8, 9, 10, 11, 12, 13] rfl)
    · have hq := kite_f c9 hq
      refine lv_iload hx hb dL_holds_487 (lv_at hl 13 rfl) ?_
      refine lv_iconst (v := 1) hx hb dL_holds_489 (by decide) ?_
      refine lv_icmp_ne (tgt := 499) hx hb dL_holds_490 (by decide) (fun c9 => ?_) (fun c9 => ?_)
      · have hq := kite_f c9 hq
        exact b_499 q345 c345 hc345 i345 kc _ _ _ d x1 x2 x3 x4 x6 x7 x8 x9 x10 x11 x12 x13 x15 (by omega) hq hP hD hS (lv_sub hl [0, 1, 2, 3, 4, 5, 6, 7, 8, 9, 10, 11, 12, 13] rfl)
      · have hq := kite_t c9 hq
        refine lv_iload hx hb dL_holds_493 (lv_at hl 12 rfl) ?_
        refine lv_iconst (v := 1) hx hb dL_holds_495 (by decide) ?_
        refine lv_icmp_ne (tgt := 515) hx hb dL_holds_496 (by decide) (fun c9 => ?_) (fun c9 => ?_)
        · have hq := kite_f c9 hq
          exact b_515 q345 c345 hc345 i345 kc _ _ _ d x1 x2 x3 x4 x6 x7 x8 x9 x10 x11 x12 (by omega) hq hP hD hS (lv_sub hl [0, 1, 2, 3, 4, 5, 6, 7, 8, 9, 10, 11] rfl)
        · have hq := kite_t c9 hq
          exact b_499 q345 c345 hc345 i345 kc _ _ _ d x1 x2 x3 x4 x6 x7 x8 x9 x10 x11 x12 x13 x15 (by omega) hq hP hD hS (lv_sub hl [0, 1, 2, 3, 4, 5, 6, 7, 8, 9, 10, 11, 12, 13] rfl)
  have b_468 : ∀ (q345 : kDk → Int32 → Int32 → Int32 → Int32 → Int32 → Int32 → Int32 → Int32 → Int32 → Int32 → Int32 → Int32 → Option (Int32 × kDk)) (c345 : Nat), 17 ≤ c345 → (∀ (kc : Nat) (H : Heap) (locs : List Loc) (ls : Array Slot) (d : kDk) (x1 : Int32) (x2 : Int32) (x3 : Int32) (x4 : Int32) (x5 : Int32) (x6 : Int32) (x7 : Int32) (x8 : Int32) (x9 : Int32) (x10 : Int32) (x11 : Int32) (x12 : Int32), kc + c345 ≤ 185 → q345 d x1 x2 x3 x4 x5 x6 x7 x8 x9 x10 x11 x12 = some o → va_P D vwCl (dkW cI u d) H → va_D A (dkW cI u d) → va_S A s.heap H locs → lv_has ls 16 [(0, .ref (u.1 0)), (1, .int x1), (2, .int x2), (3, .int x3), (4, .int x4), (5, .int x5), (6, .int x6), (7, .int x7), (8, .int x8), (9, .int x9), (10, .int x10), (11, .int x11), (12, .int x12)] → W p l e ({ frames := 10, cells := 185, slots := 1110, locals := 245 }) s m args below meth c H locs kc (6 * kc) Q (F0 m 345 ls [])) → ∀ (kc : Nat) (H : Heap) (locs : List Loc) (ls : Array Slot) (d : kDk) (x1 : Int32) (x2 : Int32) (x3 : Int32) (x4 : Int32) (x6 : Int32) (x7 : Int32) (x8 : Int32) (x9 : Int32) (x10 : Int32) (x11 : Int32) (x12 : Int32) (x13 : Int32) (x14 : Int32) (x15 : Int32), kc + (0 + c345) ≤ 185 → fn_L_holds_468 q345 d x1 x2 x3 x4 x6 x7 x8 x9 x10 x11 x12 x13 x14 x15 = some o → va_P D vwCl (dkW cI u d) H → va_D A (dkW cI u d) → va_S A s.heap H locs → lv_has ls 16 [(0, .ref (u.1 0)), (1, .int x1), (2, .int x2), (3, .int x3), (4, .int x4), (6, .int x6), (7, .int x7), (8, .int x8), (9, .int x9), (10, .int x10), (11, .int x11), (12, .int x12), (13, .int x13), (14, .int x14), (15, .int x15)] → W p l e ({ frames := 10, cells := 185, slots := 1110, locals := 245 }) s m args below meth c H locs kc (6 * kc) Q (F0 m 468 ls []) := by
    intro q345 c345 hc345 i345
    intro kc H locs ls d x1 x2 x3 x4 x6 x7 x8 x9 x10 x11 x12 x13 x14 x15
    intro hkc hq hP hD hS hl
    refine lv_iload hx hb dL_holds_468 (lv_at hl 14 rfl) ?_
    refine lv_if_gt (tgt := 480) hx hb dL_holds_470 (by decide) (fun c9 => ?_) (fun c9 => ?_)
    · have hq := kite_t c9 hq
      exact b_480 q345 c345 hc345 i345 kc _ _ _ d x1 x2 x3 x4 x6 x7 x8 x9 x10 x11 x12 x13 x15 (by omega) hq hP hD hS (lv_sub hl [0, 1, 2, 3, 4, 5, 6, 7, 8, 9, 10, 11, 12, 14] rfl)
    · have hq := kite_f c9 hq
      refine lv_iload hx hb dL_holds_473 (lv_at hl 13 rfl) ?_
      refine lv_bipush (v := 10) hx hb dL_holds_475 (by decide) ?_
      refine lv_icmp_gt (tgt := 515) hx hb dL_holds_477 (by decide) (fun c9 => ?_) (fun c9 => ?_)
      · have hq := kite_t c9 hq
        exact b_515 q345 c345 hc345 i345 kc _ _ _ d x1 x2 x3 x4 x6 x7 x8 x9 x10 x11 x12 (by omega) hq hP hD hS (lv_sub hl [0, 1, 2, 3, 4, 5, 6, 7, 8, 9, 10, 11] rfl)
      · have hq := kite_f c9 hq
        exact b_480 q345 c345 hc345 i345 kc _ _ _ d x1 x2 x3 x4 x6 x7 x8 x9 x10 x11 x12 x13 x15 (by omega) hq hP hD hS (lv_sub hl [0, 1, 2, 3, 4, 5, 6, 7, 8, 9, 10, 11, 12, 14] rfl)
  have b_453 : ∀ (q345 : kDk → Int32 → Int32 → Int32 → Int32 → Int32 → Int32 → Int32 → Int32 → Int32 → Int32 → Int32 → Int32 → Option (Int32 × kDk)) (c345 : Nat), 17 ≤ c345 → (∀ (kc : Nat) (H : Heap) (locs : List Loc) (ls : Array Slot) (d : kDk) (x1 : Int32) (x2 : Int32) (x3 : Int32) (x4 : Int32) (x5 : Int32) (x6 : Int32) (x7 : Int32) (x8 : Int32) (x9 : Int32) (x10 : Int32) (x11 : Int32) (x12 : Int32), kc + c345 ≤ 185 → q345 d x1 x2 x3 x4 x5 x6 x7 x8 x9 x10 x11 x12 = some o → va_P D vwCl (dkW cI u d) H → va_D A (dkW cI u d) → va_S A s.heap H locs → lv_has ls 16 [(0, .ref (u.1 0)), (1, .int x1), (2, .int x2), (3, .int x3), (4, .int x4), (5, .int x5), (6, .int x6), (7, .int x7), (8, .int x8), (9, .int x9), (10, .int x10), (11, .int x11), (12, .int x12)] → W p l e ({ frames := 10, cells := 185, slots := 1110, locals := 245 }) s m args below meth c H locs kc (6 * kc) Q (F0 m 345 ls [])) → ∀ (kc : Nat) (H : Heap) (locs : List Loc) (ls : Array Slot) (d : kDk) (x1 : Int32) (x2 : Int32) (x3 : Int32) (x4 : Int32) (x6 : Int32) (x7 : Int32) (x8 : Int32) (x9 : Int32) (x10 : Int32) (x11 : Int32) (x12 : Int32) (x13 : Int32) (x14 : Int32) (x15 : Int32) (k0 : Int32) (k1 : Int32), kc + (0 + c345) ≤ 185 → fn_L_holds_453 q345 d x1 x2 x3 x4 x6 x7 x8 x9 x10 x11 x12 x13 x14 x15 k0 k1 = some o → va_P D vwCl (dkW cI u d) H → va_D A (dkW cI u d) → va_S A s.heap H locs → lv_has ls 16 [(0, .ref (u.1 0)), (1, .int x1), (2, .int x2), (3, .int x3), (4, .int x4), (6, .int x6), (7, .int x7), (8, .int x8), (9, .int x9), (10, .int x10), (11, .int x11), (12, .int x12), (13, .int x13), (14, .int x14), (15, .int x15)] → W p l e ({ frames := 10, cells := 185, slots := 1110, locals := 245 }) s m args below meth c H locs kc (6 * kc) Q (F0 m 453 ls [.int k1, .int k0]) := by
    intro q345 c345 hc345 i345
    intro kc H locs ls d x1 x2 x3 x4 x6 x7 x8 x9 x10 x11 x12 x13 x14 x15 k0 k1
    intro hkc hq hP hD hS hl
    refine lv_icmp_lt (tgt := 515) hx hb dL_holds_453 (by decide) (fun c9 => ?_) (fun c9 => ?_)
    · have hq := kite_t c9 hq
      exact b_515 q345 c345 hc345 i345 kc _ _ _ d x1 x2 x3 x4 x6 x7 x8 x9 x10 x11 x12 (by omega) hq hP hD hS (lv_sub hl [0, 1, 2, 3, 4, 5, 6, 7, 8, 9, 10, 11] rfl)
    · have hq := kite_f c9 hq
      refine lv_iload hx hb dL_holds_456 (lv_at hl 11 rfl) ?_
      refine lv_iload hx hb dL_holds_458 (lv_at hl 6 rfl) ?_
      refine lv_icmp_ge (tgt := 468) hx hb dL_holds_460 (by decide) (fun c9 => ?_) (fun c9 => ?_)
      · have hq := kite_t c9 hq
        exact b_468 q345 c345 hc345 i345 kc _ _ _ d x1 x2 x3 x4 x6 x7 x8 x9 x10 x11 x12 x13 x14 x15 (by omega) hq hP hD hS (lv_sub hl [0, 1, 2, 3, 4, 5, 6, 7, 8, 9, 10, 11, 12, 13, 14] rfl)
      · have hq := kite_f c9 hq
        refine lv_iload hx hb dL_holds_463 (lv_at hl 12 rfl) ?_
        refine lv_if_le (tgt := 515) hx hb dL_holds_465 (by decide) (fun c9 => ?_) (fun c9 => ?_)
        · have hq := kite_t c9 hq
          exact b_515 q345 c345 hc345 i345 kc _ _ _ d x1 x2 x3 x4 x6 x7 x8 x9 x10 x11 x12 (by omega) hq hP hD hS (lv_sub hl [0, 1, 2, 3, 4, 5, 6, 7, 8, 9, 10, 11] rfl)
        · have hq := kite_f c9 hq
          exact b_468 q345 c345 hc345 i345 kc _ _ _ d x1 x2 x3 x4 x6 x7 x8 x9 x10 x11 x12 x13 x14 x15 (by omega) hq hP hD hS (lv_sub hl [0, 1, 2, 3, 4, 5, 6, 7, 8, 9, 10, 11, 12, 13, 14] rfl)
  have b_433 : ∀ (q345 : kDk → Int32 → Int32 → Int32 → Int32 → Int32 → Int32 → Int32 → Int32 → Int32 → Int32 → Int32 → Int32 → Option (Int32 × kDk)) (c345 : Nat), 17 ≤ c345 → (∀ (kc : Nat) (H : Heap) (locs : List Loc) (ls : Array Slot) (d : kDk) (x1 : Int32) (x2 : Int32) (x3 : Int32) (x4 : Int32) (x5 : Int32) (x6 : Int32) (x7 : Int32) (x8 : Int32) (x9 : Int32) (x10 : Int32) (x11 : Int32) (x12 : Int32), kc + c345 ≤ 185 → q345 d x1 x2 x3 x4 x5 x6 x7 x8 x9 x10 x11 x12 = some o → va_P D vwCl (dkW cI u d) H → va_D A (dkW cI u d) → va_S A s.heap H locs → lv_has ls 16 [(0, .ref (u.1 0)), (1, .int x1), (2, .int x2), (3, .int x3), (4, .int x4), (5, .int x5), (6, .int x6), (7, .int x7), (8, .int x8), (9, .int x9), (10, .int x10), (11, .int x11), (12, .int x12)] → W p l e ({ frames := 10, cells := 185, slots := 1110, locals := 245 }) s m args below meth c H locs kc (6 * kc) Q (F0 m 345 ls [])) → ∀ (kc : Nat) (H : Heap) (locs : List Loc) (ls : Array Slot) (d : kDk) (x1 : Int32) (x2 : Int32) (x3 : Int32) (x4 : Int32) (x6 : Int32) (x7 : Int32) (x8 : Int32) (x9 : Int32) (x10 : Int32) (x11 : Int32) (x12 : Int32) (x13 : Int32) (x14 : Int32) (x15 : Int32), kc + (0 + c345) ≤ 185 → fn_L_holds_433 q345 d x1 x2 x3 x4 x6 x7 x8 x9 x10 x11 x12 x13 x14 x15 = some o → va_P D vwCl (dkW cI u d) H → va_D A (dkW cI u d) → va_S A s.heap H locs → lv_has ls 16 [(0, .ref (u.1 0)), (1, .int x1), (2, .int x2), (3, .int x3), (4, .int x4), (6, .int x6), (7, .int x7), (8, .int x8), (9, .int x9), (10, .int x10), (11, .int x11), (12, .int x12), (13, .int x13), (14, .int x14), (15, .int x15)] → W p l e ({ frames := 10, cells := 185, slots := 1110, locals := 245 }) s m args below meth c H locs kc (6 * kc) Q (F0 m 433 ls []) := by
    intro q345 c345 hc345 i345
    intro kc H locs ls d x1 x2 x3 x4 x6 x7 x8 x9 x10 x11 x12 x13 x14 x15
    intro hkc hq hP hD hS hl
    refine lv_iload hx hb dL_holds_433 (lv_at hl 13 rfl) ?_
    refine lv_bipush (v := 30) hx hb dL_holds_435 (by decide) ?_
    refine lv_icmp_gt (tgt := 515) hx hb dL_holds_437 (by decide) (fun c9 => ?_) (fun c9 => ?_)
    · have hq := kite_t c9 hq
      exact b_515 q345 c345 hc345 i345 kc _ _ _ d x1 x2 x3 x4 x6 x7 x8 x9 x10 x11 x12 (by omega) hq hP hD hS (lv_sub hl [0, 1, 2, 3, 4, 5, 6, 7, 8, 9, 10, 11] rfl)
    · have hq := kite_f c9 hq
      refine lv_iload hx hb dL_holds_440 (lv_at hl 13 rfl) ?_
      refine lv_iload hx hb dL_holds_442 (lv_at hl 14 rfl) ?_
      refine lv_if_le (tgt := 452) hx hb dL_holds_444 (by decide) (fun c9 => ?_) (fun c9 => ?_)
      · have hq := kite_t c9 hq
        refine lv_iconst (v := 0) hx hb dL_holds_452 (by decide) ?_
        exact b_453 q345 c345 hc345 i345 kc _ _ _ d x1 x2 x3 x4 x6 x7 x8 x9 x10 x11 x12 x13 x14 x15 x14 (0 : Int32) (by omega) hq hP hD hS (lv_sub hl [0, 1, 2, 3, 4, 5, 6, 7, 8, 9, 10, 11, 12, 13, 14] rfl)
      · have hq := kite_f c9 hq
        refine lv_bipush (v := 10) hx hb dL_holds_447 (by decide) ?_
        refine lv_goto (tgt := 453) hx hb dL_holds_449 (by decide) ?_
        exact b_453 q345 c345 hc345 i345 kc _ _ _ d x1 x2 x3 x4 x6 x7 x8 x9 x10 x11 x12 x13 x14 x15 x14 (10 : Int32) (by omega) hq hP hD hS (lv_sub hl [0, 1, 2, 3, 4, 5, 6, 7, 8, 9, 10, 11, 12, 13, 14] rfl)
  have b_418 : ∀ (q345 : kDk → Int32 → Int32 → Int32 → Int32 → Int32 → Int32 → Int32 → Int32 → Int32 → Int32 → Int32 → Int32 → Option (Int32 × kDk)) (c345 : Nat), 17 ≤ c345 → (∀ (kc : Nat) (H : Heap) (locs : List Loc) (ls : Array Slot) (d : kDk) (x1 : Int32) (x2 : Int32) (x3 : Int32) (x4 : Int32) (x5 : Int32) (x6 : Int32) (x7 : Int32) (x8 : Int32) (x9 : Int32) (x10 : Int32) (x11 : Int32) (x12 : Int32), kc + c345 ≤ 185 → q345 d x1 x2 x3 x4 x5 x6 x7 x8 x9 x10 x11 x12 = some o → va_P D vwCl (dkW cI u d) H → va_D A (dkW cI u d) → va_S A s.heap H locs → lv_has ls 16 [(0, .ref (u.1 0)), (1, .int x1), (2, .int x2), (3, .int x3), (4, .int x4), (5, .int x5), (6, .int x6), (7, .int x7), (8, .int x8), (9, .int x9), (10, .int x10), (11, .int x11), (12, .int x12)] → W p l e ({ frames := 10, cells := 185, slots := 1110, locals := 245 }) s m args below meth c H locs kc (6 * kc) Q (F0 m 345 ls [])) → ∀ (kc : Nat) (H : Heap) (locs : List Loc) (ls : Array Slot) (d : kDk) (x1 : Int32) (x2 : Int32) (x3 : Int32) (x4 : Int32) (x6 : Int32) (x7 : Int32) (x8 : Int32) (x9 : Int32) (x10 : Int32) (x11 : Int32) (x12 : Int32) (x13 : Int32) (x14 : Int32) (x15 : Int32) (k0 : Int32) (k1 : Int32), kc + (0 + c345) ≤ 185 → fn_L_holds_418 q345 d x1 x2 x3 x4 x6 x7 x8 x9 x10 x11 x12 x13 x14 x15 k0 k1 = some o → va_P D vwCl (dkW cI u d) H → va_D A (dkW cI u d) → va_S A s.heap H locs → lv_has ls 16 [(0, .ref (u.1 0)), (1, .int x1), (2, .int x2), (3, .int x3), (4, .int x4), (6, .int x6), (7, .int x7), (8, .int x8), (9, .int x9), (10, .int x10), (11, .int x11), (12, .int x12), (13, .int x13), (14, .int x14), (15, .int x15)] → W p l e ({ frames := 10, cells := 185, slots := 1110, locals := 245 }) s m args below meth c H locs kc (6 * kc) Q (F0 m 418 ls [.int k1, .int k0]) := by
    intro q345 c345 hc345 i345
    intro kc H locs ls d x1 x2 x3 x4 x6 x7 x8 x9 x10 x11 x12 x13 x14 x15 k0 k1
    intro hkc hq hP hD hS hl
    refine lv_icmp_gt (tgt := 515) hx hb dL_holds_418 (by decide) (fun c9 => ?_) (fun c9 => ?_)
    · have hq := kite_t c9 hq
      exact b_515 q345 c345 hc345 i345 kc _ _ _ d x1 x2 x3 x4 x6 x7 x8 x9 x10 x11 x12 (by omega) hq hP hD hS (lv_sub hl [0, 1, 2, 3, 4, 5, 6, 7, 8, 9, 10, 11] rfl)
    · have hq := kite_f c9 hq
      refine lv_iload hx hb dL_holds_421 (lv_at hl 11 rfl) ?_
      refine lv_iload hx hb dL_holds_423 (lv_at hl 6 rfl) ?_
      refine lv_icmp_le (tgt := 433) hx hb dL_holds_425 (by decide) (fun c9 => ?_) (fun c9 => ?_)
      · have hq := kite_t c9 hq
        exact b_433 q345 c345 hc345 i345 kc _ _ _ d x1 x2 x3 x4 x6 x7 x8 x9 x10 x11 x12 x13 x14 x15 (by omega) hq hP hD hS (lv_sub hl [0, 1, 2, 3, 4, 5, 6, 7, 8, 9, 10, 11, 12, 13, 14] rfl)
      · have hq := kite_f c9 hq
        refine lv_iload hx hb dL_holds_428 (lv_at hl 12 rfl) ?_
        refine lv_if_ne (tgt := 515) hx hb dL_holds_430 (by decide) (fun c9 => ?_) (fun c9 => ?_)
        · have hq := kite_f c9 hq
          exact b_515 q345 c345 hc345 i345 kc _ _ _ d x1 x2 x3 x4 x6 x7 x8 x9 x10 x11 x12 (by omega) hq hP hD hS (lv_sub hl [0, 1, 2, 3, 4, 5, 6, 7, 8, 9, 10, 11] rfl)
        · have hq := kite_t c9 hq
          exact b_433 q345 c345 hc345 i345 kc _ _ _ d x1 x2 x3 x4 x6 x7 x8 x9 x10 x11 x12 x13 x14 x15 (by omega) hq hP hD hS (lv_sub hl [0, 1, 2, 3, 4, 5, 6, 7, 8, 9, 10, 11, 12, 13, 14] rfl)
  have b_345 : ∀ (q : Nat), ∀ (kc : Nat) (H : Heap) (locs : List Loc) (ls : Array Slot) (d : kDk) (x1 : Int32) (x2 : Int32) (x3 : Int32) (x4 : Int32) (x5 : Int32) (x6 : Int32) (x7 : Int32) (x8 : Int32) (x9 : Int32) (x10 : Int32) (x11 : Int32) (x12 : Int32), kc + (q * 3 + 17) ≤ 185 → fn_L_holds_345 q d x1 x2 x3 x4 x5 x6 x7 x8 x9 x10 x11 x12 = some o → va_P D vwCl (dkW cI u d) H → va_D A (dkW cI u d) → va_S A s.heap H locs → lv_has ls 16 [(0, .ref (u.1 0)), (1, .int x1), (2, .int x2), (3, .int x3), (4, .int x4), (5, .int x5), (6, .int x6), (7, .int x7), (8, .int x8), (9, .int x9), (10, .int x10), (11, .int x11), (12, .int x12)] → W p l e ({ frames := 10, cells := 185, slots := 1110, locals := 245 }) s m args below meth c H locs kc (6 * kc) Q (F0 m 345 ls []) := by
    intro q
    induction q with
    | zero =>
      intro kc H locs ls d x1 x2 x3 x4 x5 x6 x7 x8 x9 x10 x11 x12
      intro _ hq
      cases hq
    | succ q ih =>
      intro kc H locs ls d x1 x2 x3 x4 x5 x6 x7 x8 x9 x10 x11 x12
      intro hkc hq hP hD hS hl
      refine lv_iload hx hb dL_holds_345 (lv_at hl 12 rfl) ?_
      refine lv_bipush (v := 10) hx hb dL_holds_347 (by decide) ?_
      refine lv_icmp_ge (tgt := 524) hx hb dL_holds_349 (by decide) (fun c9 => ?_) (fun c9 => ?_)
      · have hq := kite_t c9 hq
        exact b_524  kc _ _ _ d x1 x2 x3 x4 x5 x6 x7 x8 x9 x10 x11 (by omega) hq hP hD hS (lv_sub hl [0, 1, 2, 3, 4, 5, 6, 7, 8, 9, 10, 11] rfl)
      · have hq := kite_f c9 hq
        refine lv_iload hx hb dL_holds_352 (lv_at hl 5 rfl) ?_
        refine lv_if_eq (tgt := 524) hx hb dL_holds_354 (by decide) (fun c9 => ?_) (fun c9 => ?_)
        · have hq := kite_t c9 hq
          exact b_524  kc _ _ _ d x1 x2 x3 x4 x5 x6 x7 x8 x9 x10 x11 (by omega) hq hP hD hS (lv_sub hl [0, 1, 2, 3, 4, 5, 6, 7, 8, 9, 10, 11] rfl)
        · have hq := kite_f c9 hq
          refine lv_aload_n hx hb dL_holds_357 rfl (lv_at hl 0 rfl) ?_
          refine lv_iconst (v := 4) hx hb dL_holds_358 (by decide) ?_
          refine lv_iload hx hb dL_holds_359 (lv_at hl 12 rfl) ?_
          refine lv_iconst (v := 0) hx hb dL_holds_361 (by decide) ?_
          refine lv_iconst (v := 0) hx hb dL_holds_362 (by decide) ?_
          obtain ⟨o363, ho363, hq⟩ := kbind hq
          refine kh_Si (k := kc) (nc := 1) (av := [.ref (u.1 0), .int (4 : Int32), .int x12, .int (0 : Int32), .int (0 : Int32)]) (rest := []) (ws' := (dkW cI u o363.2)) hF hK hG hA (mk_L_call l hst D cI u H.size d (4 : Int32) x12 (0 : Int32) (0 : Int32) o363 ho363) (va_cwS 5 hts gL_holds_L_call rfl rfl rfl (by decide +kernel) ⟨Nat.le_of_ble_eq_true rfl, Nat.le_of_ble_eq_true rfl⟩) hP hD hS (kSub_all dkW_fst) rfl hl.1 rfl (Nat.le_of_ble_eq_true rfl) ⟨by show kc + 1 ≤ 185; omega, by show 6 * kc + 6 * 1 ≤ 1110; omega⟩ dL_holds_363 (fun H locs hP hD hS => ?_)
          refine lv_istore (lv' := [(13, .int o363.1), (0, .ref (u.1 0)), (1, .int x1), (2, .int x2), (3, .int x3), (4, .int x4), (5, .int x5), (6, .int x6), (7, .int x7), (8, .int x8), (9, .int x9), (10, .int x10), (11, .int x11), (12, .int x12)]) hx hb dL_holds_366 hl (by decide) rfl (fun ls hl => ?_)
          refine lv_aload_n hx hb dL_holds_368 rfl (lv_at hl 1 rfl) ?_
          refine lv_iconst (v := 4) hx hb dL_holds_369 (by decide) ?_
          refine lv_iload hx hb dL_holds_370 (lv_at hl 13 rfl) ?_
          refine lv_iconst (v := 1) hx hb dL_holds_372 (by decide) ?_
          refine lv_iconst (v := 0) hx hb dL_holds_373 (by decide) ?_
          obtain ⟨o374, ho374, hq⟩ := kbind hq
          refine kh_Si (k := (kc + 1)) (nc := 1) (av := [.ref (u.1 0), .int (4 : Int32), .int x12, .int (1 : Int32), .int (0 : Int32)]) (rest := []) (ws' := (dkW cI u o374.2)) hF hK hG hA (mk_L_call l hst D cI u H.size o363.2 (4 : Int32) x12 (1 : Int32) (0 : Int32) o374 ho374) (va_cwS 5 hts gL_holds_L_call rfl rfl rfl (by decide +kernel) ⟨Nat.le_of_ble_eq_true rfl, Nat.le_of_ble_eq_true rfl⟩) hP hD hS (kSub_all dkW_fst) rfl hl.1 rfl (Nat.le_of_ble_eq_true rfl) ⟨by show (kc + 1) + 1 ≤ 185; omega, by show 6 * (kc + 1) + 6 * 1 ≤ 1110; omega⟩ dL_holds_374 (fun H locs hP hD hS => ?_)
          refine lv_istore (lv' := [(14, .int o374.1), (13, .int o363.1), (0, .ref (u.1 0)), (1, .int x1), (2, .int x2), (3, .int x3), (4, .int x4), (5, .int x5), (6, .int x6), (7, .int x7), (8, .int x8), (9, .int x9), (10, .int x10), (11, .int x11), (12, .int x12)]) hx hb dL_holds_377 hl (by decide) rfl (fun ls hl => ?_)
          refine lv_aload_n hx hb dL_holds_379 rfl (lv_at hl 2 rfl) ?_
          refine lv_iconst (v := 4) hx hb dL_holds_380 (by decide) ?_
          refine lv_iload hx hb dL_holds_381 (lv_at hl 14 rfl) ?_
          refine lv_iconst (v := 2) hx hb dL_holds_383 (by decide) ?_
          refine lv_iconst (v := 0) hx hb dL_holds_384 (by decide) ?_
          obtain ⟨o385, ho385, hq⟩ := kbind hq
          refine kh_Si (k := (kc + 1 + 1)) (nc := 1) (av := [.ref (u.1 0), .int (4 : Int32), .int x12, .int (2 : Int32), .int (0 : Int32)]) (rest := []) (ws' := (dkW cI u o385.2)) hF hK hG hA (mk_L_call l hst D cI u H.size o374.2 (4 : Int32) x12 (2 : Int32) (0 : Int32) o385 ho385) (va_cwS 5 hts gL_holds_L_call rfl rfl rfl (by decide +kernel) ⟨Nat.le_of_ble_eq_true rfl, Nat.le_of_ble_eq_true rfl⟩) hP hD hS (kSub_all dkW_fst) rfl hl.1 rfl (Nat.le_of_ble_eq_true rfl) ⟨by show (kc + 1 + 1) + 1 ≤ 185; omega, by show 6 * (kc + 1 + 1) + 6 * 1 ≤ 1110; omega⟩ dL_holds_385 (fun H locs hP hD hS => ?_)
          refine lv_istore (lv' := [(15, .int o385.1), (14, .int o374.1), (13, .int o363.1), (0, .ref (u.1 0)), (1, .int x1), (2, .int x2), (3, .int x3), (4, .int x4), (5, .int x5), (6, .int x6), (7, .int x7), (8, .int x8), (9, .int x9), (10, .int x10), (11, .int x11), (12, .int x12)]) hx hb dL_holds_388 hl (by decide) rfl (fun ls hl => ?_)
          refine lv_iload hx hb dL_holds_390 (lv_at hl 12 rfl) ?_
          refine lv_iload hx hb dL_holds_392 (lv_at hl 2 rfl) ?_
          refine lv_iadd hx hb dL_holds_394 ?_
          refine lv_istore (lv' := [(9, .int (x9 + o363.1)), (15, .int o385.1), (14, .int o374.1), (13, .int o363.1), (0, .ref (u.1 0)), (1, .int x1), (2, .int x2), (3, .int x3), (4, .int x4), (5, .int x5), (6, .int x6), (7, .int x7), (8, .int x8), (10, .int x10), (11, .int x11), (12, .int x12)]) hx hb dL_holds_395 hl (by decide) rfl (fun ls hl => ?_)
          refine lv_iload hx hb dL_holds_397 (lv_at hl 13 rfl) ?_
          refine lv_iload hx hb dL_holds_399 (lv_at hl 2 rfl) ?_
          refine lv_iadd hx hb dL_holds_401 ?_
          refine lv_istore (lv' := [(10, .int (x10 + o374.1)), (9, .int (x9 + o363.1)), (15, .int o385.1), (14, .int o374.1), (13, .int o363.1), (0, .ref (u.1 0)), (1, .int x1), (2, .int x2), (3, .int x3), (4, .int x4), (5, .int x5), (6, .int x6), (7, .int x7), (8, .int x8), (11, .int x11), (12, .int x12)]) hx hb dL_holds_402 hl (by decide) rfl (fun ls hl => ?_)
          refine lv_iload hx hb dL_holds_404 (lv_at hl 4 rfl) ?_
          refine lv_iload hx hb dL_holds_406 (lv_at hl 15 rfl) ?_
          refine lv_bipush (v := 9) hx hb dL_holds_408 (by decide) ?_
          refine lv_icmp_ne (tgt := 417) hx hb dL_holds_410 (by decide) (fun c9 => ?_) (fun c9 => ?_)
          · have hq := kite_f c9 hq
            refine lv_iconst (v := 2) hx hb dL_holds_417 (by decide) ?_
            exact b_418 (fn_L_holds_345 q) (q * 3 + 17) (by omega) ih (kc + 1 + 1 + 1) _ _ _ o385.2 x1 x2 x3 x4 x6 x7 x8 (x9 + o363.1) (x10 + o374.1) x11 x12 o363.1 o374.1 o385.1 o363.1 (2 : Int32) (by omega) hq hP hD hS (lv_sub hl [5, 6, 7, 8, 9, 11, 12, 13, 1, 0, 14, 15, 4, 3, 2] rfl)
          · have hq := kite_t c9 hq
            refine lv_iconst (v := 3) hx hb dL_holds_413 (by decide) ?_
            refine lv_goto (tgt := 418) hx hb dL_holds_414 (by decide) ?_
            exact b_418 (fn_L_holds_345 q) (q * 3 + 17) (by omega) ih (kc + 1 + 1 + 1) _ _ _ o385.2 x1 x2 x3 x4 x6 x7 x8 (x9 + o363.1) (x10 + o374.1) x11 x12 o363.1 o374.1 o385.1 o363.1 (3 : Int32) (by omega) hq hP hD hS (lv_sub hl [5, 6, 7, 8, 9, 11, 12, 13, 1, 0, 14, 15, 4, 3, 2] rfl)
  have b_342 : ∀ (kc : Nat) (H : Heap) (locs : List Loc) (ls : Array Slot) (d : kDk) (x1 : Int32) (x2 : Int32) (x3 : Int32) (x4 : Int32) (x5 : Int32) (x6 : Int32) (x7 : Int32) (x8 : Int32) (x9 : Int32) (x10 : Int32) (x11 : Int32), kc + 53 ≤ 185 → fn_L_holds_342 d x1 x2 x3 x4 x5 x6 x7 x8 x9 x10 x11 = some o → va_P D vwCl (dkW cI u d) H → va_D A (dkW cI u d) → va_S A s.heap H locs → lv_has ls 16 [(0, .ref (u.1 0)), (1, .int x1), (2, .int x2), (3, .int x3), (4, .int x4), (5, .int x5), (6, .int x6), (7, .int x7), (8, .int x8), (9, .int x9), (10, .int x10), (11, .int x11)] → W p l e ({ frames := 10, cells := 185, slots := 1110, locals := 245 }) s m args below meth c H locs kc (6 * kc) Q (F0 m 342 ls []) := by
    intro kc H locs ls d x1 x2 x3 x4 x5 x6 x7 x8 x9 x10 x11
    intro hkc hq hP hD hS hl
    refine lv_iconst (v := 0) hx hb dL_holds_342 (by decide) ?_
    refine lv_istore (lv' := [(12, .int (0 : Int32)), (0, .ref (u.1 0)), (1, .int x1), (2, .int x2), (3, .int x3), (4, .int x4), (5, .int x5), (6, .int x6), (7, .int x7), (8, .int x8), (9, .int x9), (10, .int x10), (11, .int x11)]) hx hb dL_holds_343 hl (by decide) rfl (fun ls hl => ?_)
    exact b_345 12 kc _ _ _ d x1 x2 x3 x4 x5 x6 x7 x8 x9 x10 x11 (0 : Int32) (by omega) hq hP hD hS (lv_sub hl [1, 2, 3, 4, 5, 6, 7, 8, 9, 10, 11, 12, 0] rfl)
  have b_334 : ∀ (q277 : kDk → Int32 → Int32 → Int32 → Int32 → Int32 → Int32 → Int32 → Int32 → Int32 → Int32 → Int32 → Int32 → Option (Int32 × kDk)) (c277 : Nat), 53 ≤ c277 → (∀ (kc : Nat) (H : Heap) (locs : List Loc) (ls : Array Slot) (d : kDk) (x1 : Int32) (x2 : Int32) (x3 : Int32) (x4 : Int32) (x5 : Int32) (x6 : Int32) (x7 : Int32) (x8 : Int32) (x9 : Int32) (x10 : Int32) (x11 : Int32) (x12 : Int32), kc + c277 ≤ 185 → q277 d x1 x2 x3 x4 x5 x6 x7 x8 x9 x10 x11 x12 = some o → va_P D vwCl (dkW cI u d) H → va_D A (dkW cI u d) → va_S A s.heap H locs → lv_has ls 16 [(0, .ref (u.1 0)), (1, .int x1), (2, .int x2), (3, .int x3), (4, .int x4), (5, .int x5), (6, .int x6), (7, .int x7), (8, .int x8), (9, .int x9), (10, .int x10), (11, .int x11), (12, .int x12)] → W p l e ({ frames := 10, cells := 185, slots := 1110, locals := 245 }) s m args below meth c H locs kc (6 * kc) Q (F0 m 277 ls [])) → ∀ (kc : Nat) (H : Heap) (locs : List Loc) (ls : Array Slot) (d : kDk) (x1 : Int32) (x2 : Int32) (x3 : Int32) (x4 : Int32) (x6 : Int32) (x7 : Int32) (x8 : Int32) (x9 : Int32) (x10 : Int32) (x11 : Int32) (x12 : Int32) (k0 : Int32), kc + (0 + c277) ≤ 185 → fn_L_holds_334 q277 d x1 x2 x3 x4 x6 x7 x8 x9 x10 x11 x12 k0 = some o → va_P D vwCl (dkW cI u d) H → va_D A (dkW cI u d) → va_S A s.heap H locs → lv_has ls 16 [(0, .ref (u.1 0)), (1, .int x1), (2, .int x2), (3, .int x3), (4, .int x4), (6, .int x6), (7, .int x7), (8, .int x8), (9, .int x9), (10, .int x10), (11, .int x11), (12, .int x12)] → W p l e ({ frames := 10, cells := 185, slots := 1110, locals := 245 }) s m args below meth c H locs kc (6 * kc) Q (F0 m 334 ls [.int k0]) := by
    intro q277 c277 hc277 i277
    intro kc H locs ls d x1 x2 x3 x4 x6 x7 x8 x9 x10 x11 x12 k0
    intro hkc hq hP hD hS hl
    refine lv_istore (lv' := [(5, .int k0), (0, .ref (u.1 0)), (1, .int x1), (2, .int x2), (3, .int x3), (4, .int x4), (6, .int x6), (7, .int x7), (8, .int x8), (9, .int x9), (10, .int x10), (11, .int x11), (12, .int x12)]) hx hb dL_holds_334 hl (by decide) rfl (fun ls hl => ?_)
    refine lv_iinc (v := (x12 + 1)) (lv' := [(12, .int (x12 + 1)), (5, .int k0), (0, .ref (u.1 0)), (1, .int x1), (2, .int x2), (3, .int x3), (4, .int x4), (6, .int x6), (7, .int x7), (8, .int x8), (9, .int x9), (10, .int x10), (11, .int x11)]) hx hb dL_holds_336 hl (k := 12) rfl rfl (by decide) rfl (fun ls hl => ?_)
    refine lv_goto (tgt := 277) hx hb dL_holds_339 (by decide) ?_
    exact i277 kc _ _ _ d x1 x2 x3 x4 k0 x6 x7 x8 x9 x10 x11 (x12 + 1) (by omega) hq hP hD hS (lv_sub hl [2, 3, 4, 5, 6, 1, 7, 8, 9, 10, 11, 12, 0] rfl)
  have b_333 : ∀ (q277 : kDk → Int32 → Int32 → Int32 → Int32 → Int32 → Int32 → Int32 → Int32 → Int32 → Int32 → Int32 → Int32 → Option (Int32 × kDk)) (c277 : Nat), 53 ≤ c277 → (∀ (kc : Nat) (H : Heap) (locs : List Loc) (ls : Array Slot) (d : kDk) (x1 : Int32) (x2 : Int32) (x3 : Int32) (x4 : Int32) (x5 : Int32) (x6 : Int32) (x7 : Int32) (x8 : Int32) (x9 : Int32) (x10 : Int32) (x11 : Int32) (x12 : Int32), kc + c277 ≤ 185 → q277 d x1 x2 x3 x4 x5 x6 x7 x8 x9 x10 x11 x12 = some o → va_P D vwCl (dkW cI u d) H → va_D A (dkW cI u d) → va_S A s.heap H locs → lv_has ls 16 [(0, .ref (u.1 0)), (1, .int x1), (2, .int x2), (3, .int x3), (4, .int x4), (5, .int x5), (6, .int x6), (7, .int x7), (8, .int x8), (9, .int x9), (10, .int x10), (11, .int x11), (12, .int x12)] → W p l e ({ frames := 10, cells := 185, slots := 1110, locals := 245 }) s m args below meth c H locs kc (6 * kc) Q (F0 m 277 ls [])) → ∀ (kc : Nat) (H : Heap) (locs : List Loc) (ls : Array Slot) (d : kDk) (x1 : Int32) (x2 : Int32) (x3 : Int32) (x4 : Int32) (x6 : Int32) (x7 : Int32) (x8 : Int32) (x9 : Int32) (x10 : Int32) (x11 : Int32) (x12 : Int32), kc + (0 + c277) ≤ 185 → fn_L_holds_333 q277 d x1 x2 x3 x4 x6 x7 x8 x9 x10 x11 x12 = some o → va_P D vwCl (dkW cI u d) H → va_D A (dkW cI u d) → va_S A s.heap H locs → lv_has ls 16 [(0, .ref (u.1 0)), (1, .int x1), (2, .int x2), (3, .int x3), (4, .int x4), (6, .int x6), (7, .int x7), (8, .int x8), (9, .int x9), (10, .int x10), (11, .int x11), (12, .int x12)] → W p l e ({ frames := 10, cells := 185, slots := 1110, locals := 245 }) s m args below meth c H locs kc (6 * kc) Q (F0 m 333 ls []) := by
    intro q277 c277 hc277 i277
    intro kc H locs ls d x1 x2 x3 x4 x6 x7 x8 x9 x10 x11 x12
    intro hkc hq hP hD hS hl
    refine lv_iconst (v := 0) hx hb dL_holds_333 (by decide) ?_
    exact b_334 q277 c277 hc277 i277 kc _ _ _ d x1 x2 x3 x4 x6 x7 x8 x9 x10 x11 x12 (0 : Int32) (by omega) hq hP hD hS (lv_sub hl [0, 1, 2, 3, 4, 5, 6, 7, 8, 9, 10, 11] rfl)
  have b_277 : ∀ (q : Nat), ∀ (kc : Nat) (H : Heap) (locs : List Loc) (ls : Array Slot) (d : kDk) (x1 : Int32) (x2 : Int32) (x3 : Int32) (x4 : Int32) (x5 : Int32) (x6 : Int32) (x7 : Int32) (x8 : Int32) (x9 : Int32) (x10 : Int32) (x11 : Int32) (x12 : Int32), kc + (q * 3 + 53) ≤ 185 → fn_L_holds_277 q d x1 x2 x3 x4 x5 x6 x7 x8 x9 x10 x11 x12 = some o → va_P D vwCl (dkW cI u d) H → va_D A (dkW cI u d) → va_S A s.heap H locs → lv_has ls 16 [(0, .ref (u.1 0)), (1, .int x1), (2, .int x2), (3, .int x3), (4, .int x4), (5, .int x5), (6, .int x6), (7, .int x7), (8, .int x8), (9, .int x9), (10, .int x10), (11, .int x11), (12, .int x12)] → W p l e ({ frames := 10, cells := 185, slots := 1110, locals := 245 }) s m args below meth c H locs kc (6 * kc) Q (F0 m 277 ls []) := by
    intro q
    induction q with
    | zero =>
      intro kc H locs ls d x1 x2 x3 x4 x5 x6 x7 x8 x9 x10 x11 x12
      intro _ hq
      cases hq
    | succ q ih =>
      intro kc H locs ls d x1 x2 x3 x4 x5 x6 x7 x8 x9 x10 x11 x12
      intro hkc hq hP hD hS hl
      refine lv_iload hx hb dL_holds_277 (lv_at hl 12 rfl) ?_
      refine lv_iload hx hb dL_holds_279 (lv_at hl 6 rfl) ?_
      refine lv_icmp_ge (tgt := 342) hx hb dL_holds_281 (by decide) (fun c9 => ?_) (fun c9 => ?_)
      · have hq := kite_t c9 hq
        exact b_342  kc _ _ _ d x1 x2 x3 x4 x5 x6 x7 x8 x9 x10 x11 (by omega) hq hP hD hS (lv_sub hl [0, 1, 2, 3, 4, 5, 6, 7, 8, 9, 10, 11] rfl)
      · have hq := kite_f c9 hq
        refine lv_iload hx hb dL_holds_284 (lv_at hl 5 rfl) ?_
        refine lv_if_eq (tgt := 342) hx hb dL_holds_286 (by decide) (fun c9 => ?_) (fun c9 => ?_)
        · have hq := kite_t c9 hq
          exact b_342  kc _ _ _ d x1 x2 x3 x4 x5 x6 x7 x8 x9 x10 x11 (by omega) hq hP hD hS (lv_sub hl [0, 1, 2, 3, 4, 5, 6, 7, 8, 9, 10, 11] rfl)
        · have hq := kite_f c9 hq
          refine lv_iload hx hb dL_holds_289 (lv_at hl 8 rfl) ?_
          refine lv_aload_n hx hb dL_holds_291 rfl (lv_at hl 0 rfl) ?_
          refine lv_iconst (v := 5) hx hb dL_holds_292 (by decide) ?_
          refine lv_iload hx hb dL_holds_293 (lv_at hl 12 rfl) ?_
          refine lv_iconst (v := 0) hx hb dL_holds_295 (by decide) ?_
          refine lv_iconst (v := 0) hx hb dL_holds_296 (by decide) ?_
          obtain ⟨o297, ho297, hq⟩ := kbind hq
          refine kh_Si (k := kc) (nc := 1) (av := [.ref (u.1 0), .int (5 : Int32), .int x12, .int (0 : Int32), .int (0 : Int32)]) (rest := [.int x8]) (ws' := (dkW cI u o297.2)) hF hK hG hA (mk_L_call l hst D cI u H.size d (5 : Int32) x12 (0 : Int32) (0 : Int32) o297 ho297) (va_cwS 5 hts gL_holds_L_call rfl rfl rfl (by decide +kernel) ⟨Nat.le_of_ble_eq_true rfl, Nat.le_of_ble_eq_true rfl⟩) hP hD hS (kSub_all dkW_fst) rfl hl.1 rfl (Nat.le_of_ble_eq_true rfl) ⟨by show kc + 1 ≤ 185; omega, by show 6 * kc + 6 * 1 ≤ 1110; omega⟩ dL_holds_297 (fun H locs hP hD hS => ?_)
          refine lv_iadd hx hb dL_holds_300 ?_
          refine lv_istore (lv' := [(8, .int (x8 + o297.1)), (0, .ref (u.1 0)), (1, .int x1), (2, .int x2), (3, .int x3), (4, .int x4), (5, .int x5), (6, .int x6), (7, .int x7), (9, .int x9), (10, .int x10), (11, .int x11), (12, .int x12)]) hx hb dL_holds_301 hl (by decide) rfl (fun ls hl => ?_)
          refine lv_aload_n hx hb dL_holds_303 rfl (lv_at hl 1 rfl) ?_
          refine lv_iconst (v := 5) hx hb dL_holds_304 (by decide) ?_
          refine lv_iload hx hb dL_holds_305 (lv_at hl 12 rfl) ?_
          refine lv_iconst (v := 0) hx hb dL_holds_307 (by decide) ?_
          refine lv_iconst (v := 0) hx hb dL_holds_308 (by decide) ?_
          obtain ⟨o309, ho309, hq⟩ := kbind hq
          refine kh_Si (k := (kc + 1)) (nc := 1) (av := [.ref (u.1 0), .int (5 : Int32), .int x12, .int (0 : Int32), .int (0 : Int32)]) (rest := []) (ws' := (dkW cI u o309.2)) hF hK hG hA (mk_L_call l hst D cI u H.size o297.2 (5 : Int32) x12 (0 : Int32) (0 : Int32) o309 ho309) (va_cwS 5 hts gL_holds_L_call rfl rfl rfl (by decide +kernel) ⟨Nat.le_of_ble_eq_true rfl, Nat.le_of_ble_eq_true rfl⟩) hP hD hS (kSub_all dkW_fst) rfl hl.1 rfl (Nat.le_of_ble_eq_true rfl) ⟨by show (kc + 1) + 1 ≤ 185; omega, by show 6 * (kc + 1) + 6 * 1 ≤ 1110; omega⟩ dL_holds_309 (fun H locs hP hD hS => ?_)
          refine lv_if_lt (tgt := 333) hx hb dL_holds_312 (by decide) (fun c9 => ?_) (fun c9 => ?_)
          · have hq := kite_t c9 hq
            exact b_333 (fn_L_holds_277 q) (q * 3 + 53) (by omega) ih (kc + 1 + 1) _ _ _ o309.2 x1 x2 x3 x4 x6 x7 (x8 + o297.1) x9 x10 x11 x12 (by omega) hq hP hD hS (lv_sub hl [1, 2, 3, 4, 5, 7, 8, 0, 9, 10, 11, 12] rfl)
          · have hq := kite_f c9 hq
            refine lv_aload_n hx hb dL_holds_315 rfl (lv_at hl 1 rfl) ?_
            refine lv_iconst (v := 5) hx hb dL_holds_316 (by decide) ?_
            refine lv_iload hx hb dL_holds_317 (lv_at hl 12 rfl) ?_
            refine lv_iconst (v := 0) hx hb dL_holds_319 (by decide) ?_
            refine lv_iconst (v := 0) hx hb dL_holds_320 (by decide) ?_
            obtain ⟨o321, ho321, hq⟩ := kbind hq
            refine kh_Si (k := (kc + 1 + 1)) (nc := 1) (av := [.ref (u.1 0), .int (5 : Int32), .int x12, .int (0 : Int32), .int (0 : Int32)]) (rest := []) (ws' := (dkW cI u o321.2)) hF hK hG hA (mk_L_call l hst D cI u H.size o309.2 (5 : Int32) x12 (0 : Int32) (0 : Int32) o321 ho321) (va_cwS 5 hts gL_holds_L_call rfl rfl rfl (by decide +kernel) ⟨Nat.le_of_ble_eq_true rfl, Nat.le_of_ble_eq_true rfl⟩) hP hD hS (kSub_all dkW_fst) rfl hl.1 rfl (Nat.le_of_ble_eq_true rfl) ⟨by show (kc + 1 + 1) + 1 ≤ 185; omega, by show 6 * (kc + 1 + 1) + 6 * 1 ≤ 1110; omega⟩ dL_holds_321 (fun H locs hP hD hS => ?_)
            refine lv_bipush (v := 10) hx hb dL_holds_324 (by decide) ?_
            refine lv_icmp_gt (tgt := 333) hx hb dL_holds_326 (by decide) (fun c9 => ?_) (fun c9 => ?_)
            · have hq := kite_t c9 hq
              exact b_333 (fn_L_holds_277 q) (q * 3 + 53) (by omega) ih (kc + 1 + 1 + 1) _ _ _ o321.2 x1 x2 x3 x4 x6 x7 (x8 + o297.1) x9 x10 x11 x12 (by omega) hq hP hD hS (lv_sub hl [1, 2, 3, 4, 5, 7, 8, 0, 9, 10, 11, 12] rfl)
            · have hq := kite_f c9 hq
              refine lv_iconst (v := 1) hx hb dL_holds_329 (by decide) ?_
              refine lv_goto (tgt := 334) hx hb dL_holds_330 (by decide) ?_
              exact b_334 (fn_L_holds_277 q) (q * 3 + 53) (by omega) ih (kc + 1 + 1 + 1) _ _ _ o321.2 x1 x2 x3 x4 x6 x7 (x8 + o297.1) x9 x10 x11 x12 (1 : Int32) (by omega) hq hP hD hS (lv_sub hl [1, 2, 3, 4, 5, 7, 8, 0, 9, 10, 11, 12] rfl)
  have b_234 : ∀ (kc : Nat) (H : Heap) (locs : List Loc) (ls : Array Slot) (d : kDk) (x1 : Int32) (x2 : Int32) (x3 : Int32) (x4 : Int32) (x5 : Int32), kc + 125 ≤ 185 → fn_L_holds_234 d x1 x2 x3 x4 x5 = some o → va_P D vwCl (dkW cI u d) H → va_D A (dkW cI u d) → va_S A s.heap H locs → lv_has ls 16 [(0, .ref (u.1 0)), (1, .int x1), (2, .int x2), (3, .int x3), (4, .int x4), (5, .int x5)] → W p l e ({ frames := 10, cells := 185, slots := 1110, locals := 245 }) s m args below meth c H locs kc (6 * kc) Q (F0 m 234 ls []) := by
    intro kc H locs ls d x1 x2 x3 x4 x5
    intro hkc hq hP hD hS hl
    refine lv_aload_n hx hb dL_holds_234 rfl (lv_at hl 0 rfl) ?_
    refine lv_iconst (v := 2) hx hb dL_holds_235 (by decide) ?_
    refine lv_iconst (v := 2) hx hb dL_holds_236 (by decide) ?_
    refine lv_iconst (v := 0) hx hb dL_holds_237 (by decide) ?_
    refine lv_iconst (v := 0) hx hb dL_holds_238 (by decide) ?_
    obtain ⟨o239, ho239, hq⟩ := kbind hq
    refine kh_Si (k := kc) (nc := 1) (av := [.ref (u.1 0), .int (2 : Int32), .int (2 : Int32), .int (0 : Int32), .int (0 : Int32)]) (rest := []) (ws' := (dkW cI u o239.2)) hF hK hG hA (mk_L_call l hst D cI u H.size d (2 : Int32) (2 : Int32) (0 : Int32) (0 : Int32) o239 ho239) (va_cwS 5 hts gL_holds_L_call rfl rfl rfl (by decide +kernel) ⟨Nat.le_of_ble_eq_true rfl, Nat.le_of_ble_eq_true rfl⟩) hP hD hS (kSub_all dkW_fst) rfl hl.1 rfl (Nat.le_of_ble_eq_true rfl) ⟨by show kc + 1 ≤ 185; omega, by show 6 * kc + 6 * 1 ≤ 1110; omega⟩ dL_holds_239 (fun H locs hP hD hS => ?_)
    refine lv_istore (lv' := [(6, .int o239.1), (0, .ref (u.1 0)), (1, .int x1), (2, .int x2), (3, .int x3), (4, .int x4), (5, .int x5)]) hx hb dL_holds_242 hl (by decide) rfl (fun ls hl => ?_)
    refine lv_aload_n hx hb dL_holds_244 rfl (lv_at hl 1 rfl) ?_
    refine lv_iconst (v := 2) hx hb dL_holds_245 (by decide) ?_
    refine lv_iconst (v := 0) hx hb dL_holds_246 (by decide) ?_
    refine lv_iconst (v := 0) hx hb dL_holds_247 (by decide) ?_
    refine lv_iconst (v := 0) hx hb dL_holds_248 (by decide) ?_
    obtain ⟨o249, ho249, hq⟩ := kbind hq
    refine kh_Si (k := (kc + 1)) (nc := 1) (av := [.ref (u.1 0), .int (2 : Int32), .int (0 : Int32), .int (0 : Int32), .int (0 : Int32)]) (rest := []) (ws' := (dkW cI u o249.2)) hF hK hG hA (mk_L_call l hst D cI u H.size o239.2 (2 : Int32) (0 : Int32) (0 : Int32) (0 : Int32) o249 ho249) (va_cwS 5 hts gL_holds_L_call rfl rfl rfl (by decide +kernel) ⟨Nat.le_of_ble_eq_true rfl, Nat.le_of_ble_eq_true rfl⟩) hP hD hS (kSub_all dkW_fst) rfl hl.1 rfl (Nat.le_of_ble_eq_true rfl) ⟨by show (kc + 1) + 1 ≤ 185; omega, by show 6 * (kc + 1) + 6 * 1 ≤ 1110; omega⟩ dL_holds_249 (fun H locs hP hD hS => ?_)
    refine lv_istore (lv' := [(7, .int o249.1), (6, .int o239.1), (0, .ref (u.1 0)), (1, .int x1), (2, .int x2), (3, .int x3), (4, .int x4), (5, .int x5)]) hx hb dL_holds_252 hl (by decide) rfl (fun ls hl => ?_)
    refine lv_iconst (v := 0) hx hb dL_holds_254 (by decide) ?_
    refine lv_istore (lv' := [(8, .int (0 : Int32)), (7, .int o249.1), (6, .int o239.1), (0, .ref (u.1 0)), (1, .int x1), (2, .int x2), (3, .int x3), (4, .int x4), (5, .int x5)]) hx hb dL_holds_255 hl (by decide) rfl (fun ls hl => ?_)
    refine lv_iconst (v := 0) hx hb dL_holds_257 (by decide) ?_
    refine lv_istore (lv' := [(9, .int (0 : Int32)), (8, .int (0 : Int32)), (7, .int o249.1), (6, .int o239.1), (0, .ref (u.1 0)), (1, .int x1), (2, .int x2), (3, .int x3), (4, .int x4), (5, .int x5)]) hx hb dL_holds_258 hl (by decide) rfl (fun ls hl => ?_)
    refine lv_iconst (v := 0) hx hb dL_holds_260 (by decide) ?_
    refine lv_istore (lv' := [(10, .int (0 : Int32)), (9, .int (0 : Int32)), (8, .int (0 : Int32)), (7, .int o249.1), (6, .int o239.1), (0, .ref (u.1 0)), (1, .int x1), (2, .int x2), (3, .int x3), (4, .int x4), (5, .int x5)]) hx hb dL_holds_261 hl (by decide) rfl (fun ls hl => ?_)
    refine lv_aload_n hx hb dL_holds_263 rfl (lv_at hl 5 rfl) ?_
    refine lv_iconst (v := 2) hx hb dL_holds_264 (by decide) ?_
    refine lv_bipush (v := 9) hx hb dL_holds_265 (by decide) ?_
    refine lv_iconst (v := 0) hx hb dL_holds_267 (by decide) ?_
    refine lv_iconst (v := 0) hx hb dL_holds_268 (by decide) ?_
    obtain ⟨o269, ho269, hq⟩ := kbind hq
    refine kh_Si (k := (kc + 1 + 1)) (nc := 1) (av := [.ref (u.1 0), .int (2 : Int32), .int (9 : Int32), .int (0 : Int32), .int (0 : Int32)]) (rest := []) (ws' := (dkW cI u o269.2)) hF hK hG hA (mk_L_call l hst D cI u H.size o249.2 (2 : Int32) (9 : Int32) (0 : Int32) (0 : Int32) o269 ho269) (va_cwS 5 hts gL_holds_L_call rfl rfl rfl (by decide +kernel) ⟨Nat.le_of_ble_eq_true rfl, Nat.le_of_ble_eq_true rfl⟩) hP hD hS (kSub_all dkW_fst) rfl hl.1 rfl (Nat.le_of_ble_eq_true rfl) ⟨by show (kc + 1 + 1) + 1 ≤ 185; omega, by show 6 * (kc + 1 + 1) + 6 * 1 ≤ 1110; omega⟩ dL_holds_269 (fun H locs hP hD hS => ?_)
    refine lv_istore (lv' := [(11, .int o269.1), (10, .int (0 : Int32)), (9, .int (0 : Int32)), (8, .int (0 : Int32)), (7, .int o249.1), (6, .int o239.1), (0, .ref (u.1 0)), (1, .int x1), (2, .int x2), (3, .int x3), (4, .int x4), (5, .int x5)]) hx hb dL_holds_272 hl (by decide) rfl (fun ls hl => ?_)
    refine lv_iconst (v := 0) hx hb dL_holds_274 (by decide) ?_
    refine lv_istore (lv' := [(12, .int (0 : Int32)), (11, .int o269.1), (10, .int (0 : Int32)), (9, .int (0 : Int32)), (8, .int (0 : Int32)), (7, .int o249.1), (6, .int o239.1), (0, .ref (u.1 0)), (1, .int x1), (2, .int x2), (3, .int x3), (4, .int x4), (5, .int x5)]) hx hb dL_holds_275 hl (by decide) rfl (fun ls hl => ?_)
    exact b_277 23 (kc + 1 + 1 + 1) _ _ _ o269.2 x1 x2 x3 x4 x5 o239.1 o249.1 (0 : Int32) (0 : Int32) (0 : Int32) o269.1 (0 : Int32) (by omega) hq hP hD hS (lv_sub hl [7, 8, 9, 10, 11, 12, 6, 5, 4, 3, 2, 1, 0] rfl)
  have b_226 : ∀ (q13 : kDk → Int32 → Int32 → Int32 → Int32 → Int32 → Int32 → Option (Int32 × kDk)) (c13 : Nat), 125 ≤ c13 → (∀ (kc : Nat) (H : Heap) (locs : List Loc) (ls : Array Slot) (d : kDk) (x1 : Int32) (x2 : Int32) (x3 : Int32) (x4 : Int32) (x5 : Int32) (x6 : Int32), kc + c13 ≤ 185 → q13 d x1 x2 x3 x4 x5 x6 = some o → va_P D vwCl (dkW cI u d) H → va_D A (dkW cI u d) → va_S A s.heap H locs → lv_has ls 16 [(0, .ref (u.1 0)), (1, .int x1), (2, .int x2), (3, .int x3), (4, .int x4), (5, .int x5), (6, .int x6)] → W p l e ({ frames := 10, cells := 185, slots := 1110, locals := 245 }) s m args below meth c H locs kc (6 * kc) Q (F0 m 13 ls [])) → ∀ (kc : Nat) (H : Heap) (locs : List Loc) (ls : Array Slot) (d : kDk) (x1 : Int32) (x2 : Int32) (x3 : Int32) (x4 : Int32) (x6 : Int32) (k0 : Int32), kc + (0 + c13) ≤ 185 → fn_L_holds_226 q13 d x1 x2 x3 x4 x6 k0 = some o → va_P D vwCl (dkW cI u d) H → va_D A (dkW cI u d) → va_S A s.heap H locs → lv_has ls 16 [(0, .ref (u.1 0)), (1, .int x1), (2, .int x2), (3, .int x3), (4, .int x4), (6, .int x6)] → W p l e ({ frames := 10, cells := 185, slots := 1110, locals := 245 }) s m args below meth c H locs kc (6 * kc) Q (F0 m 226 ls [.int k0]) := by
    intro q13 c13 hc13 i13
    intro kc H locs ls d x1 x2 x3 x4 x6 k0
    intro hkc hq hP hD hS hl
    refine lv_istore (lv' := [(5, .int k0), (0, .ref (u.1 0)), (1, .int x1), (2, .int x2), (3, .int x3), (4, .int x4), (6, .int x6)]) hx hb dL_holds_226 hl (by decide) rfl (fun ls hl => ?_)
    refine lv_iinc (v := (x6 + 1)) (lv' := [(6, .int (x6 + 1)), (5, .int k0), (0, .ref (u.1 0)), (1, .int x1), (2, .int x2), (3, .int x3), (4, .int x4)]) hx hb dL_holds_228 hl (k := 6) rfl rfl (by decide) rfl (fun ls hl => ?_)
    refine lv_goto (tgt := 13) hx hb dL_holds_231 (by decide) ?_
    exact i13 kc _ _ _ d x1 x2 x3 x4 k0 (x6 + 1) (by omega) hq hP hD hS (lv_sub hl [2, 3, 4, 5, 6, 1, 0] rfl)
  have b_225 : ∀ (q13 : kDk → Int32 → Int32 → Int32 → Int32 → Int32 → Int32 → Option (Int32 × kDk)) (c13 : Nat), 125 ≤ c13 → (∀ (kc : Nat) (H : Heap) (locs : List Loc) (ls : Array Slot) (d : kDk) (x1 : Int32) (x2 : Int32) (x3 : Int32) (x4 : Int32) (x5 : Int32) (x6 : Int32), kc + c13 ≤ 185 → q13 d x1 x2 x3 x4 x5 x6 = some o → va_P D vwCl (dkW cI u d) H → va_D A (dkW cI u d) → va_S A s.heap H locs → lv_has ls 16 [(0, .ref (u.1 0)), (1, .int x1), (2, .int x2), (3, .int x3), (4, .int x4), (5, .int x5), (6, .int x6)] → W p l e ({ frames := 10, cells := 185, slots := 1110, locals := 245 }) s m args below meth c H locs kc (6 * kc) Q (F0 m 13 ls [])) → ∀ (kc : Nat) (H : Heap) (locs : List Loc) (ls : Array Slot) (d : kDk) (x1 : Int32) (x2 : Int32) (x3 : Int32) (x4 : Int32) (x6 : Int32), kc + (0 + c13) ≤ 185 → fn_L_holds_225 q13 d x1 x2 x3 x4 x6 = some o → va_P D vwCl (dkW cI u d) H → va_D A (dkW cI u d) → va_S A s.heap H locs → lv_has ls 16 [(0, .ref (u.1 0)), (1, .int x1), (2, .int x2), (3, .int x3), (4, .int x4), (6, .int x6)] → W p l e ({ frames := 10, cells := 185, slots := 1110, locals := 245 }) s m args below meth c H locs kc (6 * kc) Q (F0 m 225 ls []) := by
    intro q13 c13 hc13 i13
    intro kc H locs ls d x1 x2 x3 x4 x6
    intro hkc hq hP hD hS hl
    refine lv_iconst (v := 0) hx hb dL_holds_225 (by decide) ?_
    exact b_226 q13 c13 hc13 i13 kc _ _ _ d x1 x2 x3 x4 x6 (0 : Int32) (by omega) hq hP hD hS (lv_sub hl [0, 1, 2, 3, 4, 5] rfl)
  have b_183 : ∀ (q13 : kDk → Int32 → Int32 → Int32 → Int32 → Int32 → Int32 → Option (Int32 × kDk)) (c13 : Nat), 125 ≤ c13 → (∀ (kc : Nat) (H : Heap) (locs : List Loc) (ls : Array Slot) (d : kDk) (x1 : Int32) (x2 : Int32) (x3 : Int32) (x4 : Int32) (x5 : Int32) (x6 : Int32), kc + c13 ≤ 185 → q13 d x1 x2 x3 x4 x5 x6 = some o → va_P D vwCl (dkW cI u d) H → va_D A (dkW cI u d) → va_S A s.heap H locs → lv_has ls 16 [(0, .ref (u.1 0)), (1, .int x1), (2, .int x2), (3, .int x3), (4, .int x4), (5, .int x5), (6, .int x6)] → W p l e ({ frames := 10, cells := 185, slots := 1110, locals := 245 }) s m args below meth c H locs kc (6 * kc) Q (F0 m 13 ls [])) → ∀ (kc : Nat) (H : Heap) (locs : List Loc) (ls : Array Slot) (d : kDk) (x1 : Int32) (x2 : Int32) (x3 : Int32) (x4 : Int32) (x6 : Int32) (x9 : Int32) (x10 : Int32), kc + (1 + c13) ≤ 185 → fn_L_holds_183 q13 d x1 x2 x3 x4 x6 x9 x10 = some o → va_P D vwCl (dkW cI u d) H → va_D A (dkW cI u d) → va_S A s.heap H locs → lv_has ls 16 [(0, .ref (u.1 0)), (1, .int x1), (2, .int x2), (3, .int x3), (4, .int x4), (6, .int x6), (9, .int x9), (10, .int x10)] → W p l e ({ frames := 10, cells := 185, slots := 1110, locals := 245 }) s m args below meth c H locs kc (6 * kc) Q (F0 m 183 ls []) := by
    intro q13 c13 hc13 i13
    intro kc H locs ls d x1 x2 x3 x4 x6 x9 x10
    intro hkc hq hP hD hS hl
    refine lv_aload_n hx hb dL_holds_183 rfl (lv_at hl 0 rfl) ?_
    refine lv_iconst (v := 3) hx hb dL_holds_184 (by decide) ?_
    refine lv_iload hx hb dL_holds_185 (lv_at hl 5 rfl) ?_
    refine lv_iconst (v := 2) hx hb dL_holds_187 (by decide) ?_
    refine lv_iconst (v := 0) hx hb dL_holds_188 (by decide) ?_
    obtain ⟨o189, ho189, hq⟩ := kbind hq
    refine kh_Si (k := kc) (nc := 1) (av := [.ref (u.1 0), .int (3 : Int32), .int x6, .int (2 : Int32), .int (0 : Int32)]) (rest := []) (ws' := (dkW cI u o189.2)) hF hK hG hA (mk_L_call l hst D cI u H.size d (3 : Int32) x6 (2 : Int32) (0 : Int32) o189 ho189) (va_cwS 5 hts gL_holds_L_call rfl rfl rfl (by decide +kernel) ⟨Nat.le_of_ble_eq_true rfl, Nat.le_of_ble_eq_true rfl⟩) hP hD hS (kSub_all dkW_fst) rfl hl.1 rfl (Nat.le_of_ble_eq_true rfl) ⟨by show kc + 1 ≤ 185; omega, by show 6 * kc + 6 * 1 ≤ 1110; omega⟩ dL_holds_189 (fun H locs hP hD hS => ?_)
    refine lv_iload hx hb dL_holds_192 (lv_at hl 6 rfl) ?_
    refine lv_bipush (v := 20) hx hb dL_holds_194 (by decide) ?_
    refine lv_iadd hx hb dL_holds_196 ?_
    refine lv_iconst (v := 3) hx hb dL_holds_197 (by decide) ?_
    refine lv_iload hx hb dL_holds_198 (lv_at hl 7 rfl) ?_
    refine lv_imul hx hb dL_holds_200 ?_
    refine lv_isub hx hb dL_holds_201 ?_
    refine lv_bipush (v := 6) hx hb dL_holds_202 (by decide) ?_
    refine lv_iload hx hb dL_holds_204 (lv_at hl 5 rfl) ?_
    refine lv_iload hx hb dL_holds_206 (lv_at hl 7 rfl) ?_
    refine lv_iload hx hb dL_holds_208 (lv_at hl 7 rfl) ?_
    refine lv_iconst (v := 1) hx hb dL_holds_210 (by decide) ?_
    refine lv_iadd hx hb dL_holds_211 ?_
    refine lv_imul hx hb dL_holds_212 ?_
    refine lv_iconst (v := 2) hx hb dL_holds_213 (by decide) ?_
    refine lv_idiv hx hb dL_holds_214 (by decide) ?_
    refine lv_isub hx hb dL_holds_215 ?_
    refine lv_imul hx hb dL_holds_216 ?_
    refine lv_iadd hx hb dL_holds_217 ?_
    refine lv_icmp_ne (tgt := 225) hx hb dL_holds_218 (by decide) (fun c9 => ?_) (fun c9 => ?_)
    · have hq := kite_f c9 hq
      exact b_225 q13 c13 hc13 i13 (kc + 1) _ _ _ o189.2 x1 x2 x3 x4 x6 (by omega) hq hP hD hS (lv_sub hl [0, 1, 2, 3, 4, 5] rfl)
    · have hq := kite_t c9 hq
      refine lv_iconst (v := 1) hx hb dL_holds_221 (by decide) ?_
      refine lv_goto (tgt := 226) hx hb dL_holds_222 (by decide) ?_
      exact b_226 q13 c13 hc13 i13 (kc + 1) _ _ _ o189.2 x1 x2 x3 x4 x6 (1 : Int32) (by omega) hq hP hD hS (lv_sub hl [0, 1, 2, 3, 4, 5] rfl)
  have b_145 : ∀ (q13 : kDk → Int32 → Int32 → Int32 → Int32 → Int32 → Int32 → Option (Int32 × kDk)) (c13 : Nat), 125 ≤ c13 → (∀ (kc : Nat) (H : Heap) (locs : List Loc) (ls : Array Slot) (d : kDk) (x1 : Int32) (x2 : Int32) (x3 : Int32) (x4 : Int32) (x5 : Int32) (x6 : Int32), kc + c13 ≤ 185 → q13 d x1 x2 x3 x4 x5 x6 = some o → va_P D vwCl (dkW cI u d) H → va_D A (dkW cI u d) → va_S A s.heap H locs → lv_has ls 16 [(0, .ref (u.1 0)), (1, .int x1), (2, .int x2), (3, .int x3), (4, .int x4), (5, .int x5), (6, .int x6)] → W p l e ({ frames := 10, cells := 185, slots := 1110, locals := 245 }) s m args below meth c H locs kc (6 * kc) Q (F0 m 13 ls [])) → ∀ (kc : Nat) (H : Heap) (locs : List Loc) (ls : Array Slot) (d : kDk) (x1 : Int32) (x2 : Int32) (x3 : Int32) (x6 : Int32) (x7 : Int32) (x8 : Int32) (x9 : Int32) (x10 : Int32) (k0 : Int32) (k1 : Int32), kc + (1 + c13) ≤ 185 → fn_L_holds_145 q13 d x1 x2 x3 x6 x7 x8 x9 x10 k0 k1 = some o → va_P D vwCl (dkW cI u d) H → va_D A (dkW cI u d) → va_S A s.heap H locs → lv_has ls 16 [(0, .ref (u.1 0)), (1, .int x1), (2, .int x2), (3, .int x3), (6, .int x6), (7, .int x7), (8, .int x8), (9, .int x9), (10, .int x10)] → W p l e ({ frames := 10, cells := 185, slots := 1110, locals := 245 }) s m args below meth c H locs kc (6 * kc) Q (F0 m 145 ls [.int k1, .int k0]) := by
    intro q13 c13 hc13 i13
    intro kc H locs ls d x1 x2 x3 x6 x7 x8 x9 x10 k0 k1
    intro hkc hq hP hD hS hl
    refine lv_iadd hx hb dL_holds_145 ?_
    refine lv_istore (lv' := [(4, .int (k0 + k1)), (0, .ref (u.1 0)), (1, .int x1), (2, .int x2), (3, .int x3), (6, .int x6), (7, .int x7), (8, .int x8), (9, .int x9), (10, .int x10)]) hx hb dL_holds_146 hl (by decide) rfl (fun ls hl => ?_)
    refine lv_iload hx hb dL_holds_148 (lv_at hl 6 rfl) ?_
    refine lv_if_lt (tgt := 225) hx hb dL_holds_150 (by decide) (fun c9 => ?_) (fun c9 => ?_)
    · have hq := kite_t c9 hq
      exact b_225 q13 c13 hc13 i13 kc _ _ _ d x1 x2 x3 (k0 + k1) x6 (by omega) hq hP hD hS (lv_sub hl [1, 2, 3, 4, 0, 5] rfl)
    · have hq := kite_f c9 hq
      refine lv_iload hx hb dL_holds_153 (lv_at hl 6 rfl) ?_
      refine lv_iconst (v := 4) hx hb dL_holds_155 (by decide) ?_
      refine lv_icmp_gt (tgt := 225) hx hb dL_holds_156 (by decide) (fun c9 => ?_) (fun c9 => ?_)
      · have hq := kite_t c9 hq
        exact b_225 q13 c13 hc13 i13 kc _ _ _ d x1 x2 x3 (k0 + k1) x6 (by omega) hq hP hD hS (lv_sub hl [1, 2, 3, 4, 0, 5] rfl)
      · have hq := kite_f c9 hq
        refine lv_iload hx hb dL_holds_159 (lv_at hl 8 rfl) ?_
        refine lv_bipush (v := (-2)) hx hb dL_holds_161 (by decide) ?_
        refine lv_icmp_lt (tgt := 225) hx hb dL_holds_163 (by decide) (fun c9 => ?_) (fun c9 => ?_)
        · have hq := kite_t c9 hq
          exact b_225 q13 c13 hc13 i13 kc _ _ _ d x1 x2 x3 (k0 + k1) x6 (by omega) hq hP hD hS (lv_sub hl [1, 2, 3, 4, 0, 5] rfl)
        · have hq := kite_f c9 hq
          refine lv_iload hx hb dL_holds_166 (lv_at hl 8 rfl) ?_
          refine lv_iconst (v := 2) hx hb dL_holds_168 (by decide) ?_
          refine lv_icmp_gt (tgt := 225) hx hb dL_holds_169 (by decide) (fun c9 => ?_) (fun c9 => ?_)
          · have hq := kite_t c9 hq
            exact b_225 q13 c13 hc13 i13 kc _ _ _ d x1 x2 x3 (k0 + k1) x6 (by omega) hq hP hD hS (lv_sub hl [1, 2, 3, 4, 0, 5] rfl)
          · have hq := kite_f c9 hq
            refine lv_iload hx hb dL_holds_172 (lv_at hl 7 rfl) ?_
            refine lv_if_eq (tgt := 183) hx hb dL_holds_174 (by decide) (fun c9 => ?_) (fun c9 => ?_)
            · have hq := kite_t c9 hq
              exact b_183 q13 c13 hc13 i13 kc _ _ _ d x1 x2 x3 (k0 + k1) x6 x9 x10 (by omega) hq hP hD hS (lv_sub hl [1, 2, 3, 4, 0, 5, 8, 9] rfl)
            · have hq := kite_f c9 hq
              refine lv_iload hx hb dL_holds_177 (lv_at hl 6 rfl) ?_
              refine lv_iconst (v := 4) hx hb dL_holds_179 (by decide) ?_
              refine lv_icmp_ge (tgt := 225) hx hb dL_holds_180 (by decide) (fun c9 => ?_) (fun c9 => ?_)
              · have hq := kite_t c9 hq
                exact b_225 q13 c13 hc13 i13 kc _ _ _ d x1 x2 x3 (k0 + k1) x6 (by omega) hq hP hD hS (lv_sub hl [1, 2, 3, 4, 0, 5] rfl)
              · have hq := kite_f c9 hq
                exact b_183 q13 c13 hc13 i13 kc _ _ _ d x1 x2 x3 (k0 + k1) x6 x9 x10 (by omega) hq hP hD hS (lv_sub hl [1, 2, 3, 4, 0, 5, 8, 9] rfl)
  have b_144 : ∀ (q13 : kDk → Int32 → Int32 → Int32 → Int32 → Int32 → Int32 → Option (Int32 × kDk)) (c13 : Nat), 125 ≤ c13 → (∀ (kc : Nat) (H : Heap) (locs : List Loc) (ls : Array Slot) (d : kDk) (x1 : Int32) (x2 : Int32) (x3 : Int32) (x4 : Int32) (x5 : Int32) (x6 : Int32), kc + c13 ≤ 185 → q13 d x1 x2 x3 x4 x5 x6 = some o → va_P D vwCl (dkW cI u d) H → va_D A (dkW cI u d) → va_S A s.heap H locs → lv_has ls 16 [(0, .ref (u.1 0)), (1, .int x1), (2, .int x2), (3, .int x3), (4, .int x4), (5, .int x5), (6, .int x6)] → W p l e ({ frames := 10, cells := 185, slots := 1110, locals := 245 }) s m args below meth c H locs kc (6 * kc) Q (F0 m 13 ls [])) → ∀ (kc : Nat) (H : Heap) (locs : List Loc) (ls : Array Slot) (d : kDk) (x1 : Int32) (x2 : Int32) (x3 : Int32) (x6 : Int32) (x7 : Int32) (x8 : Int32) (x9 : Int32) (x10 : Int32) (k0 : Int32), kc + (1 + c13) ≤ 185 → fn_L_holds_144 q13 d x1 x2 x3 x6 x7 x8 x9 x10 k0 = some o → va_P D vwCl (dkW cI u d) H → va_D A (dkW cI u d) → va_S A s.heap H locs → lv_has ls 16 [(0, .ref (u.1 0)), (1, .int x1), (2, .int x2), (3, .int x3), (6, .int x6), (7, .int x7), (8, .int x8), (9, .int x9), (10, .int x10)] → W p l e ({ frames := 10, cells := 185, slots := 1110, locals := 245 }) s m args below meth c H locs kc (6 * kc) Q (F0 m 144 ls [.int k0]) := by
    intro q13 c13 hc13 i13
    intro kc H locs ls d x1 x2 x3 x6 x7 x8 x9 x10 k0
    intro hkc hq hP hD hS hl
    refine lv_iconst (v := 0) hx hb dL_holds_144 (by decide) ?_
    exact b_145 q13 c13 hc13 i13 kc _ _ _ d x1 x2 x3 x6 x7 x8 x9 x10 k0 (0 : Int32) (by omega) hq hP hD hS (lv_sub hl [0, 1, 2, 3, 4, 5, 6, 7, 8] rfl)
  have b_107 : ∀ (q13 : kDk → Int32 → Int32 → Int32 → Int32 → Int32 → Int32 → Option (Int32 × kDk)) (c13 : Nat), 125 ≤ c13 → (∀ (kc : Nat) (H : Heap) (locs : List Loc) (ls : Array Slot) (d : kDk) (x1 : Int32) (x2 : Int32) (x3 : Int32) (x4 : Int32) (x5 : Int32) (x6 : Int32), kc + c13 ≤ 185 → q13 d x1 x2 x3 x4 x5 x6 = some o → va_P D vwCl (dkW cI u d) H → va_D A (dkW cI u d) → va_S A s.heap H locs → lv_has ls 16 [(0, .ref (u.1 0)), (1, .int x1), (2, .int x2), (3, .int x3), (4, .int x4), (5, .int x5), (6, .int x6)] → W p l e ({ frames := 10, cells := 185, slots := 1110, locals := 245 }) s m args below meth c H locs kc (6 * kc) Q (F0 m 13 ls [])) → ∀ (kc : Nat) (H : Heap) (locs : List Loc) (ls : Array Slot) (d : kDk) (x1 : Int32) (x2 : Int32) (x4 : Int32) (x6 : Int32) (x7 : Int32) (x8 : Int32) (x9 : Int32) (x10 : Int32) (k0 : Int32) (k1 : Int32), kc + (2 + c13) ≤ 185 → fn_L_holds_107 q13 d x1 x2 x4 x6 x7 x8 x9 x10 k0 k1 = some o → va_P D vwCl (dkW cI u d) H → va_D A (dkW cI u d) → va_S A s.heap H locs → lv_has ls 16 [(0, .ref (u.1 0)), (1, .int x1), (2, .int x2), (4, .int x4), (6, .int x6), (7, .int x7), (8, .int x8), (9, .int x9), (10, .int x10)] → W p l e ({ frames := 10, cells := 185, slots := 1110, locals := 245 }) s m args below meth c H locs kc (6 * kc) Q (F0 m 107 ls [.int k1, .int k0]) := by
    intro q13 c13 hc13 i13
    intro kc H locs ls d x1 x2 x4 x6 x7 x8 x9 x10 k0 k1
    intro hkc hq hP hD hS hl
    refine lv_iadd hx hb dL_holds_107 ?_
    refine lv_istore_n (lv' := [(3, .int (k0 + k1)), (0, .ref (u.1 0)), (1, .int x1), (2, .int x2), (4, .int x4), (6, .int x6), (7, .int x7), (8, .int x8), (9, .int x9), (10, .int x10)]) hx hb dL_holds_108 rfl hl (by decide) rfl (fun ls hl => ?_)
    refine lv_iload hx hb dL_holds_109 (lv_at hl 4 rfl) ?_
    refine lv_iload hx hb dL_holds_111 (lv_at hl 7 rfl) ?_
    refine lv_iconst (v := 1) hx hb dL_holds_113 (by decide) ?_
    refine lv_icmp_ne (tgt := 144) hx hb dL_holds_114 (by decide) (fun c9 => ?_) (fun c9 => ?_)
    · have hq := kite_f c9 hq
      exact b_144 q13 c13 hc13 i13 kc _ _ _ d x1 x2 (k0 + k1) x6 x7 x8 x9 x10 x4 (by omega) hq hP hD hS (lv_sub hl [1, 2, 3, 0, 5, 6, 7, 8, 9] rfl)
    · have hq := kite_t c9 hq
      refine lv_iload hx hb dL_holds_117 (lv_at hl 6 rfl) ?_
      refine lv_iconst (v := 4) hx hb dL_holds_119 (by decide) ?_
      refine lv_icmp_ge (tgt := 144) hx hb dL_holds_120 (by decide) (fun c9 => ?_) (fun c9 => ?_)
      · have hq := kite_t c9 hq
        exact b_144 q13 c13 hc13 i13 kc _ _ _ d x1 x2 (k0 + k1) x6 x7 x8 x9 x10 x4 (by omega) hq hP hD hS (lv_sub hl [1, 2, 3, 0, 5, 6, 7, 8, 9] rfl)
      · have hq := kite_f c9 hq
        refine lv_iload hx hb dL_holds_123 (lv_at hl 6 rfl) ?_
        refine lv_aload_n hx hb dL_holds_125 rfl (lv_at hl 1 rfl) ?_
        refine lv_bipush (v := 6) hx hb dL_holds_126 (by decide) ?_
        refine lv_iconst (v := 2) hx hb dL_holds_128 (by decide) ?_
        refine lv_iconst (v := 0) hx hb dL_holds_129 (by decide) ?_
        refine lv_iconst (v := 0) hx hb dL_holds_130 (by decide) ?_
        obtain ⟨o131, ho131, hq⟩ := kbind hq
        refine kh_Si (k := kc) (nc := 1) (av := [.ref (u.1 0), .int (6 : Int32), .int (2 : Int32), .int (0 : Int32), .int (0 : Int32)]) (rest := [.int x7, .int x4]) (ws' := (dkW cI u o131.2)) hF hK hG hA (mk_L_call l hst D cI u H.size d (6 : Int32) (2 : Int32) (0 : Int32) (0 : Int32) o131 ho131) (va_cwS 5 hts gL_holds_L_call rfl rfl rfl (by decide +kernel) ⟨Nat.le_of_ble_eq_true rfl, Nat.le_of_ble_eq_true rfl⟩) hP hD hS (kSub_all dkW_fst) rfl hl.1 rfl (Nat.le_of_ble_eq_true rfl) ⟨by show kc + 1 ≤ 185; omega, by show 6 * kc + 6 * 1 ≤ 1110; omega⟩ dL_holds_131 (fun H locs hP hD hS => ?_)
        refine lv_icmp_le (tgt := 144) hx hb dL_holds_134 (by decide) (fun c9 => ?_) (fun c9 => ?_)
        · have hq := kite_t c9 hq
          exact b_144 q13 c13 hc13 i13 (kc + 1) _ _ _ o131.2 x1 x2 (k0 + k1) x6 x7 x8 x9 x10 x4 (by omega) hq hP hD hS (lv_sub hl [1, 2, 3, 0, 5, 6, 7, 8, 9] rfl)
        · have hq := kite_f c9 hq
          refine lv_iconst (v := 1) hx hb dL_holds_137 (by decide) ?_
          refine lv_iload hx hb dL_holds_138 (lv_at hl 5 rfl) ?_
          refine lv_ishl hx hb dL_holds_140 ?_
          refine lv_goto (tgt := 145) hx hb dL_holds_141 (by decide) ?_
          exact b_145 q13 c13 hc13 i13 (kc + 1) _ _ _ o131.2 x1 x2 (k0 + k1) x6 x7 x8 x9 x10 x4 ((1 : Int32) <<< (x6 &&& 31)) (by omega) hq hP hD hS (lv_sub hl [1, 2, 3, 0, 5, 6, 7, 8, 9] rfl)
  have b_88 : ∀ (q13 : kDk → Int32 → Int32 → Int32 → Int32 → Int32 → Int32 → Option (Int32 × kDk)) (c13 : Nat), 125 ≤ c13 → (∀ (kc : Nat) (H : Heap) (locs : List Loc) (ls : Array Slot) (d : kDk) (x1 : Int32) (x2 : Int32) (x3 : Int32) (x4 : Int32) (x5 : Int32) (x6 : Int32), kc + c13 ≤ 185 → q13 d x1 x2 x3 x4 x5 x6 = some o → va_P D vwCl (dkW cI u d) H → va_D A (dkW cI u d) → va_S A s.heap H locs → lv_has ls 16 [(0, .ref (u.1 0)), (1, .int x1), (2, .int x2), (3, .int x3), (4, .int x4), (5, .int x5), (6, .int x6)] → W p l e ({ frames := 10, cells := 185, slots := 1110, locals := 245 }) s m args below meth c H locs kc (6 * kc) Q (F0 m 13 ls [])) → ∀ (kc : Nat) (H : Heap) (locs : List Loc) (ls : Array Slot) (d : kDk) (x1 : Int32) (x2 : Int32) (x3 : Int32) (x4 : Int32) (x6 : Int32) (x7 : Int32) (x8 : Int32) (x9 : Int32) (k0 : Int32), kc + (2 + c13) ≤ 185 → fn_L_holds_88 q13 d x1 x2 x3 x4 x6 x7 x8 x9 k0 = some o → va_P D vwCl (dkW cI u d) H → va_D A (dkW cI u d) → va_S A s.heap H locs → lv_has ls 16 [(0, .ref (u.1 0)), (1, .int x1), (2, .int x2), (3, .int x3), (4, .int x4), (6, .int x6), (7, .int x7), (8, .int x8), (9, .int x9)] → W p l e ({ frames := 10, cells := 185, slots := 1110, locals := 245 }) s m args below meth c H locs kc (6 * kc) Q (F0 m 88 ls [.int k0]) := by
    intro q13 c13 hc13 i13
    intro kc H locs ls d x1 x2 x3 x4 x6 x7 x8 x9 k0
    intro hkc hq hP hD hS hl
    refine lv_istore (lv' := [(10, .int k0), (0, .ref (u.1 0)), (1, .int x1), (2, .int x2), (3, .int x3), (4, .int x4), (6, .int x6), (7, .int x7), (8, .int x8), (9, .int x9)]) hx hb dL_holds_88 hl (by decide) rfl (fun ls hl => ?_)
    refine lv_iload_n hx hb dL_holds_90 rfl (lv_at hl 3 rfl) ?_
    refine lv_iload hx hb dL_holds_91 (lv_at hl 8 rfl) ?_
    refine lv_iadd hx hb dL_holds_93 ?_
    refine lv_istore_n (lv' := [(2, .int (x2 + x8)), (10, .int k0), (0, .ref (u.1 0)), (1, .int x1), (3, .int x3), (4, .int x4), (6, .int x6), (7, .int x7), (8, .int x8), (9, .int x9)]) hx hb dL_holds_94 rfl hl (by decide) rfl (fun ls hl => ?_)
    refine lv_iload_n hx hb dL_holds_95 rfl (lv_at hl 4 rfl) ?_
    refine lv_iload hx hb dL_holds_96 (lv_at hl 7 rfl) ?_
    refine lv_iconst (v := 4) hx hb dL_holds_98 (by decide) ?_
    refine lv_icmp_ge (tgt := 106) hx hb dL_holds_99 (by decide) (fun c9 => ?_) (fun c9 => ?_)
    · have hq := kite_t c9 hq
      refine lv_iconst (v := 0) hx hb dL_holds_106 (by decide) ?_
      exact b_107 q13 c13 hc13 i13 kc _ _ _ d x1 (x2 + x8) x4 x6 x7 x8 x9 k0 x3 (0 : Int32) (by omega) hq hP hD hS (lv_sub hl [2, 3, 0, 5, 6, 7, 8, 9, 1] rfl)
    · have hq := kite_f c9 hq
      refine lv_iconst (v := 1) hx hb dL_holds_102 (by decide) ?_
      refine lv_goto (tgt := 107) hx hb dL_holds_103 (by decide) ?_
      exact b_107 q13 c13 hc13 i13 kc _ _ _ d x1 (x2 + x8) x4 x6 x7 x8 x9 k0 x3 (1 : Int32) (by omega) hq hP hD hS (lv_sub hl [2, 3, 0, 5, 6, 7, 8, 9, 1] rfl)
  have b_13 : ∀ (q : Nat), ∀ (kc : Nat) (H : Heap) (locs : List Loc) (ls : Array Slot) (d : kDk) (x1 : Int32) (x2 : Int32) (x3 : Int32) (x4 : Int32) (x5 : Int32) (x6 : Int32), kc + (q * 5 + 125) ≤ 185 → fn_L_holds_13 q d x1 x2 x3 x4 x5 x6 = some o → va_P D vwCl (dkW cI u d) H → va_D A (dkW cI u d) → va_S A s.heap H locs → lv_has ls 16 [(0, .ref (u.1 0)), (1, .int x1), (2, .int x2), (3, .int x3), (4, .int x4), (5, .int x5), (6, .int x6)] → W p l e ({ frames := 10, cells := 185, slots := 1110, locals := 245 }) s m args below meth c H locs kc (6 * kc) Q (F0 m 13 ls []) := by
    intro q
    induction q with
    | zero =>
      intro kc H locs ls d x1 x2 x3 x4 x5 x6
      intro _ hq
      cases hq
    | succ q ih =>
      intro kc H locs ls d x1 x2 x3 x4 x5 x6
      intro hkc hq hP hD hS hl
      refine lv_iload hx hb dL_holds_13 (lv_at hl 6 rfl) ?_
      refine lv_bipush (v := 10) hx hb dL_holds_15 (by decide) ?_
      refine lv_icmp_ge (tgt := 234) hx hb dL_holds_17 (by decide) (fun c9 => ?_) (fun c9 => ?_)
      · have hq := kite_t c9 hq
        exact b_234  kc _ _ _ d x1 x2 x3 x4 x5 (by omega) hq hP hD hS (lv_sub hl [0, 1, 2, 3, 4, 5] rfl)
      · have hq := kite_f c9 hq
        refine lv_iload hx hb dL_holds_20 (lv_at hl 5 rfl) ?_
        refine lv_if_eq (tgt := 234) hx hb dL_holds_22 (by decide) (fun c9 => ?_) (fun c9 => ?_)
        · have hq := kite_t c9 hq
          exact b_234  kc _ _ _ d x1 x2 x3 x4 x5 (by omega) hq hP hD hS (lv_sub hl [0, 1, 2, 3, 4, 5] rfl)
        · have hq := kite_f c9 hq
          refine lv_aload_n hx hb dL_holds_25 rfl (lv_at hl 0 rfl) ?_
          refine lv_iconst (v := 3) hx hb dL_holds_26 (by decide) ?_
          refine lv_iload hx hb dL_holds_27 (lv_at hl 6 rfl) ?_
          refine lv_iconst (v := 0) hx hb dL_holds_29 (by decide) ?_
          refine lv_iconst (v := 0) hx hb dL_holds_30 (by decide) ?_
          obtain ⟨o31, ho31, hq⟩ := kbind hq
          refine kh_Si (k := kc) (nc := 1) (av := [.ref (u.1 0), .int (3 : Int32), .int x6, .int (0 : Int32), .int (0 : Int32)]) (rest := []) (ws' := (dkW cI u o31.2)) hF hK hG hA (mk_L_call l hst D cI u H.size d (3 : Int32) x6 (0 : Int32) (0 : Int32) o31 ho31) (va_cwS 5 hts gL_holds_L_call rfl rfl rfl (by decide +kernel) ⟨Nat.le_of_ble_eq_true rfl, Nat.le_of_ble_eq_true rfl⟩) hP hD hS (kSub_all dkW_fst) rfl hl.1 rfl (Nat.le_of_ble_eq_true rfl) ⟨by show kc + 1 ≤ 185; omega, by show 6 * kc + 6 * 1 ≤ 1110; omega⟩ dL_holds_31 (fun H locs hP hD hS => ?_)
          refine lv_istore (lv' := [(7, .int o31.1), (0, .ref (u.1 0)), (1, .int x1), (2, .int x2), (3, .int x3), (4, .int x4), (5, .int x5), (6, .int x6)]) hx hb dL_holds_34 hl (by decide) rfl (fun ls hl => ?_)
          refine lv_aload_n hx hb dL_holds_36 rfl (lv_at hl 1 rfl) ?_
          refine lv_iconst (v := 3) hx hb dL_holds_37 (by decide) ?_
          refine lv_iload hx hb dL_holds_38 (lv_at hl 7 rfl) ?_
          refine lv_iconst (v := 3) hx hb dL_holds_40 (by decide) ?_
          refine lv_iconst (v := 0) hx hb dL_holds_41 (by decide) ?_
          obtain ⟨o42, ho42, hq⟩ := kbind hq
          refine kh_Si (k := (kc + 1)) (nc := 1) (av := [.ref (u.1 0), .int (3 : Int32), .int x6, .int (3 : Int32), .int (0 : Int32)]) (rest := []) (ws' := (dkW cI u o42.2)) hF hK hG hA (mk_L_call l hst D cI u H.size o31.2 (3 : Int32) x6 (3 : Int32) (0 : Int32) o42 ho42) (va_cwS 5 hts gL_holds_L_call rfl rfl rfl (by decide +kernel) ⟨Nat.le_of_ble_eq_true rfl, Nat.le_of_ble_eq_true rfl⟩) hP hD hS (kSub_all dkW_fst) rfl hl.1 rfl (Nat.le_of_ble_eq_true rfl) ⟨by show (kc + 1) + 1 ≤ 185; omega, by show 6 * (kc + 1) + 6 * 1 ≤ 1110; omega⟩ dL_holds_42 (fun H locs hP hD hS => ?_)
          refine lv_istore (lv' := [(8, .int o42.1), (7, .int o31.1), (0, .ref (u.1 0)), (1, .int x1), (2, .int x2), (3, .int x3), (4, .int x4), (5, .int x5), (6, .int x6)]) hx hb dL_holds_45 hl (by decide) rfl (fun ls hl => ?_)
          refine lv_aload_n hx hb dL_holds_47 rfl (lv_at hl 2 rfl) ?_
          refine lv_iconst (v := 3) hx hb dL_holds_48 (by decide) ?_
          refine lv_iload hx hb dL_holds_49 (lv_at hl 8 rfl) ?_
          refine lv_iconst (v := 1) hx hb dL_holds_51 (by decide) ?_
          refine lv_iconst (v := 0) hx hb dL_holds_52 (by decide) ?_
          obtain ⟨o53, ho53, hq⟩ := kbind hq
          refine kh_Si (k := (kc + 1 + 1)) (nc := 1) (av := [.ref (u.1 0), .int (3 : Int32), .int x6, .int (1 : Int32), .int (0 : Int32)]) (rest := []) (ws' := (dkW cI u o53.2)) hF hK hG hA (mk_L_call l hst D cI u H.size o42.2 (3 : Int32) x6 (1 : Int32) (0 : Int32) o53 ho53) (va_cwS 5 hts gL_holds_L_call rfl rfl rfl (by decide +kernel) ⟨Nat.le_of_ble_eq_true rfl, Nat.le_of_ble_eq_true rfl⟩) hP hD hS (kSub_all dkW_fst) rfl hl.1 rfl (Nat.le_of_ble_eq_true rfl) ⟨by show (kc + 1 + 1) + 1 ≤ 185; omega, by show 6 * (kc + 1 + 1) + 6 * 1 ≤ 1110; omega⟩ dL_holds_53 (fun H locs hP hD hS => ?_)
          refine lv_istore (lv' := [(9, .int o53.1), (8, .int o42.1), (7, .int o31.1), (0, .ref (u.1 0)), (1, .int x1), (2, .int x2), (3, .int x3), (4, .int x4), (5, .int x5), (6, .int x6)]) hx hb dL_holds_56 hl (by decide) rfl (fun ls hl => ?_)
          refine lv_iload hx hb dL_holds_58 (lv_at hl 9 rfl) ?_
          refine lv_iconst (v := 5) hx hb dL_holds_60 (by decide) ?_
          refine lv_icmp_le (tgt := 68) hx hb dL_holds_61 (by decide) (fun c9 => ?_) (fun c9 => ?_)
          · have hq := kite_t c9 hq
            refine lv_iload hx hb dL_holds_68 (lv_at hl 9 rfl) ?_
            refine lv_iconst (v := 2) hx hb dL_holds_70 (by decide) ?_
            refine lv_icmp_le (tgt := 78) hx hb dL_holds_71 (by decide) (fun c9 => ?_) (fun c9 => ?_)
            · have hq := kite_t c9 hq
              refine lv_iload hx hb dL_holds_78 (lv_at hl 9 rfl) ?_
              refine lv_if_le (tgt := 87) hx hb dL_holds_80 (by decide) (fun c9 => ?_) (fun c9 => ?_)
              · have hq := kite_t c9 hq
                refine lv_iconst (v := 0) hx hb dL_holds_87 (by decide) ?_
                exact b_88 (fn_L_holds_13 q) (q * 5 + 125) (by omega) ih (kc + 1 + 1 + 1) _ _ _ o53.2 x1 x2 x3 x4 x6 o31.1 o42.1 o53.1 (0 : Int32) (by omega) hq hP hD hS (lv_sub hl [3, 4, 5, 6, 7, 9, 2, 1, 0] rfl)
              · have hq := kite_f c9 hq
                refine lv_iconst (v := 1) hx hb dL_holds_83 (by decide) ?_
                refine lv_goto (tgt := 88) hx hb dL_holds_84 (by decide) ?_
                exact b_88 (fn_L_holds_13 q) (q * 5 + 125) (by omega) ih (kc + 1 + 1 + 1) _ _ _ o53.2 x1 x2 x3 x4 x6 o31.1 o42.1 o53.1 (1 : Int32) (by omega) hq hP hD hS (lv_sub hl [3, 4, 5, 6, 7, 9, 2, 1, 0] rfl)
            · have hq := kite_f c9 hq
              refine lv_iconst (v := 2) hx hb dL_holds_74 (by decide) ?_
              refine lv_goto (tgt := 88) hx hb dL_holds_75 (by decide) ?_
              exact b_88 (fn_L_holds_13 q) (q * 5 + 125) (by omega) ih (kc + 1 + 1 + 1) _ _ _ o53.2 x1 x2 x3 x4 x6 o31.1 o42.1 o53.1 (2 : Int32) (by omega) hq hP hD hS (lv_sub hl [3, 4, 5, 6, 7, 9, 2, 1, 0] rfl)
          · have hq := kite_f c9 hq
            refine lv_iconst (v := 3) hx hb dL_holds_64 (by decide) ?_
            refine lv_goto (tgt := 88) hx hb dL_holds_65 (by decide) ?_
            exact b_88 (fn_L_holds_13 q) (q * 5 + 125) (by omega) ih (kc + 1 + 1 + 1) _ _ _ o53.2 x1 x2 x3 x4 x6 o31.1 o42.1 o53.1 (3 : Int32) (by omega) hq hP hD hS (lv_sub hl [3, 4, 5, 6, 7, 9, 2, 1, 0] rfl)
  refine lv_iconst (v := 0) hx hb dL_holds_0 (by decide) ?_
  refine lv_istore_n (lv' := [(2, .int (0 : Int32)), (0, .ref (u.1 0)), (1, .int x1)]) hx hb dL_holds_1 rfl hl (by decide) rfl (fun ls hl => ?_)
  refine lv_iconst (v := 0) hx hb dL_holds_2 (by decide) ?_
  refine lv_istore_n (lv' := [(3, .int (0 : Int32)), (2, .int (0 : Int32)), (0, .ref (u.1 0)), (1, .int x1)]) hx hb dL_holds_3 rfl hl (by decide) rfl (fun ls hl => ?_)
  refine lv_iconst (v := 0) hx hb dL_holds_4 (by decide) ?_
  refine lv_istore (lv' := [(4, .int (0 : Int32)), (3, .int (0 : Int32)), (2, .int (0 : Int32)), (0, .ref (u.1 0)), (1, .int x1)]) hx hb dL_holds_5 hl (by decide) rfl (fun ls hl => ?_)
  refine lv_iconst (v := 1) hx hb dL_holds_7 (by decide) ?_
  refine lv_istore (lv' := [(5, .int (1 : Int32)), (4, .int (0 : Int32)), (3, .int (0 : Int32)), (2, .int (0 : Int32)), (0, .ref (u.1 0)), (1, .int x1)]) hx hb dL_holds_8 hl (by decide) rfl (fun ls hl => ?_)
  refine lv_iconst (v := 0) hx hb dL_holds_10 (by decide) ?_
  refine lv_istore (lv' := [(6, .int (0 : Int32)), (5, .int (1 : Int32)), (4, .int (0 : Int32)), (3, .int (0 : Int32)), (2, .int (0 : Int32)), (0, .ref (u.1 0)), (1, .int x1)]) hx hb dL_holds_11 hl (by decide) rfl (fun ls hl => ?_)
  exact b_13 12 0 _ _ _ d x1 (0 : Int32) (0 : Int32) (0 : Int32) (1 : Int32) (0 : Int32) (by omega) hq hP hD hS (lv_sub hl [5, 6, 4, 3, 2, 1, 0] rfl)

