/-! law (written by wip/p26/gen/gen26.py) -/
set_option maxHeartbeats 8000000 in
set_option maxRecDepth 100000 in
theorem law_16 {p : Program} {l : Launch} {e : Env} {s : State} {m : MethodId} {args : Array Value} {below : List Frame} {meth : Method} {c : Code} {Q : State → Prop} {D : va_G} {cI : Nat → ClassId} {A : Nat → Prop} {b L : Nat} {xs : Nat → Int32} (u v : kHad) (o : Int32 × kDk × kDk)
    (hF : CallFix p m c cL_law 20 s args wsL_law RL) (hK : KK D cI s) (hG : GS A s s.heap) (hA : ∀ q, s.heap.size ≤ q → A q) (hL : L ≤ 260) (hX : va_X b L xs s s.heap) (hbl : b < s.heap.size) (hbA : ¬ A b) (hst : l.stackTraces = false)
    (hend : ∀ (H : Heap) (locs : List Loc) (ls : Array Slot) (pc : Nat), (o.1 = 0 ∨ o.1 = 1) → va_P D vwCl (dkW cI u o.2.1 ++ dkW cI v o.2.2) H → va_S A s.heap H locs → decode cL_law pc = .ok (.ireturn, 1) → W p l e room_1 s m args below meth c H locs 40000 (6 * 40000) Q (F0 m pc ls [.int o.1]))
    (kc : Nat) (H : Heap) (locs : List Loc) (ls : Array Slot) (d z : kDk) (hkc : kc + 13290 ≤ 40000) (hq : fn_L_law L xs d z = some o) (hP : va_P D vwCl (dkW cI u d ++ dkW cI v z) H) (hD : va_D A (dkW cI u d ++ dkW cI v z)) (hS : va_S A s.heap H locs) (hl : lv_has ls 20 [(0, .ref b), (1, .ref (u.1 0)), (2, .ref (v.1 0))]) : W p l e room_1 s m args below meth c H locs kc (6 * kc) Q (F0 m 16 ls []) := by
  obtain ⟨hx, hb, hml, hown, hts⟩ := id hF
  have b_686 : ∀ (kc : Nat) (H : Heap) (locs : List Loc) (ls : Array Slot) (d : kDk) (z : kDk) (x4 : Int32), kc + 0 ≤ 40000 → fn_L_law_686 L xs d z x4 = some o → va_P D vwCl (dkW cI u d ++ dkW cI v z) H → va_D A (dkW cI u d ++ dkW cI v z) → va_S A s.heap H locs → lv_has ls 20 [(4, .int x4)] → W p l e room_1 s m args below meth c H locs kc (6 * kc) Q (F0 m 686 ls []) := by
    intro kc H locs ls d z x4
    intro hkc hq hP hD hS hl
    refine lv_iload hx hb dL_law_686 (lv_at hl 0 rfl) ?_
    obtain ⟨hz, hq⟩ := kite_b hq
    have ho := Option.some.inj hq
    subst ho
    refine W.widen (k := 40000) (n := 6 * 40000) (by omega) (by omega) ?_
    exact hend _ _ _ _ hz hP hS dL_law_688
  have b_680 : ∀ (q34 : kDk → kDk → Int32 → Int32 → Int32 → Option (Int32 × kDk × kDk)) (c34 : Nat), 0 ≤ c34 → (∀ (kc : Nat) (H : Heap) (locs : List Loc) (ls : Array Slot) (d : kDk) (z : kDk) (x3 : Int32) (x4 : Int32) (x5 : Int32), kc + c34 ≤ 40000 → q34 d z x3 x4 x5 = some o → va_P D vwCl (dkW cI u d ++ dkW cI v z) H → va_D A (dkW cI u d ++ dkW cI v z) → va_S A s.heap H locs → lv_has ls 20 [(0, .ref b), (1, .ref (u.1 0)), (2, .ref (v.1 0)), (3, .int x3), (4, .int x4), (5, .int x5)] → W p l e room_1 s m args below meth c H locs kc (6 * kc) Q (F0 m 34 ls [])) → ∀ (kc : Nat) (H : Heap) (locs : List Loc) (ls : Array Slot) (d : kDk) (z : kDk) (x3 : Int32) (x4 : Int32) (x5 : Int32), kc + (0 + c34) ≤ 40000 → fn_L_law_680 L xs q34 d z x3 x4 x5 = some o → va_P D vwCl (dkW cI u d ++ dkW cI v z) H → va_D A (dkW cI u d ++ dkW cI v z) → va_S A s.heap H locs → lv_has ls 20 [(0, .ref b), (1, .ref (u.1 0)), (2, .ref (v.1 0)), (3, .int x3), (4, .int x4), (5, .int x5)] → W p l e room_1 s m args below meth c H locs kc (6 * kc) Q (F0 m 680 ls []) := by
    intro q34 c34 hc34 i34
    intro kc H locs ls d z x3 x4 x5
    intro hkc hq hP hD hS hl
    refine lv_iinc (v := (x5 + 1)) (lv' := [(5, .int (x5 + 1)), (0, .ref b), (1, .ref (u.1 0)), (2, .ref (v.1 0)), (3, .int x3), (4, .int x4)]) hx hb dL_law_680 hl (k := 5) rfl rfl (by decide) rfl (fun ls hl => ?_)
    refine lv_goto (tgt := 34) hx hb dL_law_683 (by decide) ?_
    exact i34 kc _ _ _ d z x3 x4 (x5 + 1) (by omega) hq hP hD hS (lv_sub hl [1, 2, 3, 4, 5, 0] rfl)
  have b_678 : ∀ (q34 : kDk → kDk → Int32 → Int32 → Int32 → Option (Int32 × kDk × kDk)) (c34 : Nat), 0 ≤ c34 → (∀ (kc : Nat) (H : Heap) (locs : List Loc) (ls : Array Slot) (d : kDk) (z : kDk) (x3 : Int32) (x4 : Int32) (x5 : Int32), kc + c34 ≤ 40000 → q34 d z x3 x4 x5 = some o → va_P D vwCl (dkW cI u d ++ dkW cI v z) H → va_D A (dkW cI u d ++ dkW cI v z) → va_S A s.heap H locs → lv_has ls 20 [(0, .ref b), (1, .ref (u.1 0)), (2, .ref (v.1 0)), (3, .int x3), (4, .int x4), (5, .int x5)] → W p l e room_1 s m args below meth c H locs kc (6 * kc) Q (F0 m 34 ls [])) → ∀ (kc : Nat) (H : Heap) (locs : List Loc) (ls : Array Slot) (d : kDk) (z : kDk) (x3 : Int32) (x5 : Int32) (k0 : Int32), kc + (0 + c34) ≤ 40000 → fn_L_law_678 L xs q34 d z x3 x5 k0 = some o → va_P D vwCl (dkW cI u d ++ dkW cI v z) H → va_D A (dkW cI u d ++ dkW cI v z) → va_S A s.heap H locs → lv_has ls 20 [(0, .ref b), (1, .ref (u.1 0)), (2, .ref (v.1 0)), (3, .int x3), (5, .int x5)] → W p l e room_1 s m args below meth c H locs kc (6 * kc) Q (F0 m 678 ls [.int k0]) := by
    intro q34 c34 hc34 i34
    intro kc H locs ls d z x3 x5 k0
    intro hkc hq hP hD hS hl
    refine lv_istore (lv' := [(4, .int k0), (0, .ref b), (1, .ref (u.1 0)), (2, .ref (v.1 0)), (3, .int x3), (5, .int x5)]) hx hb dL_law_678 hl (by decide) rfl (fun ls hl => ?_)
    exact b_680 q34 c34 hc34 i34 kc _ _ _ d z x3 k0 x5 (by omega) hq hP hD hS (lv_sub hl [1, 2, 3, 4, 0, 5] rfl)
  have b_677 : ∀ (q34 : kDk → kDk → Int32 → Int32 → Int32 → Option (Int32 × kDk × kDk)) (c34 : Nat), 0 ≤ c34 → (∀ (kc : Nat) (H : Heap) (locs : List Loc) (ls : Array Slot) (d : kDk) (z : kDk) (x3 : Int32) (x4 : Int32) (x5 : Int32), kc + c34 ≤ 40000 → q34 d z x3 x4 x5 = some o → va_P D vwCl (dkW cI u d ++ dkW cI v z) H → va_D A (dkW cI u d ++ dkW cI v z) → va_S A s.heap H locs → lv_has ls 20 [(0, .ref b), (1, .ref (u.1 0)), (2, .ref (v.1 0)), (3, .int x3), (4, .int x4), (5, .int x5)] → W p l e room_1 s m args below meth c H locs kc (6 * kc) Q (F0 m 34 ls [])) → ∀ (kc : Nat) (H : Heap) (locs : List Loc) (ls : Array Slot) (d : kDk) (z : kDk) (x3 : Int32) (x5 : Int32), kc + (0 + c34) ≤ 40000 → fn_L_law_677 L xs q34 d z x3 x5 = some o → va_P D vwCl (dkW cI u d ++ dkW cI v z) H → va_D A (dkW cI u d ++ dkW cI v z) → va_S A s.heap H locs → lv_has ls 20 [(0, .ref b), (1, .ref (u.1 0)), (2, .ref (v.1 0)), (3, .int x3), (5, .int x5)] → W p l e room_1 s m args below meth c H locs kc (6 * kc) Q (F0 m 677 ls []) := by
    intro q34 c34 hc34 i34
    intro kc H locs ls d z x3 x5
    intro hkc hq hP hD hS hl
    refine lv_iconst (v := 0) hx hb dL_law_677 (by decide) ?_
    exact b_678 q34 c34 hc34 i34 kc _ _ _ d z x3 x5 (0 : Int32) (by omega) hq hP hD hS (lv_sub hl [0, 1, 2, 3, 4] rfl)
  have b_636 : ∀ (q34 : kDk → kDk → Int32 → Int32 → Int32 → Option (Int32 × kDk × kDk)) (c34 : Nat), 0 ≤ c34 → (∀ (kc : Nat) (H : Heap) (locs : List Loc) (ls : Array Slot) (d : kDk) (z : kDk) (x3 : Int32) (x4 : Int32) (x5 : Int32), kc + c34 ≤ 40000 → q34 d z x3 x4 x5 = some o → va_P D vwCl (dkW cI u d ++ dkW cI v z) H → va_D A (dkW cI u d ++ dkW cI v z) → va_S A s.heap H locs → lv_has ls 20 [(0, .ref b), (1, .ref (u.1 0)), (2, .ref (v.1 0)), (3, .int x3), (4, .int x4), (5, .int x5)] → W p l e room_1 s m args below meth c H locs kc (6 * kc) Q (F0 m 34 ls [])) → ∀ (kc : Nat) (H : Heap) (locs : List Loc) (ls : Array Slot) (d : kDk) (z : kDk) (x3 : Int32) (x4 : Int32) (x5 : Int32) (x8 : Int32) (x9 : Int32) (x15 : Int32), kc + (2 + c34) ≤ 40000 → fn_L_law_636 L xs q34 d z x3 x4 x5 x8 x9 x15 = some o → va_P D vwCl (dkW cI u d ++ dkW cI v z) H → va_D A (dkW cI u d ++ dkW cI v z) → va_S A s.heap H locs → lv_has ls 20 [(0, .ref b), (1, .ref (u.1 0)), (2, .ref (v.1 0)), (3, .int x3), (4, .int x4), (5, .int x5), (8, .int x8), (9, .int x9), (15, .int x15)] → W p l e room_1 s m args below meth c H locs kc (6 * kc) Q (F0 m 636 ls []) := by
    intro q34 c34 hc34 i34
    intro kc H locs ls d z x3 x4 x5 x8 x9 x15
    intro hkc hq hP hD hS hl
    refine lv_iload hx hb dL_law_636 (lv_at hl 4 rfl) ?_
    refine lv_if_eq (tgt := 677) hx hb dL_law_638 (by decide) (fun c9 => ?_) (fun c9 => ?_)
    · have hq := kite_t c9 hq
      exact b_677 q34 c34 hc34 i34 kc _ _ _ d z x3 x5 (by omega) hq hP hD hS (lv_sub hl [0, 1, 2, 3, 5] rfl)
    · have hq := kite_f c9 hq
      refine lv_aload_n hx hb dL_law_641 rfl (lv_at hl 1 rfl) ?_
      refine lv_iload hx hb dL_law_642 (lv_at hl 7 rfl) ?_
      refine lv_iload hx hb dL_law_644 (lv_at hl 6 rfl) ?_
      refine lv_bipush (v := 30) hx hb dL_law_646 (by decide) ?_
      refine lv_iconst (v := 0) hx hb dL_law_648 (by decide) ?_
      obtain ⟨o649, ho649, hq⟩ := kbind hq
      refine kh_Wi (k := kc) (nc := 1) (av := [.ref (u.1 0), .int x9, .int x8, .int (30 : Int32), .int (0 : Int32)]) (rest := []) (ws' := (dkW cI u o649.2 ++ dkW cI v z)) hF hK hG hA (bm_rolls l hst D cI u H.size d x9 x8 (30 : Int32) (0 : Int32) o649 ho649) (vx_cwSW 5 hts gL_law_L_rolls rfl rfl rfl (by decide +kernel) ⟨Nat.le_of_ble_eq_true rfl, Nat.le_of_ble_eq_true rfl⟩) hP hD hS (kSub_l dkW_fst) rfl hl.1 rfl (Nat.le_of_ble_eq_true rfl) ⟨by show kc + 1 ≤ 660915; omega, by show 6 * kc + 6 * 1 ≤ 7118878; omega⟩ dL_law_649 (fun H locs hP hD hS => ?_)
      refine lv_ldc (v := (-9999003)) hx hb hown (hts (.constant RL 18 (-9999003 : Int32)) (by decide +kernel)) dL_law_652 ?_
      refine lv_icmp_ne (tgt := 677) hx hb dL_law_654 (by decide) (fun c9 => ?_) (fun c9 => ?_)
      · have hq := kite_f c9 hq
        exact b_677 q34 c34 hc34 i34 (kc + 1) _ _ _ o649.2 z x3 x5 (by omega) hq hP hD hS (lv_sub hl [0, 1, 2, 3, 5] rfl)
      · have hq := kite_t c9 hq
        refine lv_aload_n hx hb dL_law_657 rfl (lv_at hl 1 rfl) ?_
        refine lv_bipush (v := 12) hx hb dL_law_658 (by decide) ?_
        refine lv_iload hx hb dL_law_660 (lv_at hl 7 rfl) ?_
        refine lv_iload hx hb dL_law_662 (lv_at hl 6 rfl) ?_
        refine lv_iconst (v := 0) hx hb dL_law_664 (by decide) ?_
        obtain ⟨o665, ho665, hq⟩ := kbind hq
        refine kh_Si (k := (kc + 1)) (nc := 1) (av := [.ref (u.1 0), .int (12 : Int32), .int x9, .int x8, .int (0 : Int32)]) (rest := []) (ws' := (dkW cI u o665.2 ++ dkW cI v z)) hF hK hG hA (mk_L_call l hst D cI u H.size o649.2 (12 : Int32) x9 x8 (0 : Int32) o665 ho665) (va_cwS 5 hts gL_law_L_call rfl rfl rfl (by decide +kernel) ⟨Nat.le_of_ble_eq_true rfl, Nat.le_of_ble_eq_true rfl⟩) hP hD hS (kSub_l dkW_fst) rfl hl.1 rfl (Nat.le_of_ble_eq_true rfl) ⟨by show (kc + 1) + 1 ≤ 660915; omega, by show 6 * (kc + 1) + 6 * 1 ≤ 7118878; omega⟩ dL_law_665 (fun H locs hP hD hS => ?_)
        refine lv_iload hx hb dL_law_668 (lv_at hl 8 rfl) ?_
        refine lv_icmp_ne (tgt := 677) hx hb dL_law_670 (by decide) (fun c9 => ?_) (fun c9 => ?_)
        · have hq := kite_f c9 hq
          exact b_677 q34 c34 hc34 i34 (kc + 1 + 1) _ _ _ o665.2 z x3 x5 (by omega) hq hP hD hS (lv_sub hl [0, 1, 2, 3, 5] rfl)
        · have hq := kite_t c9 hq
          refine lv_iconst (v := 1) hx hb dL_law_673 (by decide) ?_
          refine lv_goto (tgt := 678) hx hb dL_law_674 (by decide) ?_
          exact b_678 q34 c34 hc34 i34 (kc + 1 + 1) _ _ _ o665.2 z x3 x5 (1 : Int32) (by omega) hq hP hD hS (lv_sub hl [0, 1, 2, 3, 5] rfl)
  have b_631 : ∀ (q34 : kDk → kDk → Int32 → Int32 → Int32 → Option (Int32 × kDk × kDk)) (c34 : Nat), 0 ≤ c34 → (∀ (kc : Nat) (H : Heap) (locs : List Loc) (ls : Array Slot) (d : kDk) (z : kDk) (x3 : Int32) (x4 : Int32) (x5 : Int32), kc + c34 ≤ 40000 → q34 d z x3 x4 x5 = some o → va_P D vwCl (dkW cI u d ++ dkW cI v z) H → va_D A (dkW cI u d ++ dkW cI v z) → va_S A s.heap H locs → lv_has ls 20 [(0, .ref b), (1, .ref (u.1 0)), (2, .ref (v.1 0)), (3, .int x3), (4, .int x4), (5, .int x5)] → W p l e room_1 s m args below meth c H locs kc (6 * kc) Q (F0 m 34 ls [])) → ∀ (kc : Nat) (H : Heap) (locs : List Loc) (ls : Array Slot) (d : kDk) (z : kDk) (x3 : Int32) (x5 : Int32) (k0 : Int32), kc + (0 + c34) ≤ 40000 → fn_L_law_631 L xs q34 d z x3 x5 k0 = some o → va_P D vwCl (dkW cI u d ++ dkW cI v z) H → va_D A (dkW cI u d ++ dkW cI v z) → va_S A s.heap H locs → lv_has ls 20 [(0, .ref b), (1, .ref (u.1 0)), (2, .ref (v.1 0)), (3, .int x3), (5, .int x5)] → W p l e room_1 s m args below meth c H locs kc (6 * kc) Q (F0 m 631 ls [.int k0]) := by
    intro q34 c34 hc34 i34
    intro kc H locs ls d z x3 x5 k0
    intro hkc hq hP hD hS hl
    refine lv_istore (lv' := [(4, .int k0), (0, .ref b), (1, .ref (u.1 0)), (2, .ref (v.1 0)), (3, .int x3), (5, .int x5)]) hx hb dL_law_631 hl (by decide) rfl (fun ls hl => ?_)
    refine lv_goto (tgt := 680) hx hb dL_law_633 (by decide) ?_
    exact b_680 q34 c34 hc34 i34 kc _ _ _ d z x3 k0 x5 (by omega) hq hP hD hS (lv_sub hl [1, 2, 3, 4, 0, 5] rfl)
  have b_630 : ∀ (q34 : kDk → kDk → Int32 → Int32 → Int32 → Option (Int32 × kDk × kDk)) (c34 : Nat), 0 ≤ c34 → (∀ (kc : Nat) (H : Heap) (locs : List Loc) (ls : Array Slot) (d : kDk) (z : kDk) (x3 : Int32) (x4 : Int32) (x5 : Int32), kc + c34 ≤ 40000 → q34 d z x3 x4 x5 = some o → va_P D vwCl (dkW cI u d ++ dkW cI v z) H → va_D A (dkW cI u d ++ dkW cI v z) → va_S A s.heap H locs → lv_has ls 20 [(0, .ref b), (1, .ref (u.1 0)), (2, .ref (v.1 0)), (3, .int x3), (4, .int x4), (5, .int x5)] → W p l e room_1 s m args below meth c H locs kc (6 * kc) Q (F0 m 34 ls [])) → ∀ (kc : Nat) (H : Heap) (locs : List Loc) (ls : Array Slot) (d : kDk) (z : kDk) (x3 : Int32) (x5 : Int32), kc + (0 + c34) ≤ 40000 → fn_L_law_630 L xs q34 d z x3 x5 = some o → va_P D vwCl (dkW cI u d ++ dkW cI v z) H → va_D A (dkW cI u d ++ dkW cI v z) → va_S A s.heap H locs → lv_has ls 20 [(0, .ref b), (1, .ref (u.1 0)), (2, .ref (v.1 0)), (3, .int x3), (5, .int x5)] → W p l e room_1 s m args below meth c H locs kc (6 * kc) Q (F0 m 630 ls []) := by
    intro q34 c34 hc34 i34
    intro kc H locs ls d z x3 x5
    intro hkc hq hP hD hS hl
    refine lv_iconst (v := 0) hx hb dL_law_630 (by decide) ?_
    exact b_631 q34 c34 hc34 i34 kc _ _ _ d z x3 x5 (0 : Int32) (by omega) hq hP hD hS (lv_sub hl [0, 1, 2, 3, 4] rfl)
  have b_537 : ∀ (q34 : kDk → kDk → Int32 → Int32 → Int32 → Option (Int32 × kDk × kDk)) (c34 : Nat), 0 ≤ c34 → (∀ (kc : Nat) (H : Heap) (locs : List Loc) (ls : Array Slot) (d : kDk) (z : kDk) (x3 : Int32) (x4 : Int32) (x5 : Int32), kc + c34 ≤ 40000 → q34 d z x3 x4 x5 = some o → va_P D vwCl (dkW cI u d ++ dkW cI v z) H → va_D A (dkW cI u d ++ dkW cI v z) → va_S A s.heap H locs → lv_has ls 20 [(0, .ref b), (1, .ref (u.1 0)), (2, .ref (v.1 0)), (3, .int x3), (4, .int x4), (5, .int x5)] → W p l e room_1 s m args below meth c H locs kc (6 * kc) Q (F0 m 34 ls [])) → ∀ (kc : Nat) (H : Heap) (locs : List Loc) (ls : Array Slot) (d : kDk) (z : kDk) (x3 : Int32) (x4 : Int32) (x5 : Int32) (x12 : Int32) (x13 : Int32) (x14 : Int32) (x15 : Int32), kc + (6 + c34) ≤ 40000 → fn_L_law_537 L xs q34 d z x3 x4 x5 x12 x13 x14 x15 = some o → va_P D vwCl (dkW cI u d ++ dkW cI v z) H → va_D A (dkW cI u d ++ dkW cI v z) → va_S A s.heap H locs → lv_has ls 20 [(0, .ref b), (1, .ref (u.1 0)), (2, .ref (v.1 0)), (3, .int x3), (4, .int x4), (5, .int x5), (12, .int x12), (13, .int x13), (14, .int x14), (15, .int x15)] → W p l e room_1 s m args below meth c H locs kc (6 * kc) Q (F0 m 537 ls []) := by
    intro q34 c34 hc34 i34
    intro kc H locs ls d z x3 x4 x5 x12 x13 x14 x15
    intro hkc hq hP hD hS hl
    refine lv_iload hx hb dL_law_537 (lv_at hl 4 rfl) ?_
    refine lv_if_eq (tgt := 630) hx hb dL_law_539 (by decide) (fun c9 => ?_) (fun c9 => ?_)
    · have hq := kite_t c9 hq
      exact b_630 q34 c34 hc34 i34 kc _ _ _ d z x3 x5 (by omega) hq hP hD hS (lv_sub hl [0, 1, 2, 3, 5] rfl)
    · have hq := kite_f c9 hq
      refine lv_aload_n hx hb dL_law_542 rfl (lv_at hl 1 rfl) ?_
      refine lv_bipush (v := 9) hx hb dL_law_543 (by decide) ?_
      refine lv_iconst (v := 0) hx hb dL_law_545 (by decide) ?_
      refine lv_iconst (v := 0) hx hb dL_law_546 (by decide) ?_
      refine lv_iconst (v := 0) hx hb dL_law_547 (by decide) ?_
      obtain ⟨o548, ho548, hq⟩ := kbind hq
      refine kh_Si (k := kc) (nc := 1) (av := [.ref (u.1 0), .int (9 : Int32), .int (0 : Int32), .int (0 : Int32), .int (0 : Int32)]) (rest := []) (ws' := (dkW cI u o548.2 ++ dkW cI v z)) hF hK hG hA (mk_L_call l hst D cI u H.size d (9 : Int32) (0 : Int32) (0 : Int32) (0 : Int32) o548 ho548) (va_cwS 5 hts gL_law_L_call rfl rfl rfl (by decide +kernel) ⟨Nat.le_of_ble_eq_true rfl, Nat.le_of_ble_eq_true rfl⟩) hP hD hS (kSub_l dkW_fst) rfl hl.1 rfl (Nat.le_of_ble_eq_true rfl) ⟨by show kc + 1 ≤ 660915; omega, by show 6 * kc + 6 * 1 ≤ 7118878; omega⟩ dL_law_548 (fun H locs hP hD hS => ?_)
      obtain ⟨o551, ho551, hq⟩ := kbind hq
      refine kh_Si (k := (kc + 1)) (nc := 0) (av := [.int o548.1]) (rest := []) (ws' := (dkW cI u o548.2 ++ dkW cI v z)) hF hK hG hA (mk_L_thrown l D cI H.size o548.1 o551 ho551) (va_cwS 1 hts gL_law_L_thrown rfl rfl rfl (by decide +kernel) ⟨Nat.le_of_ble_eq_true rfl, Nat.le_of_ble_eq_true rfl⟩) hP hD hS (kSub_nil) rfl hl.1 rfl (Nat.le_of_ble_eq_true rfl) ⟨by show (kc + 1) + 0 ≤ 660915; omega, by show 6 * (kc + 1) + 6 * 0 ≤ 7118878; omega⟩ dL_law_551 (fun H locs hP hD hS => ?_)
      refine lv_if_ne (tgt := 630) hx hb dL_law_554 (by decide) (fun c9 => ?_) (fun c9 => ?_)
      · have hq := kite_f c9 hq
        exact b_630 q34 c34 hc34 i34 (kc + 1 + 0) _ _ _ o548.2 z x3 x5 (by omega) hq hP hD hS (lv_sub hl [0, 1, 2, 3, 5] rfl)
      · have hq := kite_t c9 hq
        refine lv_aload_n hx hb dL_law_557 rfl (lv_at hl 2 rfl) ?_
        refine lv_bipush (v := 9) hx hb dL_law_558 (by decide) ?_
        refine lv_iconst (v := 0) hx hb dL_law_560 (by decide) ?_
        refine lv_iconst (v := 0) hx hb dL_law_561 (by decide) ?_
        refine lv_iconst (v := 0) hx hb dL_law_562 (by decide) ?_
        obtain ⟨o563, ho563, hq⟩ := kbind hq
        refine kh_Si (k := (kc + 1 + 0)) (nc := 1) (av := [.ref (v.1 0), .int (9 : Int32), .int (0 : Int32), .int (0 : Int32), .int (0 : Int32)]) (rest := []) (ws' := (dkW cI u o548.2 ++ dkW cI v o563.2)) hF hK hG hA (mk_L_call l hst D cI v H.size z (9 : Int32) (0 : Int32) (0 : Int32) (0 : Int32) o563 ho563) (va_cwS 5 hts gL_law_L_call rfl rfl rfl (by decide +kernel) ⟨Nat.le_of_ble_eq_true rfl, Nat.le_of_ble_eq_true rfl⟩) hP hD hS (kSub_r dkW_fst) rfl hl.1 rfl (Nat.le_of_ble_eq_true rfl) ⟨by show (kc + 1 + 0) + 1 ≤ 660915; omega, by show 6 * (kc + 1 + 0) + 6 * 1 ≤ 7118878; omega⟩ dL_law_563 (fun H locs hP hD hS => ?_)
        obtain ⟨o566, ho566, hq⟩ := kbind hq
        refine kh_Si (k := (kc + 1 + 0 + 1)) (nc := 0) (av := [.int o563.1]) (rest := []) (ws' := (dkW cI u o548.2 ++ dkW cI v o563.2)) hF hK hG hA (mk_L_thrown l D cI H.size o563.1 o566 ho566) (va_cwS 1 hts gL_law_L_thrown rfl rfl rfl (by decide +kernel) ⟨Nat.le_of_ble_eq_true rfl, Nat.le_of_ble_eq_true rfl⟩) hP hD hS (kSub_nil) rfl hl.1 rfl (Nat.le_of_ble_eq_true rfl) ⟨by show (kc + 1 + 0 + 1) + 0 ≤ 660915; omega, by show 6 * (kc + 1 + 0 + 1) + 6 * 0 ≤ 7118878; omega⟩ dL_law_566 (fun H locs hP hD hS => ?_)
        refine lv_if_ne (tgt := 630) hx hb dL_law_569 (by decide) (fun c9 => ?_) (fun c9 => ?_)
        · have hq := kite_f c9 hq
          exact b_630 q34 c34 hc34 i34 (kc + 1 + 0 + 1 + 0) _ _ _ o548.2 o563.2 x3 x5 (by omega) hq hP hD hS (lv_sub hl [0, 1, 2, 3, 5] rfl)
        · have hq := kite_t c9 hq
          refine lv_aload_n hx hb dL_law_572 rfl (lv_at hl 1 rfl) ?_
          refine lv_iconst (v := 2) hx hb dL_law_573 (by decide) ?_
          refine lv_bipush (v := 7) hx hb dL_law_574 (by decide) ?_
          refine lv_iconst (v := 0) hx hb dL_law_576 (by decide) ?_
          refine lv_iconst (v := 0) hx hb dL_law_577 (by decide) ?_
          obtain ⟨o578, ho578, hq⟩ := kbind hq
          refine kh_Si (k := (kc + 1 + 0 + 1 + 0)) (nc := 1) (av := [.ref (u.1 0), .int (2 : Int32), .int (7 : Int32), .int (0 : Int32), .int (0 : Int32)]) (rest := []) (ws' := (dkW cI u o578.2 ++ dkW cI v o563.2)) hF hK hG hA (mk_L_call l hst D cI u H.size o548.2 (2 : Int32) (7 : Int32) (0 : Int32) (0 : Int32) o578 ho578) (va_cwS 5 hts gL_law_L_call rfl rfl rfl (by decide +kernel) ⟨Nat.le_of_ble_eq_true rfl, Nat.le_of_ble_eq_true rfl⟩) hP hD hS (kSub_l dkW_fst) rfl hl.1 rfl (Nat.le_of_ble_eq_true rfl) ⟨by show (kc + 1 + 0 + 1 + 0) + 1 ≤ 660915; omega, by show 6 * (kc + 1 + 0 + 1 + 0) + 6 * 1 ≤ 7118878; omega⟩ dL_law_578 (fun H locs hP hD hS => ?_)
          refine lv_iload hx hb dL_law_581 (lv_at hl 6 rfl) ?_
          refine lv_icmp_ne (tgt := 630) hx hb dL_law_583 (by decide) (fun c9 => ?_) (fun c9 => ?_)
          · have hq := kite_f c9 hq
            exact b_630 q34 c34 hc34 i34 (kc + 1 + 0 + 1 + 0 + 1) _ _ _ o578.2 o563.2 x3 x5 (by omega) hq hP hD hS (lv_sub hl [0, 1, 2, 3, 5] rfl)
          · have hq := kite_t c9 hq
            refine lv_aload_n hx hb dL_law_586 rfl (lv_at hl 1 rfl) ?_
            refine lv_iconst (v := 2) hx hb dL_law_587 (by decide) ?_
            refine lv_iconst (v := 2) hx hb dL_law_588 (by decide) ?_
            refine lv_iconst (v := 0) hx hb dL_law_589 (by decide) ?_
            refine lv_iconst (v := 0) hx hb dL_law_590 (by decide) ?_
            obtain ⟨o591, ho591, hq⟩ := kbind hq
            refine kh_Si (k := (kc + 1 + 0 + 1 + 0 + 1)) (nc := 1) (av := [.ref (u.1 0), .int (2 : Int32), .int (2 : Int32), .int (0 : Int32), .int (0 : Int32)]) (rest := []) (ws' := (dkW cI u o591.2 ++ dkW cI v o563.2)) hF hK hG hA (mk_L_call l hst D cI u H.size o578.2 (2 : Int32) (2 : Int32) (0 : Int32) (0 : Int32) o591 ho591) (va_cwS 5 hts gL_law_L_call rfl rfl rfl (by decide +kernel) ⟨Nat.le_of_ble_eq_true rfl, Nat.le_of_ble_eq_true rfl⟩) hP hD hS (kSub_l dkW_fst) rfl hl.1 rfl (Nat.le_of_ble_eq_true rfl) ⟨by show (kc + 1 + 0 + 1 + 0 + 1) + 1 ≤ 660915; omega, by show 6 * (kc + 1 + 0 + 1 + 0 + 1) + 6 * 1 ≤ 7118878; omega⟩ dL_law_591 (fun H locs hP hD hS => ?_)
            refine lv_iload hx hb dL_law_594 (lv_at hl 7 rfl) ?_
            refine lv_icmp_ne (tgt := 630) hx hb dL_law_596 (by decide) (fun c9 => ?_) (fun c9 => ?_)
            · have hq := kite_f c9 hq
              exact b_630 q34 c34 hc34 i34 (kc + 1 + 0 + 1 + 0 + 1 + 1) _ _ _ o591.2 o563.2 x3 x5 (by omega) hq hP hD hS (lv_sub hl [0, 1, 2, 3, 5] rfl)
            · have hq := kite_t c9 hq
              refine lv_aload_n hx hb dL_law_599 rfl (lv_at hl 1 rfl) ?_
              refine lv_iconst (v := 2) hx hb dL_law_600 (by decide) ?_
              refine lv_iconst (v := 3) hx hb dL_law_601 (by decide) ?_
              refine lv_iconst (v := 0) hx hb dL_law_602 (by decide) ?_
              refine lv_iconst (v := 0) hx hb dL_law_603 (by decide) ?_
              obtain ⟨o604, ho604, hq⟩ := kbind hq
              refine kh_Si (k := (kc + 1 + 0 + 1 + 0 + 1 + 1)) (nc := 1) (av := [.ref (u.1 0), .int (2 : Int32), .int (3 : Int32), .int (0 : Int32), .int (0 : Int32)]) (rest := []) (ws' := (dkW cI u o604.2 ++ dkW cI v o563.2)) hF hK hG hA (mk_L_call l hst D cI u H.size o591.2 (2 : Int32) (3 : Int32) (0 : Int32) (0 : Int32) o604 ho604) (va_cwS 5 hts gL_law_L_call rfl rfl rfl (by decide +kernel) ⟨Nat.le_of_ble_eq_true rfl, Nat.le_of_ble_eq_true rfl⟩) hP hD hS (kSub_l dkW_fst) rfl hl.1 rfl (Nat.le_of_ble_eq_true rfl) ⟨by show (kc + 1 + 0 + 1 + 0 + 1 + 1) + 1 ≤ 660915; omega, by show 6 * (kc + 1 + 0 + 1 + 0 + 1 + 1) + 6 * 1 ≤ 7118878; omega⟩ dL_law_604 (fun H locs hP hD hS => ?_)
              refine lv_iload hx hb dL_law_607 (lv_at hl 9 rfl) ?_
              refine lv_icmp_ne (tgt := 630) hx hb dL_law_609 (by decide) (fun c9 => ?_) (fun c9 => ?_)
              · have hq := kite_f c9 hq
                exact b_630 q34 c34 hc34 i34 (kc + 1 + 0 + 1 + 0 + 1 + 1 + 1) _ _ _ o604.2 o563.2 x3 x5 (by omega) hq hP hD hS (lv_sub hl [0, 1, 2, 3, 5] rfl)
              · have hq := kite_t c9 hq
                refine lv_aload_n hx hb dL_law_612 rfl (lv_at hl 1 rfl) ?_
                refine lv_bipush (v := 6) hx hb dL_law_613 (by decide) ?_
                refine lv_iconst (v := 0) hx hb dL_law_615 (by decide) ?_
                refine lv_iconst (v := 0) hx hb dL_law_616 (by decide) ?_
                refine lv_iconst (v := 0) hx hb dL_law_617 (by decide) ?_
                obtain ⟨o618, ho618, hq⟩ := kbind hq
                refine kh_Si (k := (kc + 1 + 0 + 1 + 0 + 1 + 1 + 1)) (nc := 1) (av := [.ref (u.1 0), .int (6 : Int32), .int (0 : Int32), .int (0 : Int32), .int (0 : Int32)]) (rest := []) (ws' := (dkW cI u o618.2 ++ dkW cI v o563.2)) hF hK hG hA (mk_L_call l hst D cI u H.size o604.2 (6 : Int32) (0 : Int32) (0 : Int32) (0 : Int32) o618 ho618) (va_cwS 5 hts gL_law_L_call rfl rfl rfl (by decide +kernel) ⟨Nat.le_of_ble_eq_true rfl, Nat.le_of_ble_eq_true rfl⟩) hP hD hS (kSub_l dkW_fst) rfl hl.1 rfl (Nat.le_of_ble_eq_true rfl) ⟨by show (kc + 1 + 0 + 1 + 0 + 1 + 1 + 1) + 1 ≤ 660915; omega, by show 6 * (kc + 1 + 0 + 1 + 0 + 1 + 1 + 1) + 6 * 1 ≤ 7118878; omega⟩ dL_law_618 (fun H locs hP hD hS => ?_)
                refine lv_iload hx hb dL_law_621 (lv_at hl 8 rfl) ?_
                refine lv_icmp_ne (tgt := 630) hx hb dL_law_623 (by decide) (fun c9 => ?_) (fun c9 => ?_)
                · have hq := kite_f c9 hq
                  exact b_630 q34 c34 hc34 i34 (kc + 1 + 0 + 1 + 0 + 1 + 1 + 1 + 1) _ _ _ o618.2 o563.2 x3 x5 (by omega) hq hP hD hS (lv_sub hl [0, 1, 2, 3, 5] rfl)
                · have hq := kite_t c9 hq
                  refine lv_iconst (v := 1) hx hb dL_law_626 (by decide) ?_
                  refine lv_goto (tgt := 631) hx hb dL_law_627 (by decide) ?_
                  exact b_631 q34 c34 hc34 i34 (kc + 1 + 0 + 1 + 0 + 1 + 1 + 1 + 1) _ _ _ o618.2 o563.2 x3 x5 (1 : Int32) (by omega) hq hP hD hS (lv_sub hl [0, 1, 2, 3, 5] rfl)
  have b_529 : ∀ (q34 : kDk → kDk → Int32 → Int32 → Int32 → Option (Int32 × kDk × kDk)) (c34 : Nat), 0 ≤ c34 → (∀ (kc : Nat) (H : Heap) (locs : List Loc) (ls : Array Slot) (d : kDk) (z : kDk) (x3 : Int32) (x4 : Int32) (x5 : Int32), kc + c34 ≤ 40000 → q34 d z x3 x4 x5 = some o → va_P D vwCl (dkW cI u d ++ dkW cI v z) H → va_D A (dkW cI u d ++ dkW cI v z) → va_S A s.heap H locs → lv_has ls 20 [(0, .ref b), (1, .ref (u.1 0)), (2, .ref (v.1 0)), (3, .int x3), (4, .int x4), (5, .int x5)] → W p l e room_1 s m args below meth c H locs kc (6 * kc) Q (F0 m 34 ls [])) → ∀ (q457 : kDk → kDk → Int32 → Int32 → Int32 → Int32 → Int32 → Int32 → Int32 → Int32 → Int32 → Int32 → Option (Int32 × kDk × kDk)) (c457 : Nat), 6 + c34 ≤ c457 → (∀ (kc : Nat) (H : Heap) (locs : List Loc) (ls : Array Slot) (d : kDk) (z : kDk) (x3 : Int32) (x4 : Int32) (x5 : Int32) (x11 : Int32) (x12 : Int32) (x13 : Int32) (x14 : Int32) (x15 : Int32) (x16 : Int32) (x18 : Int32), kc + c457 ≤ 40000 → q457 d z x3 x4 x5 x11 x12 x13 x14 x15 x16 x18 = some o → va_P D vwCl (dkW cI u d ++ dkW cI v z) H → va_D A (dkW cI u d ++ dkW cI v z) → va_S A s.heap H locs → lv_has ls 20 [(0, .ref b), (1, .ref (u.1 0)), (2, .ref (v.1 0)), (3, .int x3), (4, .int x4), (5, .int x5), (11, .int x11), (12, .int x12), (13, .int x13), (14, .int x14), (15, .int x15), (16, .int x16), (18, .int x18)] → W p l e room_1 s m args below meth c H locs kc (6 * kc) Q (F0 m 457 ls [])) → ∀ (kc : Nat) (H : Heap) (locs : List Loc) (ls : Array Slot) (d : kDk) (z : kDk) (x3 : Int32) (x5 : Int32) (x11 : Int32) (x12 : Int32) (x13 : Int32) (x14 : Int32) (x15 : Int32) (x16 : Int32) (x18 : Int32) (k0 : Int32), kc + (0 + c457) ≤ 40000 → fn_L_law_529 L xs q34 q457 d z x3 x5 x11 x12 x13 x14 x15 x16 x18 k0 = some o → va_P D vwCl (dkW cI u d ++ dkW cI v z) H → va_D A (dkW cI u d ++ dkW cI v z) → va_S A s.heap H locs → lv_has ls 20 [(0, .ref b), (1, .ref (u.1 0)), (2, .ref (v.1 0)), (3, .int x3), (5, .int x5), (11, .int x11), (12, .int x12), (13, .int x13), (14, .int x14), (15, .int x15), (16, .int x16), (18, .int x18)] → W p l e room_1 s m args below meth c H locs kc (6 * kc) Q (F0 m 529 ls [.int k0]) := by
    intro q34 c34 hc34 i34 q457 c457 hc457 i457
    intro kc H locs ls d z x3 x5 x11 x12 x13 x14 x15 x16 x18 k0
    intro hkc hq hP hD hS hl
    refine lv_istore (lv' := [(4, .int k0), (0, .ref b), (1, .ref (u.1 0)), (2, .ref (v.1 0)), (3, .int x3), (5, .int x5), (11, .int x11), (12, .int x12), (13, .int x13), (14, .int x14), (15, .int x15), (16, .int x16), (18, .int x18)]) hx hb dL_law_529 hl (by decide) rfl (fun ls hl => ?_)
    refine lv_iinc (v := (x18 + 1)) (lv' := [(18, .int (x18 + 1)), (4, .int k0), (0, .ref b), (1, .ref (u.1 0)), (2, .ref (v.1 0)), (3, .int x3), (5, .int x5), (11, .int x11), (12, .int x12), (13, .int x13), (14, .int x14), (15, .int x15), (16, .int x16)]) hx hb dL_law_531 hl (k := 12) rfl rfl (by decide) rfl (fun ls hl => ?_)
    refine lv_goto (tgt := 457) hx hb dL_law_534 (by decide) ?_
    exact i457 kc _ _ _ d z x3 k0 x5 x11 x12 x13 x14 x15 x16 (x18 + 1) (by omega) hq hP hD hS (lv_sub hl [2, 3, 4, 5, 1, 6, 7, 8, 9, 10, 11, 12, 0] rfl)
  have b_524 : ∀ (q34 : kDk → kDk → Int32 → Int32 → Int32 → Option (Int32 × kDk × kDk)) (c34 : Nat), 0 ≤ c34 → (∀ (kc : Nat) (H : Heap) (locs : List Loc) (ls : Array Slot) (d : kDk) (z : kDk) (x3 : Int32) (x4 : Int32) (x5 : Int32), kc + c34 ≤ 40000 → q34 d z x3 x4 x5 = some o → va_P D vwCl (dkW cI u d ++ dkW cI v z) H → va_D A (dkW cI u d ++ dkW cI v z) → va_S A s.heap H locs → lv_has ls 20 [(0, .ref b), (1, .ref (u.1 0)), (2, .ref (v.1 0)), (3, .int x3), (4, .int x4), (5, .int x5)] → W p l e room_1 s m args below meth c H locs kc (6 * kc) Q (F0 m 34 ls [])) → ∀ (q457 : kDk → kDk → Int32 → Int32 → Int32 → Int32 → Int32 → Int32 → Int32 → Int32 → Int32 → Int32 → Option (Int32 × kDk × kDk)) (c457 : Nat), 6 + c34 ≤ c457 → (∀ (kc : Nat) (H : Heap) (locs : List Loc) (ls : Array Slot) (d : kDk) (z : kDk) (x3 : Int32) (x4 : Int32) (x5 : Int32) (x11 : Int32) (x12 : Int32) (x13 : Int32) (x14 : Int32) (x15 : Int32) (x16 : Int32) (x18 : Int32), kc + c457 ≤ 40000 → q457 d z x3 x4 x5 x11 x12 x13 x14 x15 x16 x18 = some o → va_P D vwCl (dkW cI u d ++ dkW cI v z) H → va_D A (dkW cI u d ++ dkW cI v z) → va_S A s.heap H locs → lv_has ls 20 [(0, .ref b), (1, .ref (u.1 0)), (2, .ref (v.1 0)), (3, .int x3), (4, .int x4), (5, .int x5), (11, .int x11), (12, .int x12), (13, .int x13), (14, .int x14), (15, .int x15), (16, .int x16), (18, .int x18)] → W p l e room_1 s m args below meth c H locs kc (6 * kc) Q (F0 m 457 ls [])) → ∀ (kc : Nat) (H : Heap) (locs : List Loc) (ls : Array Slot) (d : kDk) (z : kDk) (x3 : Int32) (x5 : Int32) (x11 : Int32) (x12 : Int32) (x13 : Int32) (x14 : Int32) (x15 : Int32) (x16 : Int32) (x18 : Int32), kc + (0 + c457) ≤ 40000 → fn_L_law_524 L xs q34 q457 d z x3 x5 x11 x12 x13 x14 x15 x16 x18 = some o → va_P D vwCl (dkW cI u d ++ dkW cI v z) H → va_D A (dkW cI u d ++ dkW cI v z) → va_S A s.heap H locs → lv_has ls 20 [(0, .ref b), (1, .ref (u.1 0)), (2, .ref (v.1 0)), (3, .int x3), (5, .int x5), (11, .int x11), (12, .int x12), (13, .int x13), (14, .int x14), (15, .int x15), (16, .int x16), (18, .int x18)] → W p l e room_1 s m args below meth c H locs kc (6 * kc) Q (F0 m 524 ls []) := by
    intro q34 c34 hc34 i34 q457 c457 hc457 i457
    intro kc H locs ls d z x3 x5 x11 x12 x13 x14 x15 x16 x18
    intro hkc hq hP hD hS hl
    refine lv_iconst (v := 1) hx hb dL_law_524 (by decide) ?_
    refine lv_goto (tgt := 529) hx hb dL_law_525 (by decide) ?_
    exact b_529 q34 c34 hc34 i34 q457 c457 hc457 i457 kc _ _ _ d z x3 x5 x11 x12 x13 x14 x15 x16 x18 (1 : Int32) (by omega) hq hP hD hS (lv_sub hl [0, 1, 2, 3, 4, 5, 6, 7, 8, 9, 10, 11] rfl)
  have b_494 : ∀ (q34 : kDk → kDk → Int32 → Int32 → Int32 → Option (Int32 × kDk × kDk)) (c34 : Nat), 0 ≤ c34 → (∀ (kc : Nat) (H : Heap) (locs : List Loc) (ls : Array Slot) (d : kDk) (z : kDk) (x3 : Int32) (x4 : Int32) (x5 : Int32), kc + c34 ≤ 40000 → q34 d z x3 x4 x5 = some o → va_P D vwCl (dkW cI u d ++ dkW cI v z) H → va_D A (dkW cI u d ++ dkW cI v z) → va_S A s.heap H locs → lv_has ls 20 [(0, .ref b), (1, .ref (u.1 0)), (2, .ref (v.1 0)), (3, .int x3), (4, .int x4), (5, .int x5)] → W p l e room_1 s m args below meth c H locs kc (6 * kc) Q (F0 m 34 ls [])) → ∀ (q457 : kDk → kDk → Int32 → Int32 → Int32 → Int32 → Int32 → Int32 → Int32 → Int32 → Int32 → Int32 → Option (Int32 × kDk × kDk)) (c457 : Nat), 6 + c34 ≤ c457 → (∀ (kc : Nat) (H : Heap) (locs : List Loc) (ls : Array Slot) (d : kDk) (z : kDk) (x3 : Int32) (x4 : Int32) (x5 : Int32) (x11 : Int32) (x12 : Int32) (x13 : Int32) (x14 : Int32) (x15 : Int32) (x16 : Int32) (x18 : Int32), kc + c457 ≤ 40000 → q457 d z x3 x4 x5 x11 x12 x13 x14 x15 x16 x18 = some o → va_P D vwCl (dkW cI u d ++ dkW cI v z) H → va_D A (dkW cI u d ++ dkW cI v z) → va_S A s.heap H locs → lv_has ls 20 [(0, .ref b), (1, .ref (u.1 0)), (2, .ref (v.1 0)), (3, .int x3), (4, .int x4), (5, .int x5), (11, .int x11), (12, .int x12), (13, .int x13), (14, .int x14), (15, .int x15), (16, .int x16), (18, .int x18)] → W p l e room_1 s m args below meth c H locs kc (6 * kc) Q (F0 m 457 ls [])) → ∀ (kc : Nat) (H : Heap) (locs : List Loc) (ls : Array Slot) (d : kDk) (z : kDk) (x3 : Int32) (x5 : Int32) (x11 : Int32) (x12 : Int32) (x13 : Int32) (x14 : Int32) (x15 : Int32) (x16 : Int32) (x18 : Int32) (k0 : Int32), kc + (1 + c457) ≤ 40000 → fn_L_law_494 L xs q34 q457 d z x3 x5 x11 x12 x13 x14 x15 x16 x18 k0 = some o → va_P D vwCl (dkW cI u d ++ dkW cI v z) H → va_D A (dkW cI u d ++ dkW cI v z) → va_S A s.heap H locs → lv_has ls 20 [(0, .ref b), (1, .ref (u.1 0)), (2, .ref (v.1 0)), (3, .int x3), (5, .int x5), (11, .int x11), (12, .int x12), (13, .int x13), (14, .int x14), (15, .int x15), (16, .int x16), (18, .int x18)] → W p l e room_1 s m args below meth c H locs kc (6 * kc) Q (F0 m 494 ls [.int k0]) := by
    intro q34 c34 hc34 i34 q457 c457 hc457 i457
    intro kc H locs ls d z x3 x5 x11 x12 x13 x14 x15 x16 x18 k0
    intro hkc hq hP hD hS hl
    refine lv_istore (lv' := [(19, .int k0), (0, .ref b), (1, .ref (u.1 0)), (2, .ref (v.1 0)), (3, .int x3), (5, .int x5), (11, .int x11), (12, .int x12), (13, .int x13), (14, .int x14), (15, .int x15), (16, .int x16), (18, .int x18)]) hx hb dL_law_494 hl (by decide) rfl (fun ls hl => ?_)
    refine lv_iload hx hb dL_law_496 (lv_at hl 0 rfl) ?_
    refine lv_if_eq (tgt := 524) hx hb dL_law_498 (by decide) (fun c9 => ?_) (fun c9 => ?_)
    · have hq := kite_t c9 hq
      exact b_524 q34 c34 hc34 i34 q457 c457 hc457 i457 kc _ _ _ d z x3 x5 x11 x12 x13 x14 x15 x16 x18 (by omega) hq hP hD hS (lv_sub hl [1, 2, 3, 4, 5, 6, 7, 8, 9, 10, 11, 12] rfl)
    · have hq := kite_f c9 hq
      refine lv_iload hx hb dL_law_501 (lv_at hl 6 rfl) ?_
      refine lv_iload hx hb dL_law_503 (lv_at hl 12 rfl) ?_
      refine lv_ishr hx hb dL_law_505 ?_
      refine lv_iconst (v := 1) hx hb dL_law_506 (by decide) ?_
      refine lv_iand hx hb dL_law_507 ?_
      refine lv_if_eq (tgt := 524) hx hb dL_law_508 (by decide) (fun c9 => ?_) (fun c9 => ?_)
      · have hq := kite_t c9 hq
        exact b_524 q34 c34 hc34 i34 q457 c457 hc457 i457 kc _ _ _ d z x3 x5 x11 x12 x13 x14 x15 x16 x18 (by omega) hq hP hD hS (lv_sub hl [1, 2, 3, 4, 5, 6, 7, 8, 9, 10, 11, 12] rfl)
      · have hq := kite_f c9 hq
        refine lv_aload_n hx hb dL_law_511 rfl (lv_at hl 2 rfl) ?_
        refine lv_iconst (v := 3) hx hb dL_law_512 (by decide) ?_
        refine lv_iload hx hb dL_law_513 (lv_at hl 12 rfl) ?_
        refine lv_iconst (v := 0) hx hb dL_law_515 (by decide) ?_
        refine lv_iconst (v := 0) hx hb dL_law_516 (by decide) ?_
        obtain ⟨o517, ho517, hq⟩ := kbind hq
        refine kh_Si (k := kc) (nc := 1) (av := [.ref (u.1 0), .int (3 : Int32), .int x18, .int (0 : Int32), .int (0 : Int32)]) (rest := []) (ws' := (dkW cI u o517.2 ++ dkW cI v z)) hF hK hG hA (mk_L_call l hst D cI u H.size d (3 : Int32) x18 (0 : Int32) (0 : Int32) o517 ho517) (va_cwS 5 hts gL_law_L_call rfl rfl rfl (by decide +kernel) ⟨Nat.le_of_ble_eq_true rfl, Nat.le_of_ble_eq_true rfl⟩) hP hD hS (kSub_l dkW_fst) rfl hl.1 rfl (Nat.le_of_ble_eq_true rfl) ⟨by show kc + 1 ≤ 660915; omega, by show 6 * kc + 6 * 1 ≤ 7118878; omega⟩ dL_law_517 (fun H locs hP hD hS => ?_)
        refine lv_iconst (v := 4) hx hb dL_law_520 (by decide) ?_
        refine lv_icmp_ne (tgt := 528) hx hb dL_law_521 (by decide) (fun c9 => ?_) (fun c9 => ?_)
        · have hq := kite_f c9 hq
          refine lv_iconst (v := 0) hx hb dL_law_528 (by decide) ?_
          exact b_529 q34 c34 hc34 i34 q457 c457 hc457 i457 (kc + 1) _ _ _ o517.2 z x3 x5 x11 x12 x13 x14 x15 x16 x18 (0 : Int32) (by omega) hq hP hD hS (lv_sub hl [1, 2, 3, 4, 5, 6, 7, 8, 9, 10, 11, 12] rfl)
        · have hq := kite_t c9 hq
          exact b_524 q34 c34 hc34 i34 q457 c457 hc457 i457 (kc + 1) _ _ _ o517.2 z x3 x5 x11 x12 x13 x14 x15 x16 x18 (by omega) hq hP hD hS (lv_sub hl [1, 2, 3, 4, 5, 6, 7, 8, 9, 10, 11, 12] rfl)
  have b_493 : ∀ (q34 : kDk → kDk → Int32 → Int32 → Int32 → Option (Int32 × kDk × kDk)) (c34 : Nat), 0 ≤ c34 → (∀ (kc : Nat) (H : Heap) (locs : List Loc) (ls : Array Slot) (d : kDk) (z : kDk) (x3 : Int32) (x4 : Int32) (x5 : Int32), kc + c34 ≤ 40000 → q34 d z x3 x4 x5 = some o → va_P D vwCl (dkW cI u d ++ dkW cI v z) H → va_D A (dkW cI u d ++ dkW cI v z) → va_S A s.heap H locs → lv_has ls 20 [(0, .ref b), (1, .ref (u.1 0)), (2, .ref (v.1 0)), (3, .int x3), (4, .int x4), (5, .int x5)] → W p l e room_1 s m args below meth c H locs kc (6 * kc) Q (F0 m 34 ls [])) → ∀ (q457 : kDk → kDk → Int32 → Int32 → Int32 → Int32 → Int32 → Int32 → Int32 → Int32 → Int32 → Int32 → Option (Int32 × kDk × kDk)) (c457 : Nat), 6 + c34 ≤ c457 → (∀ (kc : Nat) (H : Heap) (locs : List Loc) (ls : Array Slot) (d : kDk) (z : kDk) (x3 : Int32) (x4 : Int32) (x5 : Int32) (x11 : Int32) (x12 : Int32) (x13 : Int32) (x14 : Int32) (x15 : Int32) (x16 : Int32) (x18 : Int32), kc + c457 ≤ 40000 → q457 d z x3 x4 x5 x11 x12 x13 x14 x15 x16 x18 = some o → va_P D vwCl (dkW cI u d ++ dkW cI v z) H → va_D A (dkW cI u d ++ dkW cI v z) → va_S A s.heap H locs → lv_has ls 20 [(0, .ref b), (1, .ref (u.1 0)), (2, .ref (v.1 0)), (3, .int x3), (4, .int x4), (5, .int x5), (11, .int x11), (12, .int x12), (13, .int x13), (14, .int x14), (15, .int x15), (16, .int x16), (18, .int x18)] → W p l e room_1 s m args below meth c H locs kc (6 * kc) Q (F0 m 457 ls [])) → ∀ (kc : Nat) (H : Heap) (locs : List Loc) (ls : Array Slot) (d : kDk) (z : kDk) (x3 : Int32) (x5 : Int32) (x11 : Int32) (x12 : Int32) (x13 : Int32) (x14 : Int32) (x15 : Int32) (x16 : Int32) (x18 : Int32), kc + (1 + c457) ≤ 40000 → fn_L_law_493 L xs q34 q457 d z x3 x5 x11 x12 x13 x14 x15 x16 x18 = some o → va_P D vwCl (dkW cI u d ++ dkW cI v z) H → va_D A (dkW cI u d ++ dkW cI v z) → va_S A s.heap H locs → lv_has ls 20 [(0, .ref b), (1, .ref (u.1 0)), (2, .ref (v.1 0)), (3, .int x3), (5, .int x5), (11, .int x11), (12, .int x12), (13, .int x13), (14, .int x14), (15, .int x15), (16, .int x16), (18, .int x18)] → W p l e room_1 s m args below meth c H locs kc (6 * kc) Q (F0 m 493 ls []) := by
    intro q34 c34 hc34 i34 q457 c457 hc457 i457
    intro kc H locs ls d z x3 x5 x11 x12 x13 x14 x15 x16 x18
    intro hkc hq hP hD hS hl
    refine lv_iconst (v := 0) hx hb dL_law_493 (by decide) ?_
    exact b_494 q34 c34 hc34 i34 q457 c457 hc457 i457 kc _ _ _ d z x3 x5 x11 x12 x13 x14 x15 x16 x18 (0 : Int32) (by omega) hq hP hD hS (lv_sub hl [0, 1, 2, 3, 4, 5, 6, 7, 8, 9, 10, 11] rfl)
  have b_457 : ∀ (q34 : kDk → kDk → Int32 → Int32 → Int32 → Option (Int32 × kDk × kDk)) (c34 : Nat), 0 ≤ c34 → (∀ (kc : Nat) (H : Heap) (locs : List Loc) (ls : Array Slot) (d : kDk) (z : kDk) (x3 : Int32) (x4 : Int32) (x5 : Int32), kc + c34 ≤ 40000 → q34 d z x3 x4 x5 = some o → va_P D vwCl (dkW cI u d ++ dkW cI v z) H → va_D A (dkW cI u d ++ dkW cI v z) → va_S A s.heap H locs → lv_has ls 20 [(0, .ref b), (1, .ref (u.1 0)), (2, .ref (v.1 0)), (3, .int x3), (4, .int x4), (5, .int x5)] → W p l e room_1 s m args below meth c H locs kc (6 * kc) Q (F0 m 34 ls [])) → ∀ (q : Nat), ∀ (kc : Nat) (H : Heap) (locs : List Loc) (ls : Array Slot) (d : kDk) (z : kDk) (x3 : Int32) (x4 : Int32) (x5 : Int32) (x11 : Int32) (x12 : Int32) (x13 : Int32) (x14 : Int32) (x15 : Int32) (x16 : Int32) (x18 : Int32), kc + (q * 2 + 6 + c34) ≤ 40000 → fn_L_law_457 L xs q34 q d z x3 x4 x5 x11 x12 x13 x14 x15 x16 x18 = some o → va_P D vwCl (dkW cI u d ++ dkW cI v z) H → va_D A (dkW cI u d ++ dkW cI v z) → va_S A s.heap H locs → lv_has ls 20 [(0, .ref b), (1, .ref (u.1 0)), (2, .ref (v.1 0)), (3, .int x3), (4, .int x4), (5, .int x5), (11, .int x11), (12, .int x12), (13, .int x13), (14, .int x14), (15, .int x15), (16, .int x16), (18, .int x18)] → W p l e room_1 s m args below meth c H locs kc (6 * kc) Q (F0 m 457 ls []) := by
    intro q34 c34 hc34 i34
    intro q
    induction q with
    | zero =>
      intro kc H locs ls d z x3 x4 x5 x11 x12 x13 x14 x15 x16 x18
      intro _ hq
      cases hq
    | succ q ih =>
      intro kc H locs ls d z x3 x4 x5 x11 x12 x13 x14 x15 x16 x18
      intro hkc hq hP hD hS hl
      refine lv_iload hx hb dL_law_457 (lv_at hl 12 rfl) ?_
      refine lv_bipush (v := 10) hx hb dL_law_459 (by decide) ?_
      refine lv_icmp_ge (tgt := 537) hx hb dL_law_461 (by decide) (fun c9 => ?_) (fun c9 => ?_)
      · have hq := kite_t c9 hq
        exact b_537 q34 c34 hc34 i34 kc _ _ _ d z x3 x4 x5 x12 x13 x14 x15 (by omega) hq hP hD hS (lv_sub hl [0, 1, 2, 3, 4, 5, 7, 8, 9, 10] rfl)
      · have hq := kite_f c9 hq
        refine lv_iload hx hb dL_law_464 (lv_at hl 4 rfl) ?_
        refine lv_if_eq (tgt := 537) hx hb dL_law_466 (by decide) (fun c9 => ?_) (fun c9 => ?_)
        · have hq := kite_t c9 hq
          exact b_537 q34 c34 hc34 i34 kc _ _ _ d z x3 x4 x5 x12 x13 x14 x15 (by omega) hq hP hD hS (lv_sub hl [0, 1, 2, 3, 4, 5, 7, 8, 9, 10] rfl)
        · have hq := kite_f c9 hq
          refine lv_aload_n hx hb dL_law_469 rfl (lv_at hl 1 rfl) ?_
          refine lv_iconst (v := 2) hx hb dL_law_470 (by decide) ?_
          refine lv_iconst (v := 0) hx hb dL_law_471 (by decide) ?_
          refine lv_iconst (v := 0) hx hb dL_law_472 (by decide) ?_
          refine lv_iconst (v := 0) hx hb dL_law_473 (by decide) ?_
          obtain ⟨o474, ho474, hq⟩ := kbind hq
          refine kh_Si (k := kc) (nc := 1) (av := [.ref (u.1 0), .int (2 : Int32), .int (0 : Int32), .int (0 : Int32), .int (0 : Int32)]) (rest := []) (ws' := (dkW cI u o474.2 ++ dkW cI v z)) hF hK hG hA (mk_L_call l hst D cI u H.size d (2 : Int32) (0 : Int32) (0 : Int32) (0 : Int32) o474 ho474) (va_cwS 5 hts gL_law_L_call rfl rfl rfl (by decide +kernel) ⟨Nat.le_of_ble_eq_true rfl, Nat.le_of_ble_eq_true rfl⟩) hP hD hS (kSub_l dkW_fst) rfl hl.1 rfl (Nat.le_of_ble_eq_true rfl) ⟨by show kc + 1 ≤ 660915; omega, by show 6 * kc + 6 * 1 ≤ 7118878; omega⟩ dL_law_474 (fun H locs hP hD hS => ?_)
          refine lv_iload hx hb dL_law_477 (lv_at hl 11 rfl) ?_
          refine lv_icmp_ne (tgt := 493) hx hb dL_law_479 (by decide) (fun c9 => ?_) (fun c9 => ?_)
          · have hq := kite_f c9 hq
            exact b_493 q34 c34 hc34 i34 (fn_L_law_457 L xs q34 q) (q * 2 + 6 + c34) (by omega) ih (kc + 1) _ _ _ o474.2 z x3 x5 x11 x12 x13 x14 x15 x16 x18 (by omega) hq hP hD hS (lv_sub hl [0, 1, 2, 3, 5, 6, 7, 8, 9, 10, 11, 12] rfl)
          · have hq := kite_t c9 hq
            refine lv_iload hx hb dL_law_482 (lv_at hl 11 rfl) ?_
            refine lv_bipush (v := 9) hx hb dL_law_484 (by decide) ?_
            refine lv_icmp_ge (tgt := 493) hx hb dL_law_486 (by decide) (fun c9 => ?_) (fun c9 => ?_)
            · have hq := kite_t c9 hq
              exact b_493 q34 c34 hc34 i34 (fn_L_law_457 L xs q34 q) (q * 2 + 6 + c34) (by omega) ih (kc + 1) _ _ _ o474.2 z x3 x5 x11 x12 x13 x14 x15 x16 x18 (by omega) hq hP hD hS (lv_sub hl [0, 1, 2, 3, 5, 6, 7, 8, 9, 10, 11, 12] rfl)
            · have hq := kite_f c9 hq
              refine lv_iconst (v := 1) hx hb dL_law_489 (by decide) ?_
              refine lv_goto (tgt := 494) hx hb dL_law_490 (by decide) ?_
              exact b_494 q34 c34 hc34 i34 (fn_L_law_457 L xs q34 q) (q * 2 + 6 + c34) (by omega) ih (kc + 1) _ _ _ o474.2 z x3 x5 x11 x12 x13 x14 x15 x16 x18 (1 : Int32) (by omega) hq hP hD hS (lv_sub hl [0, 1, 2, 3, 5, 6, 7, 8, 9, 10, 11, 12] rfl)
  have b_452 : ∀ (q34 : kDk → kDk → Int32 → Int32 → Int32 → Option (Int32 × kDk × kDk)) (c34 : Nat), 0 ≤ c34 → (∀ (kc : Nat) (H : Heap) (locs : List Loc) (ls : Array Slot) (d : kDk) (z : kDk) (x3 : Int32) (x4 : Int32) (x5 : Int32), kc + c34 ≤ 40000 → q34 d z x3 x4 x5 = some o → va_P D vwCl (dkW cI u d ++ dkW cI v z) H → va_D A (dkW cI u d ++ dkW cI v z) → va_S A s.heap H locs → lv_has ls 20 [(0, .ref b), (1, .ref (u.1 0)), (2, .ref (v.1 0)), (3, .int x3), (4, .int x4), (5, .int x5)] → W p l e room_1 s m args below meth c H locs kc (6 * kc) Q (F0 m 34 ls [])) → ∀ (kc : Nat) (H : Heap) (locs : List Loc) (ls : Array Slot) (d : kDk) (z : kDk) (x3 : Int32) (x5 : Int32) (x11 : Int32) (x12 : Int32) (x13 : Int32) (x14 : Int32) (x15 : Int32) (x16 : Int32) (k0 : Int32), kc + (30 + c34) ≤ 40000 → fn_L_law_452 L xs q34 d z x3 x5 x11 x12 x13 x14 x15 x16 k0 = some o → va_P D vwCl (dkW cI u d ++ dkW cI v z) H → va_D A (dkW cI u d ++ dkW cI v z) → va_S A s.heap H locs → lv_has ls 20 [(0, .ref b), (1, .ref (u.1 0)), (2, .ref (v.1 0)), (3, .int x3), (5, .int x5), (11, .int x11), (12, .int x12), (13, .int x13), (14, .int x14), (15, .int x15), (16, .int x16)] → W p l e room_1 s m args below meth c H locs kc (6 * kc) Q (F0 m 452 ls [.int k0]) := by
    intro q34 c34 hc34 i34
    intro kc H locs ls d z x3 x5 x11 x12 x13 x14 x15 x16 k0
    intro hkc hq hP hD hS hl
    refine lv_istore (lv' := [(4, .int k0), (0, .ref b), (1, .ref (u.1 0)), (2, .ref (v.1 0)), (3, .int x3), (5, .int x5), (11, .int x11), (12, .int x12), (13, .int x13), (14, .int x14), (15, .int x15), (16, .int x16)]) hx hb dL_law_452 hl (by decide) rfl (fun ls hl => ?_)
    refine lv_iconst (v := 0) hx hb dL_law_454 (by decide) ?_
    refine lv_istore (lv' := [(18, .int (0 : Int32)), (4, .int k0), (0, .ref b), (1, .ref (u.1 0)), (2, .ref (v.1 0)), (3, .int x3), (5, .int x5), (11, .int x11), (12, .int x12), (13, .int x13), (14, .int x14), (15, .int x15), (16, .int x16)]) hx hb dL_law_455 hl (by decide) rfl (fun ls hl => ?_)
    exact b_457 q34 c34 hc34 i34 12 kc _ _ _ d z x3 k0 x5 x11 x12 x13 x14 x15 x16 (0 : Int32) (by omega) hq hP hD hS (lv_sub hl [2, 3, 4, 5, 1, 6, 7, 8, 9, 10, 11, 12, 0] rfl)
  have b_451 : ∀ (q34 : kDk → kDk → Int32 → Int32 → Int32 → Option (Int32 × kDk × kDk)) (c34 : Nat), 0 ≤ c34 → (∀ (kc : Nat) (H : Heap) (locs : List Loc) (ls : Array Slot) (d : kDk) (z : kDk) (x3 : Int32) (x4 : Int32) (x5 : Int32), kc + c34 ≤ 40000 → q34 d z x3 x4 x5 = some o → va_P D vwCl (dkW cI u d ++ dkW cI v z) H → va_D A (dkW cI u d ++ dkW cI v z) → va_S A s.heap H locs → lv_has ls 20 [(0, .ref b), (1, .ref (u.1 0)), (2, .ref (v.1 0)), (3, .int x3), (4, .int x4), (5, .int x5)] → W p l e room_1 s m args below meth c H locs kc (6 * kc) Q (F0 m 34 ls [])) → ∀ (kc : Nat) (H : Heap) (locs : List Loc) (ls : Array Slot) (d : kDk) (z : kDk) (x3 : Int32) (x5 : Int32) (x11 : Int32) (x12 : Int32) (x13 : Int32) (x14 : Int32) (x15 : Int32) (x16 : Int32), kc + (30 + c34) ≤ 40000 → fn_L_law_451 L xs q34 d z x3 x5 x11 x12 x13 x14 x15 x16 = some o → va_P D vwCl (dkW cI u d ++ dkW cI v z) H → va_D A (dkW cI u d ++ dkW cI v z) → va_S A s.heap H locs → lv_has ls 20 [(0, .ref b), (1, .ref (u.1 0)), (2, .ref (v.1 0)), (3, .int x3), (5, .int x5), (11, .int x11), (12, .int x12), (13, .int x13), (14, .int x14), (15, .int x15), (16, .int x16)] → W p l e room_1 s m args below meth c H locs kc (6 * kc) Q (F0 m 451 ls []) := by
    intro q34 c34 hc34 i34
    intro kc H locs ls d z x3 x5 x11 x12 x13 x14 x15 x16
    intro hkc hq hP hD hS hl
    refine lv_iconst (v := 0) hx hb dL_law_451 (by decide) ?_
    exact b_452 q34 c34 hc34 i34 kc _ _ _ d z x3 x5 x11 x12 x13 x14 x15 x16 (0 : Int32) (by omega) hq hP hD hS (lv_sub hl [0, 1, 2, 3, 4, 5, 6, 7, 8, 9, 10] rfl)
  have b_370 : ∀ (q34 : kDk → kDk → Int32 → Int32 → Int32 → Option (Int32 × kDk × kDk)) (c34 : Nat), 0 ≤ c34 → (∀ (kc : Nat) (H : Heap) (locs : List Loc) (ls : Array Slot) (d : kDk) (z : kDk) (x3 : Int32) (x4 : Int32) (x5 : Int32), kc + c34 ≤ 40000 → q34 d z x3 x4 x5 = some o → va_P D vwCl (dkW cI u d ++ dkW cI v z) H → va_D A (dkW cI u d ++ dkW cI v z) → va_S A s.heap H locs → lv_has ls 20 [(0, .ref b), (1, .ref (u.1 0)), (2, .ref (v.1 0)), (3, .int x3), (4, .int x4), (5, .int x5)] → W p l e room_1 s m args below meth c H locs kc (6 * kc) Q (F0 m 34 ls [])) → ∀ (kc : Nat) (H : Heap) (locs : List Loc) (ls : Array Slot) (d : kDk) (z : kDk) (x3 : Int32) (x5 : Int32) (x8 : Int32) (x9 : Int32) (x10 : Int32) (x11 : Int32) (x12 : Int32) (x13 : Int32) (x14 : Int32) (x15 : Int32) (x16 : Int32) (x17 : Int32), kc + (35 + c34) ≤ 40000 → fn_L_law_370 L xs q34 d z x3 x5 x8 x9 x10 x11 x12 x13 x14 x15 x16 x17 = some o → va_P D vwCl (dkW cI u d ++ dkW cI v z) H → va_D A (dkW cI u d ++ dkW cI v z) → va_S A s.heap H locs → lv_has ls 20 [(0, .ref b), (1, .ref (u.1 0)), (2, .ref (v.1 0)), (3, .int x3), (5, .int x5), (8, .int x8), (9, .int x9), (10, .int x10), (11, .int x11), (12, .int x12), (13, .int x13), (14, .int x14), (15, .int x15), (16, .int x16), (17, .int x17)] → W p l e room_1 s m args below meth c H locs kc (6 * kc) Q (F0 m 370 ls []) := by
    intro q34 c34 hc34 i34
    intro kc H locs ls d z x3 x5 x8 x9 x10 x11 x12 x13 x14 x15 x16 x17
    intro hkc hq hP hD hS hl
    refine lv_aload_n hx hb dL_law_370 rfl (lv_at hl 1 rfl) ?_
    refine lv_iload hx hb dL_law_371 (lv_at hl 6 rfl) ?_
    refine lv_iload hx hb dL_law_373 (lv_at hl 5 rfl) ?_
    refine lv_iload hx hb dL_law_375 (lv_at hl 14 rfl) ?_
    refine lv_iconst (v := 0) hx hb dL_law_377 (by decide) ?_
    obtain ⟨o378, ho378, hq⟩ := kbind hq
    refine kh_Wi (k := kc) (nc := 1) (av := [.ref (u.1 0), .int x9, .int x8, .int x17, .int (0 : Int32)]) (rest := []) (ws' := (dkW cI u o378.2 ++ dkW cI v z)) hF hK hG hA (bm_rolls l hst D cI u H.size d x9 x8 x17 (0 : Int32) o378 ho378) (vx_cwSW 5 hts gL_law_L_rolls rfl rfl rfl (by decide +kernel) ⟨Nat.le_of_ble_eq_true rfl, Nat.le_of_ble_eq_true rfl⟩) hP hD hS (kSub_l dkW_fst) rfl hl.1 rfl (Nat.le_of_ble_eq_true rfl) ⟨by show kc + 1 ≤ 660915; omega, by show 6 * kc + 6 * 1 ≤ 7118878; omega⟩ dL_law_378 (fun H locs hP hD hS => ?_)
    refine lv_iload hx hb dL_law_381 (lv_at hl 7 rfl) ?_
    refine lv_icmp_ne (tgt := 451) hx hb dL_law_383 (by decide) (fun c9 => ?_) (fun c9 => ?_)
    · have hq := kite_f c9 hq
      exact b_451 q34 c34 hc34 i34 (kc + 1) _ _ _ o378.2 z x3 x5 x11 x12 x13 x14 x15 x16 (by omega) hq hP hD hS (lv_sub hl [0, 1, 2, 3, 4, 8, 9, 10, 11, 12, 13] rfl)
    · have hq := kite_t c9 hq
      refine lv_aload_n hx hb dL_law_386 rfl (lv_at hl 2 rfl) ?_
      refine lv_iload hx hb dL_law_387 (lv_at hl 6 rfl) ?_
      refine lv_iload hx hb dL_law_389 (lv_at hl 5 rfl) ?_
      refine lv_iload hx hb dL_law_391 (lv_at hl 14 rfl) ?_
      refine lv_iconst (v := 0) hx hb dL_law_393 (by decide) ?_
      obtain ⟨o394, ho394, hq⟩ := kbind hq
      refine kh_Wi (k := (kc + 1)) (nc := 1) (av := [.ref (v.1 0), .int x9, .int x8, .int x17, .int (0 : Int32)]) (rest := []) (ws' := (dkW cI u o378.2 ++ dkW cI v o394.2)) hF hK hG hA (bm_rolls l hst D cI v H.size z x9 x8 x17 (0 : Int32) o394 ho394) (vx_cwSW 5 hts gL_law_L_rolls rfl rfl rfl (by decide +kernel) ⟨Nat.le_of_ble_eq_true rfl, Nat.le_of_ble_eq_true rfl⟩) hP hD hS (kSub_r dkW_fst) rfl hl.1 rfl (Nat.le_of_ble_eq_true rfl) ⟨by show (kc + 1) + 1 ≤ 660915; omega, by show 6 * (kc + 1) + 6 * 1 ≤ 7118878; omega⟩ dL_law_394 (fun H locs hP hD hS => ?_)
      refine lv_iload hx hb dL_law_397 (lv_at hl 7 rfl) ?_
      refine lv_icmp_ne (tgt := 451) hx hb dL_law_399 (by decide) (fun c9 => ?_) (fun c9 => ?_)
      · have hq := kite_f c9 hq
        exact b_451 q34 c34 hc34 i34 (kc + 1 + 1) _ _ _ o378.2 o394.2 x3 x5 x11 x12 x13 x14 x15 x16 (by omega) hq hP hD hS (lv_sub hl [0, 1, 2, 3, 4, 8, 9, 10, 11, 12, 13] rfl)
      · have hq := kite_t c9 hq
        refine lv_aload_n hx hb dL_law_402 rfl (lv_at hl 1 rfl) ?_
        refine lv_iconst (v := 5) hx hb dL_law_403 (by decide) ?_
        refine lv_iload hx hb dL_law_404 (lv_at hl 10 rfl) ?_
        refine lv_iconst (v := 0) hx hb dL_law_406 (by decide) ?_
        refine lv_iconst (v := 0) hx hb dL_law_407 (by decide) ?_
        obtain ⟨o408, ho408, hq⟩ := kbind hq
        refine kh_Si (k := (kc + 1 + 1)) (nc := 1) (av := [.ref (u.1 0), .int (5 : Int32), .int x13, .int (0 : Int32), .int (0 : Int32)]) (rest := []) (ws' := (dkW cI u o408.2 ++ dkW cI v o394.2)) hF hK hG hA (mk_L_call l hst D cI u H.size o378.2 (5 : Int32) x13 (0 : Int32) (0 : Int32) o408 ho408) (va_cwS 5 hts gL_law_L_call rfl rfl rfl (by decide +kernel) ⟨Nat.le_of_ble_eq_true rfl, Nat.le_of_ble_eq_true rfl⟩) hP hD hS (kSub_l dkW_fst) rfl hl.1 rfl (Nat.le_of_ble_eq_true rfl) ⟨by show (kc + 1 + 1) + 1 ≤ 660915; omega, by show 6 * (kc + 1 + 1) + 6 * 1 ≤ 7118878; omega⟩ dL_law_408 (fun H locs hP hD hS => ?_)
        refine lv_iload hx hb dL_law_411 (lv_at hl 7 rfl) ?_
        refine lv_icmp_ne (tgt := 451) hx hb dL_law_413 (by decide) (fun c9 => ?_) (fun c9 => ?_)
        · have hq := kite_f c9 hq
          exact b_451 q34 c34 hc34 i34 (kc + 1 + 1 + 1) _ _ _ o408.2 o394.2 x3 x5 x11 x12 x13 x14 x15 x16 (by omega) hq hP hD hS (lv_sub hl [0, 1, 2, 3, 4, 8, 9, 10, 11, 12, 13] rfl)
        · have hq := kite_t c9 hq
          refine lv_aload_n hx hb dL_law_416 rfl (lv_at hl 1 rfl) ?_
          refine lv_iconst (v := 2) hx hb dL_law_417 (by decide) ?_
          refine lv_iconst (v := 2) hx hb dL_law_418 (by decide) ?_
          refine lv_iconst (v := 0) hx hb dL_law_419 (by decide) ?_
          refine lv_iconst (v := 0) hx hb dL_law_420 (by decide) ?_
          obtain ⟨o421, ho421, hq⟩ := kbind hq
          refine kh_Si (k := (kc + 1 + 1 + 1)) (nc := 1) (av := [.ref (u.1 0), .int (2 : Int32), .int (2 : Int32), .int (0 : Int32), .int (0 : Int32)]) (rest := []) (ws' := (dkW cI u o421.2 ++ dkW cI v o394.2)) hF hK hG hA (mk_L_call l hst D cI u H.size o408.2 (2 : Int32) (2 : Int32) (0 : Int32) (0 : Int32) o421 ho421) (va_cwS 5 hts gL_law_L_call rfl rfl rfl (by decide +kernel) ⟨Nat.le_of_ble_eq_true rfl, Nat.le_of_ble_eq_true rfl⟩) hP hD hS (kSub_l dkW_fst) rfl hl.1 rfl (Nat.le_of_ble_eq_true rfl) ⟨by show (kc + 1 + 1 + 1) + 1 ≤ 660915; omega, by show 6 * (kc + 1 + 1 + 1) + 6 * 1 ≤ 7118878; omega⟩ dL_law_421 (fun H locs hP hD hS => ?_)
          refine lv_iload hx hb dL_law_424 (lv_at hl 10 rfl) ?_
          refine lv_iconst (v := 1) hx hb dL_law_426 (by decide) ?_
          refine lv_iadd hx hb dL_law_427 ?_
          refine lv_icmp_ne (tgt := 451) hx hb dL_law_428 (by decide) (fun c9 => ?_) (fun c9 => ?_)
          · have hq := kite_f c9 hq
            exact b_451 q34 c34 hc34 i34 (kc + 1 + 1 + 1 + 1) _ _ _ o421.2 o394.2 x3 x5 x11 x12 x13 x14 x15 x16 (by omega) hq hP hD hS (lv_sub hl [0, 1, 2, 3, 4, 8, 9, 10, 11, 12, 13] rfl)
          · have hq := kite_t c9 hq
            refine lv_aload_n hx hb dL_law_431 rfl (lv_at hl 1 rfl) ?_
            refine lv_iconst (v := 2) hx hb dL_law_432 (by decide) ?_
            refine lv_iconst (v := 3) hx hb dL_law_433 (by decide) ?_
            refine lv_iconst (v := 0) hx hb dL_law_434 (by decide) ?_
            refine lv_iconst (v := 0) hx hb dL_law_435 (by decide) ?_
            obtain ⟨o436, ho436, hq⟩ := kbind hq
            refine kh_Si (k := (kc + 1 + 1 + 1 + 1)) (nc := 1) (av := [.ref (u.1 0), .int (2 : Int32), .int (3 : Int32), .int (0 : Int32), .int (0 : Int32)]) (rest := []) (ws' := (dkW cI u o436.2 ++ dkW cI v o394.2)) hF hK hG hA (mk_L_call l hst D cI u H.size o421.2 (2 : Int32) (3 : Int32) (0 : Int32) (0 : Int32) o436 ho436) (va_cwS 5 hts gL_law_L_call rfl rfl rfl (by decide +kernel) ⟨Nat.le_of_ble_eq_true rfl, Nat.le_of_ble_eq_true rfl⟩) hP hD hS (kSub_l dkW_fst) rfl hl.1 rfl (Nat.le_of_ble_eq_true rfl) ⟨by show (kc + 1 + 1 + 1 + 1) + 1 ≤ 660915; omega, by show 6 * (kc + 1 + 1 + 1 + 1) + 6 * 1 ≤ 7118878; omega⟩ dL_law_436 (fun H locs hP hD hS => ?_)
            refine lv_iload hx hb dL_law_439 (lv_at hl 12 rfl) ?_
            refine lv_iload hx hb dL_law_441 (lv_at hl 7 rfl) ?_
            refine lv_iadd hx hb dL_law_443 ?_
            refine lv_icmp_lt (tgt := 451) hx hb dL_law_444 (by decide) (fun c9 => ?_) (fun c9 => ?_)
            · have hq := kite_t c9 hq
              exact b_451 q34 c34 hc34 i34 (kc + 1 + 1 + 1 + 1 + 1) _ _ _ o436.2 o394.2 x3 x5 x11 x12 x13 x14 x15 x16 (by omega) hq hP hD hS (lv_sub hl [0, 1, 2, 3, 4, 8, 9, 10, 11, 12, 13] rfl)
            · have hq := kite_f c9 hq
              refine lv_iconst (v := 1) hx hb dL_law_447 (by decide) ?_
              refine lv_goto (tgt := 452) hx hb dL_law_448 (by decide) ?_
              exact b_452 q34 c34 hc34 i34 (kc + 1 + 1 + 1 + 1 + 1) _ _ _ o436.2 o394.2 x3 x5 x11 x12 x13 x14 x15 x16 (1 : Int32) (by omega) hq hP hD hS (lv_sub hl [0, 1, 2, 3, 4, 8, 9, 10, 11, 12, 13] rfl)
  have b_197 : ∀ (q34 : kDk → kDk → Int32 → Int32 → Int32 → Option (Int32 × kDk × kDk)) (c34 : Nat), 0 ≤ c34 → (∀ (kc : Nat) (H : Heap) (locs : List Loc) (ls : Array Slot) (d : kDk) (z : kDk) (x3 : Int32) (x4 : Int32) (x5 : Int32), kc + c34 ≤ 40000 → q34 d z x3 x4 x5 = some o → va_P D vwCl (dkW cI u d ++ dkW cI v z) H → va_D A (dkW cI u d ++ dkW cI v z) → va_S A s.heap H locs → lv_has ls 20 [(0, .ref b), (1, .ref (u.1 0)), (2, .ref (v.1 0)), (3, .int x3), (4, .int x4), (5, .int x5)] → W p l e room_1 s m args below meth c H locs kc (6 * kc) Q (F0 m 34 ls [])) → ∀ (kc : Nat) (H : Heap) (locs : List Loc) (ls : Array Slot) (d : kDk) (z : kDk) (x3 : Int32) (x4 : Int32) (x5 : Int32) (x8 : Int32) (k0 : Int32), kc + (47 + c34) ≤ 40000 → fn_L_law_197 L xs q34 d z x3 x4 x5 x8 k0 = some o → va_P D vwCl (dkW cI u d ++ dkW cI v z) H → va_D A (dkW cI u d ++ dkW cI v z) → va_S A s.heap H locs → lv_has ls 20 [(0, .ref b), (1, .ref (u.1 0)), (2, .ref (v.1 0)), (3, .int x3), (4, .int x4), (5, .int x5), (8, .int x8)] → W p l e room_1 s m args below meth c H locs kc (6 * kc) Q (F0 m 197 ls [.int k0]) := by
    intro q34 c34 hc34 i34
    intro kc H locs ls d z x3 x4 x5 x8 k0
    intro hkc hq hP hD hS hl
    refine lv_istore (lv' := [(9, .int k0), (0, .ref b), (1, .ref (u.1 0)), (2, .ref (v.1 0)), (3, .int x3), (4, .int x4), (5, .int x5), (8, .int x8)]) hx hb dL_law_197 hl (by decide) rfl (fun ls hl => ?_)
    refine lv_aload_n hx hb dL_law_199 rfl (lv_at hl 2 rfl) ?_
    refine lv_bipush (v := 10) hx hb dL_law_200 (by decide) ?_
    refine lv_iload hx hb dL_law_202 (lv_at hl 0 rfl) ?_
    refine lv_iload hx hb dL_law_204 (lv_at hl 7 rfl) ?_
    refine lv_iconst (v := 2) hx hb dL_law_206 (by decide) ?_
    obtain ⟨o207, ho207, hq⟩ := kbind hq
    refine kh_Si (k := kc) (nc := 1) (av := [.ref (u.1 0), .int (10 : Int32), .int k0, .int x8, .int (2 : Int32)]) (rest := []) (ws' := (dkW cI u o207.2 ++ dkW cI v z)) hF hK hG hA (mk_L_call l hst D cI u H.size d (10 : Int32) k0 x8 (2 : Int32) o207 ho207) (va_cwS 5 hts gL_law_L_call rfl rfl rfl (by decide +kernel) ⟨Nat.le_of_ble_eq_true rfl, Nat.le_of_ble_eq_true rfl⟩) hP hD hS (kSub_l dkW_fst) rfl hl.1 rfl (Nat.le_of_ble_eq_true rfl) ⟨by show kc + 1 ≤ 660915; omega, by show 6 * kc + 6 * 1 ≤ 7118878; omega⟩ dL_law_207 (fun H locs hP hD hS => ?_)
    refine lv_istore (lv' := [(10, .int o207.1), (9, .int k0), (0, .ref b), (1, .ref (u.1 0)), (2, .ref (v.1 0)), (3, .int x3), (4, .int x4), (5, .int x5), (8, .int x8)]) hx hb dL_law_210 hl (by decide) rfl (fun ls hl => ?_)
    refine lv_aload_n hx hb dL_law_212 rfl (lv_at hl 3 rfl) ?_
    refine lv_bipush (v := 10) hx hb dL_law_213 (by decide) ?_
    refine lv_iload hx hb dL_law_215 (lv_at hl 1 rfl) ?_
    refine lv_iload hx hb dL_law_217 (lv_at hl 8 rfl) ?_
    refine lv_iconst (v := 0) hx hb dL_law_219 (by decide) ?_
    obtain ⟨o220, ho220, hq⟩ := kbind hq
    refine kh_Si (k := (kc + 1)) (nc := 1) (av := [.ref (u.1 0), .int (10 : Int32), .int k0, .int x8, .int (0 : Int32)]) (rest := []) (ws' := (dkW cI u o220.2 ++ dkW cI v z)) hF hK hG hA (mk_L_call l hst D cI u H.size o207.2 (10 : Int32) k0 x8 (0 : Int32) o220 ho220) (va_cwS 5 hts gL_law_L_call rfl rfl rfl (by decide +kernel) ⟨Nat.le_of_ble_eq_true rfl, Nat.le_of_ble_eq_true rfl⟩) hP hD hS (kSub_l dkW_fst) rfl hl.1 rfl (Nat.le_of_ble_eq_true rfl) ⟨by show (kc + 1) + 1 ≤ 660915; omega, by show 6 * (kc + 1) + 6 * 1 ≤ 7118878; omega⟩ dL_law_220 (fun H locs hP hD hS => ?_)
    refine lv_istore (lv' := [(11, .int o220.1), (10, .int o207.1), (9, .int k0), (0, .ref b), (1, .ref (u.1 0)), (2, .ref (v.1 0)), (3, .int x3), (4, .int x4), (5, .int x5), (8, .int x8)]) hx hb dL_law_223 hl (by decide) rfl (fun ls hl => ?_)
    refine lv_aload_n hx hb dL_law_225 rfl (lv_at hl 4 rfl) ?_
    refine lv_iconst (v := 2) hx hb dL_law_226 (by decide) ?_
    refine lv_bipush (v := 7) hx hb dL_law_227 (by decide) ?_
    refine lv_iconst (v := 0) hx hb dL_law_229 (by decide) ?_
    refine lv_iconst (v := 0) hx hb dL_law_230 (by decide) ?_
    obtain ⟨o231, ho231, hq⟩ := kbind hq
    refine kh_Si (k := (kc + 1 + 1)) (nc := 1) (av := [.ref (u.1 0), .int (2 : Int32), .int (7 : Int32), .int (0 : Int32), .int (0 : Int32)]) (rest := []) (ws' := (dkW cI u o231.2 ++ dkW cI v z)) hF hK hG hA (mk_L_call l hst D cI u H.size o220.2 (2 : Int32) (7 : Int32) (0 : Int32) (0 : Int32) o231 ho231) (va_cwS 5 hts gL_law_L_call rfl rfl rfl (by decide +kernel) ⟨Nat.le_of_ble_eq_true rfl, Nat.le_of_ble_eq_true rfl⟩) hP hD hS (kSub_l dkW_fst) rfl hl.1 rfl (Nat.le_of_ble_eq_true rfl) ⟨by show (kc + 1 + 1) + 1 ≤ 660915; omega, by show 6 * (kc + 1 + 1) + 6 * 1 ≤ 7118878; omega⟩ dL_law_231 (fun H locs hP hD hS => ?_)
    refine lv_istore (lv' := [(12, .int o231.1), (11, .int o220.1), (10, .int o207.1), (9, .int k0), (0, .ref b), (1, .ref (u.1 0)), (2, .ref (v.1 0)), (3, .int x3), (4, .int x4), (5, .int x5), (8, .int x8)]) hx hb dL_law_234 hl (by decide) rfl (fun ls hl => ?_)
    refine lv_aload_n hx hb dL_law_236 rfl (lv_at hl 5 rfl) ?_
    refine lv_iconst (v := 2) hx hb dL_law_237 (by decide) ?_
    refine lv_iconst (v := 2) hx hb dL_law_238 (by decide) ?_
    refine lv_iconst (v := 0) hx hb dL_law_239 (by decide) ?_
    refine lv_iconst (v := 0) hx hb dL_law_240 (by decide) ?_
    obtain ⟨o241, ho241, hq⟩ := kbind hq
    refine kh_Si (k := (kc + 1 + 1 + 1)) (nc := 1) (av := [.ref (u.1 0), .int (2 : Int32), .int (2 : Int32), .int (0 : Int32), .int (0 : Int32)]) (rest := []) (ws' := (dkW cI u o241.2 ++ dkW cI v z)) hF hK hG hA (mk_L_call l hst D cI u H.size o231.2 (2 : Int32) (2 : Int32) (0 : Int32) (0 : Int32) o241 ho241) (va_cwS 5 hts gL_law_L_call rfl rfl rfl (by decide +kernel) ⟨Nat.le_of_ble_eq_true rfl, Nat.le_of_ble_eq_true rfl⟩) hP hD hS (kSub_l dkW_fst) rfl hl.1 rfl (Nat.le_of_ble_eq_true rfl) ⟨by show (kc + 1 + 1 + 1) + 1 ≤ 660915; omega, by show 6 * (kc + 1 + 1 + 1) + 6 * 1 ≤ 7118878; omega⟩ dL_law_241 (fun H locs hP hD hS => ?_)
    refine lv_istore (lv' := [(13, .int o241.1), (12, .int o231.1), (11, .int o220.1), (10, .int o207.1), (9, .int k0), (0, .ref b), (1, .ref (u.1 0)), (2, .ref (v.1 0)), (3, .int x3), (4, .int x4), (5, .int x5), (8, .int x8)]) hx hb dL_law_244 hl (by decide) rfl (fun ls hl => ?_)
    refine lv_aload_n hx hb dL_law_246 rfl (lv_at hl 6 rfl) ?_
    refine lv_bipush (v := 6) hx hb dL_law_247 (by decide) ?_
    refine lv_iconst (v := 0) hx hb dL_law_249 (by decide) ?_
    refine lv_iconst (v := 0) hx hb dL_law_250 (by decide) ?_
    refine lv_iconst (v := 0) hx hb dL_law_251 (by decide) ?_
    obtain ⟨o252, ho252, hq⟩ := kbind hq
    refine kh_Si (k := (kc + 1 + 1 + 1 + 1)) (nc := 1) (av := [.ref (u.1 0), .int (6 : Int32), .int (0 : Int32), .int (0 : Int32), .int (0 : Int32)]) (rest := []) (ws' := (dkW cI u o252.2 ++ dkW cI v z)) hF hK hG hA (mk_L_call l hst D cI u H.size o241.2 (6 : Int32) (0 : Int32) (0 : Int32) (0 : Int32) o252 ho252) (va_cwS 5 hts gL_law_L_call rfl rfl rfl (by decide +kernel) ⟨Nat.le_of_ble_eq_true rfl, Nat.le_of_ble_eq_true rfl⟩) hP hD hS (kSub_l dkW_fst) rfl hl.1 rfl (Nat.le_of_ble_eq_true rfl) ⟨by show (kc + 1 + 1 + 1 + 1) + 1 ≤ 660915; omega, by show 6 * (kc + 1 + 1 + 1 + 1) + 6 * 1 ≤ 7118878; omega⟩ dL_law_252 (fun H locs hP hD hS => ?_)
    refine lv_istore (lv' := [(14, .int o252.1), (13, .int o241.1), (12, .int o231.1), (11, .int o220.1), (10, .int o207.1), (9, .int k0), (0, .ref b), (1, .ref (u.1 0)), (2, .ref (v.1 0)), (3, .int x3), (4, .int x4), (5, .int x5), (8, .int x8)]) hx hb dL_law_255 hl (by decide) rfl (fun ls hl => ?_)
    refine lv_aload_n hx hb dL_law_257 rfl (lv_at hl 7 rfl) ?_
    refine lv_iconst (v := 2) hx hb dL_law_258 (by decide) ?_
    refine lv_iconst (v := 3) hx hb dL_law_259 (by decide) ?_
    refine lv_iconst (v := 0) hx hb dL_law_260 (by decide) ?_
    refine lv_iconst (v := 0) hx hb dL_law_261 (by decide) ?_
    obtain ⟨o262, ho262, hq⟩ := kbind hq
    refine kh_Si (k := (kc + 1 + 1 + 1 + 1 + 1)) (nc := 1) (av := [.ref (u.1 0), .int (2 : Int32), .int (3 : Int32), .int (0 : Int32), .int (0 : Int32)]) (rest := []) (ws' := (dkW cI u o262.2 ++ dkW cI v z)) hF hK hG hA (mk_L_call l hst D cI u H.size o252.2 (2 : Int32) (3 : Int32) (0 : Int32) (0 : Int32) o262 ho262) (va_cwS 5 hts gL_law_L_call rfl rfl rfl (by decide +kernel) ⟨Nat.le_of_ble_eq_true rfl, Nat.le_of_ble_eq_true rfl⟩) hP hD hS (kSub_l dkW_fst) rfl hl.1 rfl (Nat.le_of_ble_eq_true rfl) ⟨by show (kc + 1 + 1 + 1 + 1 + 1) + 1 ≤ 660915; omega, by show 6 * (kc + 1 + 1 + 1 + 1 + 1) + 6 * 1 ≤ 7118878; omega⟩ dL_law_262 (fun H locs hP hD hS => ?_)
    refine lv_istore (lv' := [(15, .int o262.1), (14, .int o252.1), (13, .int o241.1), (12, .int o231.1), (11, .int o220.1), (10, .int o207.1), (9, .int k0), (0, .ref b), (1, .ref (u.1 0)), (2, .ref (v.1 0)), (3, .int x3), (4, .int x4), (5, .int x5), (8, .int x8)]) hx hb dL_law_265 hl (by decide) rfl (fun ls hl => ?_)
    refine lv_aload_n hx hb dL_law_267 rfl (lv_at hl 8 rfl) ?_
    refine lv_iconst (v := 2) hx hb dL_law_268 (by decide) ?_
    refine lv_iconst (v := 0) hx hb dL_law_269 (by decide) ?_
    refine lv_iconst (v := 0) hx hb dL_law_270 (by decide) ?_
    refine lv_iconst (v := 0) hx hb dL_law_271 (by decide) ?_
    obtain ⟨o272, ho272, hq⟩ := kbind hq
    refine kh_Si (k := (kc + 1 + 1 + 1 + 1 + 1 + 1)) (nc := 1) (av := [.ref (u.1 0), .int (2 : Int32), .int (0 : Int32), .int (0 : Int32), .int (0 : Int32)]) (rest := []) (ws' := (dkW cI u o272.2 ++ dkW cI v z)) hF hK hG hA (mk_L_call l hst D cI u H.size o262.2 (2 : Int32) (0 : Int32) (0 : Int32) (0 : Int32) o272 ho272) (va_cwS 5 hts gL_law_L_call rfl rfl rfl (by decide +kernel) ⟨Nat.le_of_ble_eq_true rfl, Nat.le_of_ble_eq_true rfl⟩) hP hD hS (kSub_l dkW_fst) rfl hl.1 rfl (Nat.le_of_ble_eq_true rfl) ⟨by show (kc + 1 + 1 + 1 + 1 + 1 + 1) + 1 ≤ 660915; omega, by show 6 * (kc + 1 + 1 + 1 + 1 + 1 + 1) + 6 * 1 ≤ 7118878; omega⟩ dL_law_272 (fun H locs hP hD hS => ?_)
    refine lv_istore (lv' := [(16, .int o272.1), (15, .int o262.1), (14, .int o252.1), (13, .int o241.1), (12, .int o231.1), (11, .int o220.1), (10, .int o207.1), (9, .int k0), (0, .ref b), (1, .ref (u.1 0)), (2, .ref (v.1 0)), (3, .int x3), (4, .int x4), (5, .int x5), (8, .int x8)]) hx hb dL_law_275 hl (by decide) rfl (fun ls hl => ?_)
    refine lv_aload_n hx hb dL_law_277 rfl (lv_at hl 9 rfl) ?_
    obtain ⟨o278, ho278, hq⟩ := kbind hq
    refine kd_Vi (av := []) (rest := []) (ws' := (dkW cI u o278.2 ++ dkW cI v z)) hF hK hG hA (bm_slowest l hst D cI u H.size o272.2 o278 ho278) (cwV 0 hts gL_law_X7_slowest rfl rfl rfl (by decide +kernel) ⟨Nat.le_of_ble_eq_true rfl, Nat.le_of_ble_eq_true rfl⟩) hP hD hS (kSub_l dkW_fst) 0 (ci := 6) (N := 5) (T := TX7) rfl rfl rfl hl.1 rfl (Nat.le_of_ble_eq_true rfl) ⟨by show (kc + 1 + 1 + 1 + 1 + 1 + 1 + 1) ≤ 660915; omega, by show 6 * (kc + 1 + 1 + 1 + 1 + 1 + 1 + 1) ≤ 7118878; omega⟩ dL_law_278 (fun H locs hP hD hS => ?_)
    refine lv_istore (lv' := [(17, .int o278.1), (16, .int o272.1), (15, .int o262.1), (14, .int o252.1), (13, .int o241.1), (12, .int o231.1), (11, .int o220.1), (10, .int o207.1), (9, .int k0), (0, .ref b), (1, .ref (u.1 0)), (2, .ref (v.1 0)), (3, .int x3), (4, .int x4), (5, .int x5), (8, .int x8)]) hx hb dL_law_281 hl (by decide) rfl (fun ls hl => ?_)
    refine lv_iload hx hb dL_law_283 (lv_at hl 13 rfl) ?_
    refine lv_if_eq (tgt := 636) hx hb dL_law_285 (by decide) (fun c9 => ?_) (fun c9 => ?_)
    · have hq := kite_t c9 hq
      exact b_636 q34 c34 hc34 i34 (kc + 1 + 1 + 1 + 1 + 1 + 1 + 1) _ _ _ o278.2 z x3 x4 x5 x8 k0 o262.1 (by omega) hq hP hD hS (lv_sub hl [9, 10, 11, 12, 13, 14, 15, 8, 2] rfl)
    · have hq := kite_f c9 hq
      refine lv_aload_n hx hb dL_law_288 rfl (lv_at hl 10 rfl) ?_
      refine lv_iconst (v := 2) hx hb dL_law_289 (by decide) ?_
      refine lv_bipush (v := 9) hx hb dL_law_290 (by decide) ?_
      refine lv_iconst (v := 0) hx hb dL_law_292 (by decide) ?_
      refine lv_iconst (v := 0) hx hb dL_law_293 (by decide) ?_
      obtain ⟨o294, ho294, hq⟩ := kbind hq
      refine kh_Si (k := (kc + 1 + 1 + 1 + 1 + 1 + 1 + 1)) (nc := 1) (av := [.ref (u.1 0), .int (2 : Int32), .int (9 : Int32), .int (0 : Int32), .int (0 : Int32)]) (rest := []) (ws' := (dkW cI u o294.2 ++ dkW cI v z)) hF hK hG hA (mk_L_call l hst D cI u H.size o278.2 (2 : Int32) (9 : Int32) (0 : Int32) (0 : Int32) o294 ho294) (va_cwS 5 hts gL_law_L_call rfl rfl rfl (by decide +kernel) ⟨Nat.le_of_ble_eq_true rfl, Nat.le_of_ble_eq_true rfl⟩) hP hD hS (kSub_l dkW_fst) rfl hl.1 rfl (Nat.le_of_ble_eq_true rfl) ⟨by show (kc + 1 + 1 + 1 + 1 + 1 + 1 + 1) + 1 ≤ 660915; omega, by show 6 * (kc + 1 + 1 + 1 + 1 + 1 + 1 + 1) + 6 * 1 ≤ 7118878; omega⟩ dL_law_294 (fun H locs hP hD hS => ?_)
      refine lv_if_ne (tgt := 636) hx hb dL_law_297 (by decide) (fun c9 => ?_) (fun c9 => ?_)
      · have hq := kite_f c9 hq
        exact b_636 q34 c34 hc34 i34 (kc + 1 + 1 + 1 + 1 + 1 + 1 + 1 + 1) _ _ _ o294.2 z x3 x4 x5 x8 k0 o262.1 (by omega) hq hP hD hS (lv_sub hl [9, 10, 11, 12, 13, 14, 15, 8, 2] rfl)
      · have hq := kite_t c9 hq
        refine lv_iload hx hb dL_law_300 (lv_at hl 0 rfl) ?_
        refine lv_iconst (v := 1) hx hb dL_law_302 (by decide) ?_
        refine lv_icmp_eq (tgt := 370) hx hb dL_law_303 (by decide) (fun c9 => ?_) (fun c9 => ?_)
        · have hq := kite_t c9 hq
          exact b_370 q34 c34 hc34 i34 (kc + 1 + 1 + 1 + 1 + 1 + 1 + 1 + 1) _ _ _ o294.2 z x3 x5 x8 k0 o207.1 o220.1 o231.1 o241.1 o252.1 o262.1 o272.1 o278.1 (by omega) hq hP hD hS (lv_sub hl [9, 10, 11, 12, 14, 15, 8, 7, 6, 5, 4, 3, 2, 1, 0] rfl)
        · have hq := kite_f c9 hq
          refine lv_aload_n hx hb dL_law_306 rfl (lv_at hl 10 rfl) ?_
          refine lv_iload hx hb dL_law_307 (lv_at hl 8 rfl) ?_
          refine lv_iload hx hb dL_law_309 (lv_at hl 15 rfl) ?_
          refine lv_iload hx hb dL_law_311 (lv_at hl 0 rfl) ?_
          refine lv_iconst (v := 1) hx hb dL_law_313 (by decide) ?_
          refine lv_isub hx hb dL_law_314 ?_
          refine lv_iconst (v := 0) hx hb dL_law_315 (by decide) ?_
          obtain ⟨o316, ho316, hq⟩ := kbind hq
          refine kh_Wi (k := (kc + 1 + 1 + 1 + 1 + 1 + 1 + 1 + 1)) (nc := 1) (av := [.ref (u.1 0), .int k0, .int x8, .int (o278.1 - (1 : Int32)), .int (0 : Int32)]) (rest := []) (ws' := (dkW cI u o316.2 ++ dkW cI v z)) hF hK hG hA (bm_rolls l hst D cI u H.size o294.2 k0 x8 (o278.1 - (1 : Int32)) (0 : Int32) o316 ho316) (vx_cwSW 5 hts gL_law_L_rolls rfl rfl rfl (by decide +kernel) ⟨Nat.le_of_ble_eq_true rfl, Nat.le_of_ble_eq_true rfl⟩) hP hD hS (kSub_l dkW_fst) rfl hl.1 rfl (Nat.le_of_ble_eq_true rfl) ⟨by show (kc + 1 + 1 + 1 + 1 + 1 + 1 + 1 + 1) + 1 ≤ 660915; omega, by show 6 * (kc + 1 + 1 + 1 + 1 + 1 + 1 + 1 + 1) + 6 * 1 ≤ 7118878; omega⟩ dL_law_316 (fun H locs hP hD hS => ?_)
          refine lv_iconst (v := (-1)) hx hb dL_law_319 (by decide) ?_
          refine lv_icmp_ne (tgt := 451) hx hb dL_law_320 (by decide) (fun c9 => ?_) (fun c9 => ?_)
          · have hq := kite_f c9 hq
            exact b_451 q34 c34 hc34 i34 (kc + 1 + 1 + 1 + 1 + 1 + 1 + 1 + 1 + 1) _ _ _ o316.2 z x3 x5 o220.1 o231.1 o241.1 o252.1 o262.1 o272.1 (by omega) hq hP hD hS (lv_sub hl [9, 10, 11, 12, 14, 6, 5, 4, 3, 2, 1] rfl)
          · have hq := kite_t c9 hq
            refine lv_aload_n hx hb dL_law_323 rfl (lv_at hl 11 rfl) ?_
            refine lv_iload hx hb dL_law_324 (lv_at hl 8 rfl) ?_
            refine lv_iload hx hb dL_law_326 (lv_at hl 15 rfl) ?_
            refine lv_iload hx hb dL_law_328 (lv_at hl 0 rfl) ?_
            refine lv_iconst (v := 1) hx hb dL_law_330 (by decide) ?_
            refine lv_isub hx hb dL_law_331 ?_
            refine lv_iconst (v := 0) hx hb dL_law_332 (by decide) ?_
            obtain ⟨o333, ho333, hq⟩ := kbind hq
            refine kh_Wi (k := (kc + 1 + 1 + 1 + 1 + 1 + 1 + 1 + 1 + 1)) (nc := 1) (av := [.ref (v.1 0), .int k0, .int x8, .int (o278.1 - (1 : Int32)), .int (0 : Int32)]) (rest := []) (ws' := (dkW cI u o316.2 ++ dkW cI v o333.2)) hF hK hG hA (bm_rolls l hst D cI v H.size z k0 x8 (o278.1 - (1 : Int32)) (0 : Int32) o333 ho333) (vx_cwSW 5 hts gL_law_L_rolls rfl rfl rfl (by decide +kernel) ⟨Nat.le_of_ble_eq_true rfl, Nat.le_of_ble_eq_true rfl⟩) hP hD hS (kSub_r dkW_fst) rfl hl.1 rfl (Nat.le_of_ble_eq_true rfl) ⟨by show (kc + 1 + 1 + 1 + 1 + 1 + 1 + 1 + 1 + 1) + 1 ≤ 660915; omega, by show 6 * (kc + 1 + 1 + 1 + 1 + 1 + 1 + 1 + 1 + 1) + 6 * 1 ≤ 7118878; omega⟩ dL_law_333 (fun H locs hP hD hS => ?_)
            refine lv_iconst (v := (-1)) hx hb dL_law_336 (by decide) ?_
            refine lv_icmp_ne (tgt := 451) hx hb dL_law_337 (by decide) (fun c9 => ?_) (fun c9 => ?_)
            · have hq := kite_f c9 hq
              exact b_451 q34 c34 hc34 i34 (kc + 1 + 1 + 1 + 1 + 1 + 1 + 1 + 1 + 1 + 1) _ _ _ o316.2 o333.2 x3 x5 o220.1 o231.1 o241.1 o252.1 o262.1 o272.1 (by omega) hq hP hD hS (lv_sub hl [9, 10, 11, 12, 14, 6, 5, 4, 3, 2, 1] rfl)
            · have hq := kite_t c9 hq
              refine lv_aload_n hx hb dL_law_340 rfl (lv_at hl 10 rfl) ?_
              refine lv_bipush (v := 9) hx hb dL_law_341 (by decide) ?_
              refine lv_iconst (v := 0) hx hb dL_law_343 (by decide) ?_
              refine lv_iconst (v := 0) hx hb dL_law_344 (by decide) ?_
              refine lv_iconst (v := 0) hx hb dL_law_345 (by decide) ?_
              obtain ⟨o346, ho346, hq⟩ := kbind hq
              refine kh_Si (k := (kc + 1 + 1 + 1 + 1 + 1 + 1 + 1 + 1 + 1 + 1)) (nc := 1) (av := [.ref (u.1 0), .int (9 : Int32), .int (0 : Int32), .int (0 : Int32), .int (0 : Int32)]) (rest := []) (ws' := (dkW cI u o346.2 ++ dkW cI v o333.2)) hF hK hG hA (mk_L_call l hst D cI u H.size o316.2 (9 : Int32) (0 : Int32) (0 : Int32) (0 : Int32) o346 ho346) (va_cwS 5 hts gL_law_L_call rfl rfl rfl (by decide +kernel) ⟨Nat.le_of_ble_eq_true rfl, Nat.le_of_ble_eq_true rfl⟩) hP hD hS (kSub_l dkW_fst) rfl hl.1 rfl (Nat.le_of_ble_eq_true rfl) ⟨by show (kc + 1 + 1 + 1 + 1 + 1 + 1 + 1 + 1 + 1 + 1) + 1 ≤ 660915; omega, by show 6 * (kc + 1 + 1 + 1 + 1 + 1 + 1 + 1 + 1 + 1 + 1) + 6 * 1 ≤ 7118878; omega⟩ dL_law_346 (fun H locs hP hD hS => ?_)
              obtain ⟨o349, ho349, hq⟩ := kbind hq
              refine kh_Si (k := (kc + 1 + 1 + 1 + 1 + 1 + 1 + 1 + 1 + 1 + 1 + 1)) (nc := 0) (av := [.int o346.1]) (rest := []) (ws' := (dkW cI u o346.2 ++ dkW cI v o333.2)) hF hK hG hA (mk_L_thrown l D cI H.size o346.1 o349 ho349) (va_cwS 1 hts gL_law_L_thrown rfl rfl rfl (by decide +kernel) ⟨Nat.le_of_ble_eq_true rfl, Nat.le_of_ble_eq_true rfl⟩) hP hD hS (kSub_nil) rfl hl.1 rfl (Nat.le_of_ble_eq_true rfl) ⟨by show (kc + 1 + 1 + 1 + 1 + 1 + 1 + 1 + 1 + 1 + 1 + 1) + 0 ≤ 660915; omega, by show 6 * (kc + 1 + 1 + 1 + 1 + 1 + 1 + 1 + 1 + 1 + 1 + 1) + 6 * 0 ≤ 7118878; omega⟩ dL_law_349 (fun H locs hP hD hS => ?_)
              refine lv_if_ne (tgt := 451) hx hb dL_law_352 (by decide) (fun c9 => ?_) (fun c9 => ?_)
              · have hq := kite_f c9 hq
                exact b_451 q34 c34 hc34 i34 (kc + 1 + 1 + 1 + 1 + 1 + 1 + 1 + 1 + 1 + 1 + 1 + 0) _ _ _ o346.2 o333.2 x3 x5 o220.1 o231.1 o241.1 o252.1 o262.1 o272.1 (by omega) hq hP hD hS (lv_sub hl [9, 10, 11, 12, 14, 6, 5, 4, 3, 2, 1] rfl)
              · have hq := kite_t c9 hq
                refine lv_aload_n hx hb dL_law_355 rfl (lv_at hl 11 rfl) ?_
                refine lv_bipush (v := 9) hx hb dL_law_356 (by decide) ?_
                refine lv_iconst (v := 0) hx hb dL_law_358 (by decide) ?_
                refine lv_iconst (v := 0) hx hb dL_law_359 (by decide) ?_
                refine lv_iconst (v := 0) hx hb dL_law_360 (by decide) ?_
                obtain ⟨o361, ho361, hq⟩ := kbind hq
                refine kh_Si (k := (kc + 1 + 1 + 1 + 1 + 1 + 1 + 1 + 1 + 1 + 1 + 1 + 0)) (nc := 1) (av := [.ref (v.1 0), .int (9 : Int32), .int (0 : Int32), .int (0 : Int32), .int (0 : Int32)]) (rest := []) (ws' := (dkW cI u o346.2 ++ dkW cI v o361.2)) hF hK hG hA (mk_L_call l hst D cI v H.size o333.2 (9 : Int32) (0 : Int32) (0 : Int32) (0 : Int32) o361 ho361) (va_cwS 5 hts gL_law_L_call rfl rfl rfl (by decide +kernel) ⟨Nat.le_of_ble_eq_true rfl, Nat.le_of_ble_eq_true rfl⟩) hP hD hS (kSub_r dkW_fst) rfl hl.1 rfl (Nat.le_of_ble_eq_true rfl) ⟨by show (kc + 1 + 1 + 1 + 1 + 1 + 1 + 1 + 1 + 1 + 1 + 1 + 0) + 1 ≤ 660915; omega, by show 6 * (kc + 1 + 1 + 1 + 1 + 1 + 1 + 1 + 1 + 1 + 1 + 1 + 0) + 6 * 1 ≤ 7118878; omega⟩ dL_law_361 (fun H locs hP hD hS => ?_)
                obtain ⟨o364, ho364, hq⟩ := kbind hq
                refine kh_Si (k := (kc + 1 + 1 + 1 + 1 + 1 + 1 + 1 + 1 + 1 + 1 + 1 + 0 + 1)) (nc := 0) (av := [.int o361.1]) (rest := []) (ws' := (dkW cI u o346.2 ++ dkW cI v o361.2)) hF hK hG hA (mk_L_thrown l D cI H.size o361.1 o364 ho364) (va_cwS 1 hts gL_law_L_thrown rfl rfl rfl (by decide +kernel) ⟨Nat.le_of_ble_eq_true rfl, Nat.le_of_ble_eq_true rfl⟩) hP hD hS (kSub_nil) rfl hl.1 rfl (Nat.le_of_ble_eq_true rfl) ⟨by show (kc + 1 + 1 + 1 + 1 + 1 + 1 + 1 + 1 + 1 + 1 + 1 + 0 + 1) + 0 ≤ 660915; omega, by show 6 * (kc + 1 + 1 + 1 + 1 + 1 + 1 + 1 + 1 + 1 + 1 + 1 + 0 + 1) + 6 * 0 ≤ 7118878; omega⟩ dL_law_364 (fun H locs hP hD hS => ?_)
                refine lv_if_ne (tgt := 451) hx hb dL_law_367 (by decide) (fun c9 => ?_) (fun c9 => ?_)
                · have hq := kite_f c9 hq
                  exact b_451 q34 c34 hc34 i34 (kc + 1 + 1 + 1 + 1 + 1 + 1 + 1 + 1 + 1 + 1 + 1 + 0 + 1 + 0) _ _ _ o346.2 o361.2 x3 x5 o220.1 o231.1 o241.1 o252.1 o262.1 o272.1 (by omega) hq hP hD hS (lv_sub hl [9, 10, 11, 12, 14, 6, 5, 4, 3, 2, 1] rfl)
                · have hq := kite_t c9 hq
                  exact b_370 q34 c34 hc34 i34 (kc + 1 + 1 + 1 + 1 + 1 + 1 + 1 + 1 + 1 + 1 + 1 + 0 + 1 + 0) _ _ _ o346.2 o361.2 x3 x5 x8 k0 o207.1 o220.1 o231.1 o241.1 o252.1 o262.1 o272.1 o278.1 (by omega) hq hP hD hS (lv_sub hl [9, 10, 11, 12, 14, 15, 8, 7, 6, 5, 4, 3, 2, 1, 0] rfl)
  have b_150 : ∀ (q34 : kDk → kDk → Int32 → Int32 → Int32 → Option (Int32 × kDk × kDk)) (c34 : Nat), 0 ≤ c34 → (∀ (kc : Nat) (H : Heap) (locs : List Loc) (ls : Array Slot) (d : kDk) (z : kDk) (x3 : Int32) (x4 : Int32) (x5 : Int32), kc + c34 ≤ 40000 → q34 d z x3 x4 x5 = some o → va_P D vwCl (dkW cI u d ++ dkW cI v z) H → va_D A (dkW cI u d ++ dkW cI v z) → va_S A s.heap H locs → lv_has ls 20 [(0, .ref b), (1, .ref (u.1 0)), (2, .ref (v.1 0)), (3, .int x3), (4, .int x4), (5, .int x5)] → W p l e room_1 s m args below meth c H locs kc (6 * kc) Q (F0 m 34 ls [])) → ∀ (kc : Nat) (H : Heap) (locs : List Loc) (ls : Array Slot) (d : kDk) (z : kDk) (x3 : Int32) (x5 : Int32) (x6 : Int32) (k0 : Int32), kc + (48 + c34) ≤ 40000 → fn_L_law_150 L xs q34 d z x3 x5 x6 k0 = some o → va_P D vwCl (dkW cI u d ++ dkW cI v z) H → va_D A (dkW cI u d ++ dkW cI v z) → va_S A s.heap H locs → lv_has ls 20 [(0, .ref b), (1, .ref (u.1 0)), (2, .ref (v.1 0)), (3, .int x3), (5, .int x5), (6, .int x6)] → W p l e room_1 s m args below meth c H locs kc (6 * kc) Q (F0 m 150 ls [.int k0]) := by
    intro q34 c34 hc34 i34
    intro kc H locs ls d z x3 x5 x6 k0
    intro hkc hq hP hD hS hl
    refine lv_istore (lv' := [(4, .int k0), (0, .ref b), (1, .ref (u.1 0)), (2, .ref (v.1 0)), (3, .int x3), (5, .int x5), (6, .int x6)]) hx hb dL_law_150 hl (by decide) rfl (fun ls hl => ?_)
    refine lv_iload hx hb dL_law_152 (lv_at hl 6 rfl) ?_
    refine lv_bipush (v := 7) hx hb dL_law_154 (by decide) ?_
    refine lv_idiv hx hb dL_law_156 (by decide) ?_
    refine lv_iconst (v := 5) hx hb dL_law_157 (by decide) ?_
    refine lv_irem hx hb dL_law_158 (by decide) ?_
    refine lv_iconst (v := 2) hx hb dL_law_159 (by decide) ?_
    refine lv_isub hx hb dL_law_160 ?_
    refine lv_istore (lv' := [(8, .int ((krem (x6 / (7 : Int32)) (5 : Int32)) - (2 : Int32))), (4, .int k0), (0, .ref b), (1, .ref (u.1 0)), (2, .ref (v.1 0)), (3, .int x3), (5, .int x5), (6, .int x6)]) hx hb dL_law_161 hl (by decide) rfl (fun ls hl => ?_)
    refine lv_iload hx hb dL_law_163 (lv_at hl 7 rfl) ?_
    refine lv_bipush (v := 9) hx hb dL_law_165 (by decide) ?_
    refine lv_idiv hx hb dL_law_167 (by decide) ?_
    refine lv_iconst (v := 4) hx hb dL_law_168 (by decide) ?_
    refine lv_irem hx hb dL_law_169 (by decide) ?_
    refine lv_if_ne (tgt := 186) hx hb dL_law_170 (by decide) (fun c9 => ?_) (fun c9 => ?_)
    · have hq := kite_f c9 hq
      refine lv_bipush (v := 8) hx hb dL_law_186 (by decide) ?_
      refine lv_iload hx hb dL_law_188 (lv_at hl 7 rfl) ?_
      refine lv_bipush (v := 35) hx hb dL_law_190 (by decide) ?_
      refine lv_idiv hx hb dL_law_192 (by decide) ?_
      refine lv_bipush (v := 25) hx hb dL_law_193 (by decide) ?_
      refine lv_irem hx hb dL_law_195 (by decide) ?_
      refine lv_iadd hx hb dL_law_196 ?_
      exact b_197 q34 c34 hc34 i34 kc _ _ _ d z x3 k0 x5 ((krem (x6 / (7 : Int32)) (5 : Int32)) - (2 : Int32)) ((8 : Int32) + (krem (x6 / (35 : Int32)) (25 : Int32))) (by omega) hq hP hD hS (lv_sub hl [2, 3, 4, 5, 1, 6, 0] rfl)
    · have hq := kite_t c9 hq
      refine lv_aload_n hx hb dL_law_173 rfl (lv_at hl 3 rfl) ?_
      refine lv_bipush (v := 11) hx hb dL_law_174 (by decide) ?_
      refine lv_iload hx hb dL_law_176 (lv_at hl 0 rfl) ?_
      refine lv_iconst (v := 0) hx hb dL_law_178 (by decide) ?_
      refine lv_iconst (v := 0) hx hb dL_law_179 (by decide) ?_
      obtain ⟨o180, ho180, hq⟩ := kbind hq
      refine kh_Si (k := kc) (nc := 1) (av := [.ref (u.1 0), .int (11 : Int32), .int ((krem (x6 / (7 : Int32)) (5 : Int32)) - (2 : Int32)), .int (0 : Int32), .int (0 : Int32)]) (rest := []) (ws' := (dkW cI u o180.2 ++ dkW cI v z)) hF hK hG hA (mk_L_call l hst D cI u H.size d (11 : Int32) ((krem (x6 / (7 : Int32)) (5 : Int32)) - (2 : Int32)) (0 : Int32) (0 : Int32) o180 ho180) (va_cwS 5 hts gL_law_L_call rfl rfl rfl (by decide +kernel) ⟨Nat.le_of_ble_eq_true rfl, Nat.le_of_ble_eq_true rfl⟩) hP hD hS (kSub_l dkW_fst) rfl hl.1 rfl (Nat.le_of_ble_eq_true rfl) ⟨by show kc + 1 ≤ 660915; omega, by show 6 * kc + 6 * 1 ≤ 7118878; omega⟩ dL_law_180 (fun H locs hP hD hS => ?_)
      refine lv_goto (tgt := 197) hx hb dL_law_183 (by decide) ?_
      exact b_197 q34 c34 hc34 i34 (kc + 1) _ _ _ o180.2 z x3 k0 x5 ((krem (x6 / (7 : Int32)) (5 : Int32)) - (2 : Int32)) o180.1 (by omega) hq hP hD hS (lv_sub hl [2, 3, 4, 5, 1, 6, 0] rfl)
  have b_149 : ∀ (q34 : kDk → kDk → Int32 → Int32 → Int32 → Option (Int32 × kDk × kDk)) (c34 : Nat), 0 ≤ c34 → (∀ (kc : Nat) (H : Heap) (locs : List Loc) (ls : Array Slot) (d : kDk) (z : kDk) (x3 : Int32) (x4 : Int32) (x5 : Int32), kc + c34 ≤ 40000 → q34 d z x3 x4 x5 = some o → va_P D vwCl (dkW cI u d ++ dkW cI v z) H → va_D A (dkW cI u d ++ dkW cI v z) → va_S A s.heap H locs → lv_has ls 20 [(0, .ref b), (1, .ref (u.1 0)), (2, .ref (v.1 0)), (3, .int x3), (4, .int x4), (5, .int x5)] → W p l e room_1 s m args below meth c H locs kc (6 * kc) Q (F0 m 34 ls [])) → ∀ (kc : Nat) (H : Heap) (locs : List Loc) (ls : Array Slot) (d : kDk) (z : kDk) (x3 : Int32) (x5 : Int32) (x6 : Int32), kc + (48 + c34) ≤ 40000 → fn_L_law_149 L xs q34 d z x3 x5 x6 = some o → va_P D vwCl (dkW cI u d ++ dkW cI v z) H → va_D A (dkW cI u d ++ dkW cI v z) → va_S A s.heap H locs → lv_has ls 20 [(0, .ref b), (1, .ref (u.1 0)), (2, .ref (v.1 0)), (3, .int x3), (5, .int x5), (6, .int x6)] → W p l e room_1 s m args below meth c H locs kc (6 * kc) Q (F0 m 149 ls []) := by
    intro q34 c34 hc34 i34
    intro kc H locs ls d z x3 x5 x6
    intro hkc hq hP hD hS hl
    refine lv_iconst (v := 0) hx hb dL_law_149 (by decide) ?_
    exact b_150 q34 c34 hc34 i34 kc _ _ _ d z x3 x5 x6 (0 : Int32) (by omega) hq hP hD hS (lv_sub hl [0, 1, 2, 3, 4, 5] rfl)
  have b_145 : ∀ (q34 : kDk → kDk → Int32 → Int32 → Int32 → Option (Int32 × kDk × kDk)) (c34 : Nat), 0 ≤ c34 → (∀ (kc : Nat) (H : Heap) (locs : List Loc) (ls : Array Slot) (d : kDk) (z : kDk) (x3 : Int32) (x4 : Int32) (x5 : Int32), kc + c34 ≤ 40000 → q34 d z x3 x4 x5 = some o → va_P D vwCl (dkW cI u d ++ dkW cI v z) H → va_D A (dkW cI u d ++ dkW cI v z) → va_S A s.heap H locs → lv_has ls 20 [(0, .ref b), (1, .ref (u.1 0)), (2, .ref (v.1 0)), (3, .int x3), (4, .int x4), (5, .int x5)] → W p l e room_1 s m args below meth c H locs kc (6 * kc) Q (F0 m 34 ls [])) → ∀ (kc : Nat) (H : Heap) (locs : List Loc) (ls : Array Slot) (d : kDk) (z : kDk) (x3 : Int32) (x5 : Int32) (x6 : Int32), kc + (48 + c34) ≤ 40000 → fn_L_law_145 L xs q34 d z x3 x5 x6 = some o → va_P D vwCl (dkW cI u d ++ dkW cI v z) H → va_D A (dkW cI u d ++ dkW cI v z) → va_S A s.heap H locs → lv_has ls 20 [(0, .ref b), (1, .ref (u.1 0)), (2, .ref (v.1 0)), (3, .int x3), (5, .int x5), (6, .int x6)] → W p l e room_1 s m args below meth c H locs kc (6 * kc) Q (F0 m 145 ls []) := by
    intro q34 c34 hc34 i34
    intro kc H locs ls d z x3 x5 x6
    intro hkc hq hP hD hS hl
    refine lv_iconst (v := 1) hx hb dL_law_145 (by decide) ?_
    refine lv_goto (tgt := 150) hx hb dL_law_146 (by decide) ?_
    exact b_150 q34 c34 hc34 i34 kc _ _ _ d z x3 x5 x6 (1 : Int32) (by omega) hq hP hD hS (lv_sub hl [0, 1, 2, 3, 4, 5] rfl)
  have b_34 : ∀ (q : Nat), ∀ (kc : Nat) (H : Heap) (locs : List Loc) (ls : Array Slot) (d : kDk) (z : kDk) (x3 : Int32) (x4 : Int32) (x5 : Int32), kc + (q * 443 + 0) ≤ 40000 → fn_L_law_34 L xs q d z x3 x4 x5 = some o → va_P D vwCl (dkW cI u d ++ dkW cI v z) H → va_D A (dkW cI u d ++ dkW cI v z) → va_S A s.heap H locs → lv_has ls 20 [(0, .ref b), (1, .ref (u.1 0)), (2, .ref (v.1 0)), (3, .int x3), (4, .int x4), (5, .int x5)] → W p l e room_1 s m args below meth c H locs kc (6 * kc) Q (F0 m 34 ls []) := by
    intro q
    induction q with
    | zero =>
      intro kc H locs ls d z x3 x4 x5
      intro _ hq
      cases hq
    | succ q ih =>
      intro kc H locs ls d z x3 x4 x5
      intro hkc hq hP hD hS hl
      refine lv_iload hx hb dL_law_34 (lv_at hl 5 rfl) ?_
      refine lv_iload_n hx hb dL_law_36 rfl (lv_at hl 3 rfl) ?_
      refine lv_icmp_ge (tgt := 686) hx hb dL_law_37 (by decide) (fun c9 => ?_) (fun c9 => ?_)
      · have hq := kite_t c9 hq
        exact b_686  kc _ _ _ d z x4 (by omega) hq hP hD hS (lv_sub hl [4] rfl)
      · have hq := kite_f c9 hq
        refine lv_iload hx hb dL_law_40 (lv_at hl 4 rfl) ?_
        refine lv_if_eq (tgt := 686) hx hb dL_law_42 (by decide) (fun c9 => ?_) (fun c9 => ?_)
        · have hq := kite_t c9 hq
          exact b_686  kc _ _ _ d z x4 (by omega) hq hP hD hS (lv_sub hl [4] rfl)
        · have hq := kite_f c9 hq
          refine lv_aload_n hx hb dL_law_45 rfl (lv_at hl 0 rfl) ?_
          refine lv_iconst (v := 1) hx hb dL_law_46 (by decide) ?_
          refine lv_iload hx hb dL_law_47 (lv_at hl 5 rfl) ?_
          refine lv_iadd hx hb dL_law_49 ?_
          obtain ⟨hz, hq⟩ := kite_n hq
          refine kh_cell (rest := []) hF hL hX hbl hbA hz (va_cwS 2 hts gL_law_L_cell rfl rfl rfl (by decide +kernel) ⟨Nat.le_of_ble_eq_true rfl, Nat.le_of_ble_eq_true rfl⟩) hP hD hS rfl hl.1 rfl (Nat.le_of_ble_eq_true rfl) ⟨by show kc ≤ 660915; omega, by show 6 * kc ≤ 7118878; omega⟩ dL_law_50 (fun H locs hP hD hS => ?_)
          refine lv_istore (lv' := [(6, .int (kcell L xs ((1 : Int32) + x5))), (0, .ref b), (1, .ref (u.1 0)), (2, .ref (v.1 0)), (3, .int x3), (4, .int x4), (5, .int x5)]) hx hb dL_law_53 hl (by decide) rfl (fun ls hl => ?_)
          refine lv_aload_n hx hb dL_law_55 rfl (lv_at hl 2 rfl) ?_
          refine lv_iload hx hb dL_law_56 (lv_at hl 0 rfl) ?_
          obtain ⟨o58, ho58, hq⟩ := kbind hq
          refine kh_Si (k := kc) (nc := 2) (av := [.ref (u.1 0), .int (kcell L xs ((1 : Int32) + x5))]) (rest := []) (ws' := (dkW cI u o58.2 ++ dkW cI v z)) hF hK hG hA (mk_L_act l hst D cI u H.size d (kcell L xs ((1 : Int32) + x5)) o58 ho58) (va_cwS 2 hts gL_law_L_act rfl rfl rfl (by decide +kernel) ⟨Nat.le_of_ble_eq_true rfl, Nat.le_of_ble_eq_true rfl⟩) hP hD hS (kSub_l dkW_fst) rfl hl.1 rfl (Nat.le_of_ble_eq_true rfl) ⟨by show kc + 2 ≤ 660915; omega, by show 6 * kc + 6 * 2 ≤ 7118878; omega⟩ dL_law_58 (fun H locs hP hD hS => ?_)
          refine lv_istore (lv' := [(7, .int o58.1), (6, .int (kcell L xs ((1 : Int32) + x5))), (0, .ref b), (1, .ref (u.1 0)), (2, .ref (v.1 0)), (3, .int x3), (4, .int x4), (5, .int x5)]) hx hb dL_law_61 hl (by decide) rfl (fun ls hl => ?_)
          refine lv_aload_n hx hb dL_law_63 rfl (lv_at hl 4 rfl) ?_
          refine lv_iload hx hb dL_law_64 (lv_at hl 1 rfl) ?_
          refine lv_ldc (v := 100000) hx hb hown (hts (.constant RL 174 (100000 : Int32)) (by decide +kernel)) dL_law_66 ?_
          refine lv_irem hx hb dL_law_68 (by decide) ?_
          obtain ⟨o69, ho69, hq⟩ := kbind hq
          refine kh_Si (k := (kc + 2)) (nc := 29) (av := [.ref (v.1 0), .int (krem (kcell L xs ((1 : Int32) + x5)) (100000 : Int32))]) (rest := []) (ws' := (dkW cI u o58.2 ++ dkW cI v o69.2)) hF hK hG hA (mk_L_refuses l hst D cI v H.size z (krem (kcell L xs ((1 : Int32) + x5)) (100000 : Int32)) o69 ho69) (va_cwS 2 hts gL_law_L_refuses rfl rfl rfl (by decide +kernel) ⟨Nat.le_of_ble_eq_true rfl, Nat.le_of_ble_eq_true rfl⟩) hP hD hS (kSub_r dkW_fst) rfl hl.1 rfl (Nat.le_of_ble_eq_true rfl) ⟨by show (kc + 2) + 29 ≤ 660915; omega, by show 6 * (kc + 2) + 6 * 29 ≤ 7118878; omega⟩ dL_law_69 (fun H locs hP hD hS => ?_)
          refine lv_if_eq (tgt := 149) hx hb dL_law_72 (by decide) (fun c9 => ?_) (fun c9 => ?_)
          · have hq := kite_t c9 hq
            exact b_149 (fn_L_law_34 L xs q) (q * 443 + 0) (by omega) ih (kc + 2 + 29) _ _ _ o58.2 o69.2 x3 x5 (kcell L xs ((1 : Int32) + x5)) (by omega) hq hP hD hS (lv_sub hl [2, 3, 4, 5, 7, 1] rfl)
          · have hq := kite_f c9 hq
            refine lv_aload_n hx hb dL_law_75 rfl (lv_at hl 4 rfl) ?_
            refine lv_iload hx hb dL_law_76 (lv_at hl 1 rfl) ?_
            obtain ⟨o78, ho78, hq⟩ := kbind hq
            refine kh_Si (k := (kc + 2 + 29)) (nc := 2) (av := [.ref (v.1 0), .int (kcell L xs ((1 : Int32) + x5))]) (rest := []) (ws' := (dkW cI u o58.2 ++ dkW cI v o78.2)) hF hK hG hA (mk_L_act l hst D cI v H.size o69.2 (kcell L xs ((1 : Int32) + x5)) o78 ho78) (va_cwS 2 hts gL_law_L_act rfl rfl rfl (by decide +kernel) ⟨Nat.le_of_ble_eq_true rfl, Nat.le_of_ble_eq_true rfl⟩) hP hD hS (kSub_r dkW_fst) rfl hl.1 rfl (Nat.le_of_ble_eq_true rfl) ⟨by show (kc + 2 + 29) + 2 ≤ 660915; omega, by show 6 * (kc + 2 + 29) + 6 * 2 ≤ 7118878; omega⟩ dL_law_78 (fun H locs hP hD hS => ?_)
            refine lv_iload hx hb dL_law_81 (lv_at hl 0 rfl) ?_
            refine lv_icmp_ne (tgt := 149) hx hb dL_law_83 (by decide) (fun c9 => ?_) (fun c9 => ?_)
            · have hq := kite_f c9 hq
              exact b_149 (fn_L_law_34 L xs q) (q * 443 + 0) (by omega) ih (kc + 2 + 29 + 2) _ _ _ o58.2 o78.2 x3 x5 (kcell L xs ((1 : Int32) + x5)) (by omega) hq hP hD hS (lv_sub hl [2, 3, 4, 5, 7, 1] rfl)
            · have hq := kite_t c9 hq
              refine lv_aload_n hx hb dL_law_86 rfl (lv_at hl 4 rfl) ?_
              refine lv_iload hx hb dL_law_87 (lv_at hl 1 rfl) ?_
              refine lv_sipush (v := 1000) hx hb dL_law_89 (by decide) ?_
              refine lv_irem hx hb dL_law_92 (by decide) ?_
              obtain ⟨o93, ho93, hq⟩ := kbind hq
              refine kh_Si (k := (kc + 2 + 29 + 2)) (nc := 29) (av := [.ref (v.1 0), .int (krem (kcell L xs ((1 : Int32) + x5)) (1000 : Int32))]) (rest := []) (ws' := (dkW cI u o58.2 ++ dkW cI v o93.2)) hF hK hG hA (mk_L_refuses l hst D cI v H.size o78.2 (krem (kcell L xs ((1 : Int32) + x5)) (1000 : Int32)) o93 ho93) (va_cwS 2 hts gL_law_L_refuses rfl rfl rfl (by decide +kernel) ⟨Nat.le_of_ble_eq_true rfl, Nat.le_of_ble_eq_true rfl⟩) hP hD hS (kSub_r dkW_fst) rfl hl.1 rfl (Nat.le_of_ble_eq_true rfl) ⟨by show (kc + 2 + 29 + 2) + 29 ≤ 660915; omega, by show 6 * (kc + 2 + 29 + 2) + 6 * 29 ≤ 7118878; omega⟩ dL_law_93 (fun H locs hP hD hS => ?_)
              refine lv_if_eq (tgt := 149) hx hb dL_law_96 (by decide) (fun c9 => ?_) (fun c9 => ?_)
              · have hq := kite_t c9 hq
                exact b_149 (fn_L_law_34 L xs q) (q * 443 + 0) (by omega) ih (kc + 2 + 29 + 2 + 29) _ _ _ o58.2 o93.2 x3 x5 (kcell L xs ((1 : Int32) + x5)) (by omega) hq hP hD hS (lv_sub hl [2, 3, 4, 5, 7, 1] rfl)
              · have hq := kite_f c9 hq
                refine lv_aload_n hx hb dL_law_99 rfl (lv_at hl 3 rfl) ?_
                refine lv_aload_n hx hb dL_law_100 rfl (lv_at hl 4 rfl) ?_
                refine lv_iload hx hb dL_law_101 (lv_at hl 1 rfl) ?_
                refine lv_sipush (v := 5000) hx hb dL_law_103 (by decide) ?_
                refine lv_irem hx hb dL_law_106 (by decide) ?_
                obtain ⟨o107, ho107, hq⟩ := kbind hq
                refine kh_Si (k := (kc + 2 + 29 + 2 + 29)) (nc := 148) (av := [.ref (u.1 0), .ref (v.1 0), .int (krem (kcell L xs ((1 : Int32) + x5)) (5000 : Int32))]) (rest := []) (ws' := (dkW cI u o107.2.1 ++ dkW cI v o107.2.2)) hF hK hG hA (mk_L_alike l hst D cI u v H.size o58.2 o93.2 (krem (kcell L xs ((1 : Int32) + x5)) (5000 : Int32)) o107 ho107) (va_cwS 3 hts gL_law_L_alike rfl rfl rfl (by decide +kernel) ⟨Nat.le_of_ble_eq_true rfl, Nat.le_of_ble_eq_true rfl⟩) hP hD hS (kSub_all dkW_fst2) rfl hl.1 rfl (Nat.le_of_ble_eq_true rfl) ⟨by show (kc + 2 + 29 + 2 + 29) + 148 ≤ 660915; omega, by show 6 * (kc + 2 + 29 + 2 + 29) + 6 * 148 ≤ 7118878; omega⟩ dL_law_107 (fun H locs hP hD hS => ?_)
                refine lv_if_eq (tgt := 149) hx hb dL_law_110 (by decide) (fun c9 => ?_) (fun c9 => ?_)
                · have hq := kite_t c9 hq
                  exact b_149 (fn_L_law_34 L xs q) (q * 443 + 0) (by omega) ih (kc + 2 + 29 + 2 + 29 + 148) _ _ _ o107.2.1 o107.2.2 x3 x5 (kcell L xs ((1 : Int32) + x5)) (by omega) hq hP hD hS (lv_sub hl [2, 3, 4, 5, 7, 1] rfl)
                · have hq := kite_f c9 hq
                  refine lv_iload hx hb dL_law_113 (lv_at hl 7 rfl) ?_
                  refine lv_iconst (v := 2) hx hb dL_law_115 (by decide) ?_
                  refine lv_irem hx hb dL_law_116 (by decide) ?_
                  refine lv_if_ne (tgt := 134) hx hb dL_law_117 (by decide) (fun c9 => ?_) (fun c9 => ?_)
                  · have hq := kite_f c9 hq
                    refine lv_aload_n hx hb dL_law_134 rfl (lv_at hl 4 rfl) ?_
                    refine lv_iload hx hb dL_law_135 (lv_at hl 1 rfl) ?_
                    refine lv_iconst (v := 5) hx hb dL_law_137 (by decide) ?_
                    refine lv_idiv hx hb dL_law_138 (by decide) ?_
                    obtain ⟨o139, ho139, hq⟩ := kbind hq
                    refine kh_Si (k := (kc + 2 + 29 + 2 + 29 + 148)) (nc := 185) (av := [.ref (v.1 0), .int ((kcell L xs ((1 : Int32) + x5)) / (5 : Int32))]) (rest := []) (ws' := (dkW cI u o107.2.1 ++ dkW cI v o139.2)) hF hK hG hA (mk_L_holds l hst D cI v H.size o107.2.2 ((kcell L xs ((1 : Int32) + x5)) / (5 : Int32)) o139 ho139) (va_cwS 2 hts gL_law_L_holds rfl rfl rfl (by decide +kernel) ⟨Nat.le_of_ble_eq_true rfl, Nat.le_of_ble_eq_true rfl⟩) hP hD hS (kSub_r dkW_fst) rfl hl.1 rfl (Nat.le_of_ble_eq_true rfl) ⟨by show (kc + 2 + 29 + 2 + 29 + 148) + 185 ≤ 660915; omega, by show 6 * (kc + 2 + 29 + 2 + 29 + 148) + 6 * 185 ≤ 7118878; omega⟩ dL_law_139 (fun H locs hP hD hS => ?_)
                    refine lv_if_eq (tgt := 149) hx hb dL_law_142 (by decide) (fun c9 => ?_) (fun c9 => ?_)
                    · have hq := kite_t c9 hq
                      exact b_149 (fn_L_law_34 L xs q) (q * 443 + 0) (by omega) ih (kc + 2 + 29 + 2 + 29 + 148 + 185) _ _ _ o107.2.1 o139.2 x3 x5 (kcell L xs ((1 : Int32) + x5)) (by omega) hq hP hD hS (lv_sub hl [2, 3, 4, 5, 7, 1] rfl)
                    · have hq := kite_f c9 hq
                      exact b_145 (fn_L_law_34 L xs q) (q * 443 + 0) (by omega) ih (kc + 2 + 29 + 2 + 29 + 148 + 185) _ _ _ o107.2.1 o139.2 x3 x5 (kcell L xs ((1 : Int32) + x5)) (by omega) hq hP hD hS (lv_sub hl [2, 3, 4, 5, 7, 1] rfl)
                  · have hq := kite_t c9 hq
                    refine lv_aload_n hx hb dL_law_120 rfl (lv_at hl 3 rfl) ?_
                    refine lv_iload hx hb dL_law_121 (lv_at hl 1 rfl) ?_
                    refine lv_iconst (v := 3) hx hb dL_law_123 (by decide) ?_
                    refine lv_idiv hx hb dL_law_124 (by decide) ?_
                    obtain ⟨o125, ho125, hq⟩ := kbind hq
                    refine kh_Si (k := (kc + 2 + 29 + 2 + 29 + 148)) (nc := 185) (av := [.ref (u.1 0), .int ((kcell L xs ((1 : Int32) + x5)) / (3 : Int32))]) (rest := []) (ws' := (dkW cI u o125.2 ++ dkW cI v o107.2.2)) hF hK hG hA (mk_L_holds l hst D cI u H.size o107.2.1 ((kcell L xs ((1 : Int32) + x5)) / (3 : Int32)) o125 ho125) (va_cwS 2 hts gL_law_L_holds rfl rfl rfl (by decide +kernel) ⟨Nat.le_of_ble_eq_true rfl, Nat.le_of_ble_eq_true rfl⟩) hP hD hS (kSub_l dkW_fst) rfl hl.1 rfl (Nat.le_of_ble_eq_true rfl) ⟨by show (kc + 2 + 29 + 2 + 29 + 148) + 185 ≤ 660915; omega, by show 6 * (kc + 2 + 29 + 2 + 29 + 148) + 6 * 185 ≤ 7118878; omega⟩ dL_law_125 (fun H locs hP hD hS => ?_)
                    refine lv_if_eq (tgt := 149) hx hb dL_law_128 (by decide) (fun c9 => ?_) (fun c9 => ?_)
                    · have hq := kite_t c9 hq
                      exact b_149 (fn_L_law_34 L xs q) (q * 443 + 0) (by omega) ih (kc + 2 + 29 + 2 + 29 + 148 + 185) _ _ _ o125.2 o107.2.2 x3 x5 (kcell L xs ((1 : Int32) + x5)) (by omega) hq hP hD hS (lv_sub hl [2, 3, 4, 5, 7, 1] rfl)
                    · have hq := kite_f c9 hq
                      refine lv_goto (tgt := 145) hx hb dL_law_131 (by decide) ?_
                      exact b_145 (fn_L_law_34 L xs q) (q * 443 + 0) (by omega) ih (kc + 2 + 29 + 2 + 29 + 148 + 185) _ _ _ o125.2 o107.2.2 x3 x5 (kcell L xs ((1 : Int32) + x5)) (by omega) hq hP hD hS (lv_sub hl [2, 3, 4, 5, 7, 1] rfl)
  refine lv_bipush (v := 8) hx hb dL_law_16 (by decide) ?_
  refine lv_aload_n hx hb dL_law_18 rfl (lv_at hl 0 rfl) ?_
  refine lv_iconst (v := 0) hx hb dL_law_19 (by decide) ?_
  obtain ⟨hz, hq⟩ := kite_n hq
  refine kh_cell (rest := [.int (8 : Int32)]) hF hL hX hbl hbA hz (va_cwS 2 hts gL_law_L_cell rfl rfl rfl (by decide +kernel) ⟨Nat.le_of_ble_eq_true rfl, Nat.le_of_ble_eq_true rfl⟩) hP hD hS rfl hl.1 rfl (Nat.le_of_ble_eq_true rfl) ⟨by show kc ≤ 660915; omega, by show 6 * kc ≤ 7118878; omega⟩ dL_law_20 (fun H locs hP hD hS => ?_)
  refine lv_bipush (v := 21) hx hb dL_law_23 (by decide) ?_
  refine lv_irem hx hb dL_law_25 (by decide) ?_
  refine lv_iadd hx hb dL_law_26 ?_
  refine lv_istore_n (lv' := [(3, .int ((8 : Int32) + (krem (kcell L xs (0 : Int32)) (21 : Int32)))), (0, .ref b), (1, .ref (u.1 0)), (2, .ref (v.1 0))]) hx hb dL_law_27 rfl hl (by decide) rfl (fun ls hl => ?_)
  refine lv_iconst (v := 1) hx hb dL_law_28 (by decide) ?_
  refine lv_istore (lv' := [(4, .int (1 : Int32)), (3, .int ((8 : Int32) + (krem (kcell L xs (0 : Int32)) (21 : Int32)))), (0, .ref b), (1, .ref (u.1 0)), (2, .ref (v.1 0))]) hx hb dL_law_29 hl (by decide) rfl (fun ls hl => ?_)
  refine lv_iconst (v := 0) hx hb dL_law_31 (by decide) ?_
  refine lv_istore (lv' := [(5, .int (0 : Int32)), (4, .int (1 : Int32)), (3, .int ((8 : Int32) + (krem (kcell L xs (0 : Int32)) (21 : Int32)))), (0, .ref b), (1, .ref (u.1 0)), (2, .ref (v.1 0))]) hx hb dL_law_32 hl (by decide) rfl (fun ls hl => ?_)
  exact b_34 30 kc _ _ _ d z ((8 : Int32) + (krem (kcell L xs (0 : Int32)) (21 : Int32))) (1 : Int32) (0 : Int32) (by omega) hq hP hD hS (lv_sub hl [3, 4, 5, 2, 1, 0] rfl)

