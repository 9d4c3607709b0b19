/-! alike (written by wip/p26/gen/gen26.py) -/
set_option maxHeartbeats 8000000 in
set_option maxRecDepth 100000 in
theorem mk_L_alike (l : Launch) (hst : l.stackTraces = false) (D : va_G) (cI : Nat → ClassId) (u v : kHad) (sz : Nat) (d : kDk) (z : kDk) (x2 : Int32) (o : Int32 × kDk × kDk) (hq : fn_L_alike d z x2 = some o) : Met l yL_alike wsL_alike ({ frames := 9, cells := 148, slots := 888, locals := 217 }) (kPc D cI (dkW cI u d ++ dkW cI v z) sz [.ref (u.1 0), .ref (v.1 0), .int x2]) (kQi D (dkW cI u d ++ dkW cI v z) (dkW cI u o.2.1 ++ dkW cI v o.2.2) sz o.1) 148 888 (va_A (dkW cI u d ++ dkW cI v z) sz) := by
  refine kM_hz (nc := 148) (cc := cL_alike) (maxL := 5) (by decide +kernel) rfl (Nat.le_of_ble_eq_true rfl) ?_
  intro p e s m args below meth c A Q hF hK hG hD hA hend ls hP hS hl
  obtain ⟨hx, hb, hml, hown, hts⟩ := id hF
  have hl : lv_has ls 5 [(0, .ref (u.1 0)), (1, .ref (v.1 0)), (2, .int x2)] := hl
  have b_240 : ∀ (kc : Nat) (H : Heap) (locs : List Loc) (ls : Array Slot) (d : kDk) (z : kDk) (x3 : Int32), kc + 0 ≤ 148 → fn_L_alike_240 d z x3 = some o → va_P D vwCl (dkW cI u d ++ dkW cI v z) H → va_D A (dkW cI u d ++ dkW cI v z) → va_S A s.heap H locs → lv_has ls 5 [(3, .int x3)] → W p l e ({ frames := 9, cells := 148, slots := 888, locals := 217 }) s m args below meth c H locs kc (6 * kc) Q (F0 m 240 ls []) := by
    intro kc H locs ls d z x3
    intro hkc hq hP hD hS hl
    refine lv_iload_n hx hb dL_alike_240 rfl (lv_at hl 0 rfl) ?_
    obtain ⟨hz, hq⟩ := kite_b hq
    have ho := Option.some.inj hq
    subst ho
    refine W.widen (k := 148) (n := 6 * 148) (by omega) (by omega) ?_
    exact hend _ _ _ _ hz hP hS dL_alike_241
  have b_233 : ∀ (q65 : kDk → kDk → Int32 → Int32 → Int32 → Option (Int32 × kDk × kDk)) (c65 : Nat), 0 ≤ c65 → (∀ (kc : Nat) (H : Heap) (locs : List Loc) (ls : Array Slot) (d : kDk) (z : kDk) (x2 : Int32) (x3 : Int32) (x4 : Int32), kc + c65 ≤ 148 → q65 d z x2 x3 x4 = some o → va_P D vwCl (dkW cI u d ++ dkW cI v z) H → va_D A (dkW cI u d ++ dkW cI v z) → va_S A s.heap H locs → lv_has ls 5 [(0, .ref (u.1 0)), (1, .ref (v.1 0)), (2, .int x2), (3, .int x3), (4, .int x4)] → W p l e ({ frames := 9, cells := 148, slots := 888, locals := 217 }) s m args below meth c H locs kc (6 * kc) Q (F0 m 65 ls [])) → ∀ (kc : Nat) (H : Heap) (locs : List Loc) (ls : Array Slot) (d : kDk) (z : kDk) (x2 : Int32) (x4 : Int32) (k0 : Int32), kc + (0 + c65) ≤ 148 → fn_L_alike_233 q65 d z x2 x4 k0 = some o → va_P D vwCl (dkW cI u d ++ dkW cI v z) H → va_D A (dkW cI u d ++ dkW cI v z) → va_S A s.heap H locs → lv_has ls 5 [(0, .ref (u.1 0)), (1, .ref (v.1 0)), (2, .int x2), (4, .int x4)] → W p l e ({ frames := 9, cells := 148, slots := 888, locals := 217 }) s m args below meth c H locs kc (6 * kc) Q (F0 m 233 ls [.int k0]) := by
    intro q65 c65 hc65 i65
    intro kc H locs ls d z x2 x4 k0
    intro hkc hq hP hD hS hl
    refine lv_istore_n (lv' := [(3, .int k0), (0, .ref (u.1 0)), (1, .ref (v.1 0)), (2, .int x2), (4, .int x4)]) hx hb dL_alike_233 rfl hl (by decide) rfl (fun ls hl => ?_)
    refine lv_iinc (v := (x4 + 1)) (lv' := [(4, .int (x4 + 1)), (3, .int k0), (0, .ref (u.1 0)), (1, .ref (v.1 0)), (2, .int x2)]) hx hb dL_alike_234 hl (k := 4) rfl rfl (by decide) rfl (fun ls hl => ?_)
    refine lv_goto (tgt := 65) hx hb dL_alike_237 (by decide) ?_
    exact i65 kc _ _ _ d z x2 k0 (x4 + 1) (by omega) hq hP hD hS (lv_sub hl [2, 3, 4, 1, 0] rfl)
  have b_232 : ∀ (q65 : kDk → kDk → Int32 → Int32 → Int32 → Option (Int32 × kDk × kDk)) (c65 : Nat), 0 ≤ c65 → (∀ (kc : Nat) (H : Heap) (locs : List Loc) (ls : Array Slot) (d : kDk) (z : kDk) (x2 : Int32) (x3 : Int32) (x4 : Int32), kc + c65 ≤ 148 → q65 d z x2 x3 x4 = some o → va_P D vwCl (dkW cI u d ++ dkW cI v z) H → va_D A (dkW cI u d ++ dkW cI v z) → va_S A s.heap H locs → lv_has ls 5 [(0, .ref (u.1 0)), (1, .ref (v.1 0)), (2, .int x2), (3, .int x3), (4, .int x4)] → W p l e ({ frames := 9, cells := 148, slots := 888, locals := 217 }) s m args below meth c H locs kc (6 * kc) Q (F0 m 65 ls [])) → ∀ (kc : Nat) (H : Heap) (locs : List Loc) (ls : Array Slot) (d : kDk) (z : kDk) (x2 : Int32) (x4 : Int32), kc + (0 + c65) ≤ 148 → fn_L_alike_232 q65 d z x2 x4 = some o → va_P D vwCl (dkW cI u d ++ dkW cI v z) H → va_D A (dkW cI u d ++ dkW cI v z) → va_S A s.heap H locs → lv_has ls 5 [(0, .ref (u.1 0)), (1, .ref (v.1 0)), (2, .int x2), (4, .int x4)] → W p l e ({ frames := 9, cells := 148, slots := 888, locals := 217 }) s m args below meth c H locs kc (6 * kc) Q (F0 m 232 ls []) := by
    intro q65 c65 hc65 i65
    intro kc H locs ls d z x2 x4
    intro hkc hq hP hD hS hl
    refine lv_iconst (v := 0) hx hb dL_alike_232 (by decide) ?_
    exact b_233 q65 c65 hc65 i65 kc _ _ _ d z x2 x4 (0 : Int32) (by omega) hq hP hD hS (lv_sub hl [0, 1, 2, 3] rfl)
  have b_65 : ∀ (q : Nat), ∀ (kc : Nat) (H : Heap) (locs : List Loc) (ls : Array Slot) (d : kDk) (z : kDk) (x2 : Int32) (x3 : Int32) (x4 : Int32), kc + (q * 12 + 0) ≤ 148 → fn_L_alike_65 q d z x2 x3 x4 = some o → va_P D vwCl (dkW cI u d ++ dkW cI v z) H → va_D A (dkW cI u d ++ dkW cI v z) → va_S A s.heap H locs → lv_has ls 5 [(0, .ref (u.1 0)), (1, .ref (v.1 0)), (2, .int x2), (3, .int x3), (4, .int x4)] → W p l e ({ frames := 9, cells := 148, slots := 888, locals := 217 }) s m args below meth c H locs kc (6 * kc) Q (F0 m 65 ls []) := by
    intro q
    induction q with
    | zero =>
      intro kc H locs ls d z x2 x3 x4
      intro _ hq
      cases hq
    | succ q ih =>
      intro kc H locs ls d z x2 x3 x4
      intro hkc hq hP hD hS hl
      refine lv_iload hx hb dL_alike_65 (lv_at hl 4 rfl) ?_
      refine lv_bipush (v := 10) hx hb dL_alike_67 (by decide) ?_
      refine lv_icmp_ge (tgt := 240) hx hb dL_alike_69 (by decide) (fun c9 => ?_) (fun c9 => ?_)
      · have hq := kite_t c9 hq
        exact b_240  kc _ _ _ d z x3 (by omega) hq hP hD hS (lv_sub hl [3] rfl)
      · have hq := kite_f c9 hq
        refine lv_iload_n hx hb dL_alike_72 rfl (lv_at hl 3 rfl) ?_
        refine lv_if_eq (tgt := 240) hx hb dL_alike_73 (by decide) (fun c9 => ?_) (fun c9 => ?_)
        · have hq := kite_t c9 hq
          exact b_240  kc _ _ _ d z x3 (by omega) hq hP hD hS (lv_sub hl [3] rfl)
        · have hq := kite_f c9 hq
          refine lv_aload_n hx hb dL_alike_76 rfl (lv_at hl 0 rfl) ?_
          refine lv_iconst (v := 2) hx hb dL_alike_77 (by decide) ?_
          refine lv_iload hx hb dL_alike_78 (lv_at hl 4 rfl) ?_
          refine lv_iconst (v := 0) hx hb dL_alike_80 (by decide) ?_
          refine lv_iconst (v := 0) hx hb dL_alike_81 (by decide) ?_
          obtain ⟨o82, ho82, hq⟩ := kbind hq
          refine kh_Si (k := kc) (nc := 1) (av := [.ref (u.1 0), .int (2 : Int32), .int x4, .int (0 : Int32), .int (0 : Int32)]) (rest := []) (ws' := (dkW cI u o82.2 ++ dkW cI v z)) hF hK hG hA (mk_L_call l hst D cI u H.size d (2 : Int32) x4 (0 : Int32) (0 : Int32) o82 ho82) (va_cwS 5 hts gL_alike_L_call rfl rfl rfl (by decide +kernel) ⟨Nat.le_of_ble_eq_true rfl, Nat.le_of_ble_eq_true rfl⟩) hP hD hS (kSub_l dkW_fst) rfl hl.1 rfl (Nat.le_of_ble_eq_true rfl) ⟨by show kc + 1 ≤ 148; omega, by show 6 * kc + 6 * 1 ≤ 888; omega⟩ dL_alike_82 (fun H locs hP hD hS => ?_)
          refine lv_aload_n hx hb dL_alike_85 rfl (lv_at hl 1 rfl) ?_
          refine lv_iconst (v := 2) hx hb dL_alike_86 (by decide) ?_
          refine lv_iload hx hb dL_alike_87 (lv_at hl 4 rfl) ?_
          refine lv_iconst (v := 0) hx hb dL_alike_89 (by decide) ?_
          refine lv_iconst (v := 0) hx hb dL_alike_90 (by decide) ?_
          obtain ⟨o91, ho91, hq⟩ := kbind hq
          refine kh_Si (k := (kc + 1)) (nc := 1) (av := [.ref (v.1 0), .int (2 : Int32), .int x4, .int (0 : Int32), .int (0 : Int32)]) (rest := [.int o82.1]) (ws' := (dkW cI u o82.2 ++ dkW cI v o91.2)) hF hK hG hA (mk_L_call l hst D cI v H.size z (2 : Int32) x4 (0 : Int32) (0 : Int32) o91 ho91) (va_cwS 5 hts gL_alike_L_call rfl rfl rfl (by decide +kernel) ⟨Nat.le_of_ble_eq_true rfl, Nat.le_of_ble_eq_true rfl⟩) hP hD hS (kSub_r dkW_fst) rfl hl.1 rfl (Nat.le_of_ble_eq_true rfl) ⟨by show (kc + 1) + 1 ≤ 148; omega, by show 6 * (kc + 1) + 6 * 1 ≤ 888; omega⟩ dL_alike_91 (fun H locs hP hD hS => ?_)
          refine lv_icmp_ne (tgt := 232) hx hb dL_alike_94 (by decide) (fun c9 => ?_) (fun c9 => ?_)
          · have hq := kite_f c9 hq
            exact b_232 (fn_L_alike_65 q) (q * 12 + 0) (by omega) ih (kc + 1 + 1) _ _ _ o82.2 o91.2 x2 x4 (by omega) hq hP hD hS (lv_sub hl [0, 1, 2, 4] rfl)
          · have hq := kite_t c9 hq
            refine lv_aload_n hx hb dL_alike_97 rfl (lv_at hl 0 rfl) ?_
            refine lv_iconst (v := 3) hx hb dL_alike_98 (by decide) ?_
            refine lv_iload hx hb dL_alike_99 (lv_at hl 4 rfl) ?_
            refine lv_iconst (v := 0) hx hb dL_alike_101 (by decide) ?_
            refine lv_iconst (v := 0) hx hb dL_alike_102 (by decide) ?_
            obtain ⟨o103, ho103, hq⟩ := kbind hq
            refine kh_Si (k := (kc + 1 + 1)) (nc := 1) (av := [.ref (u.1 0), .int (3 : Int32), .int x4, .int (0 : Int32), .int (0 : Int32)]) (rest := []) (ws' := (dkW cI u o103.2 ++ dkW cI v o91.2)) hF hK hG hA (mk_L_call l hst D cI u H.size o82.2 (3 : Int32) x4 (0 : Int32) (0 : Int32) o103 ho103) (va_cwS 5 hts gL_alike_L_call rfl rfl rfl (by decide +kernel) ⟨Nat.le_of_ble_eq_true rfl, Nat.le_of_ble_eq_true rfl⟩) hP hD hS (kSub_l dkW_fst) rfl hl.1 rfl (Nat.le_of_ble_eq_true rfl) ⟨by show (kc + 1 + 1) + 1 ≤ 148; omega, by show 6 * (kc + 1 + 1) + 6 * 1 ≤ 888; omega⟩ dL_alike_103 (fun H locs hP hD hS => ?_)
            refine lv_aload_n hx hb dL_alike_106 rfl (lv_at hl 1 rfl) ?_
            refine lv_iconst (v := 3) hx hb dL_alike_107 (by decide) ?_
            refine lv_iload hx hb dL_alike_108 (lv_at hl 4 rfl) ?_
            refine lv_iconst (v := 0) hx hb dL_alike_110 (by decide) ?_
            refine lv_iconst (v := 0) hx hb dL_alike_111 (by decide) ?_
            obtain ⟨o112, ho112, hq⟩ := kbind hq
            refine kh_Si (k := (kc + 1 + 1 + 1)) (nc := 1) (av := [.ref (v.1 0), .int (3 : Int32), .int x4, .int (0 : Int32), .int (0 : Int32)]) (rest := [.int o103.1]) (ws' := (dkW cI u o103.2 ++ dkW cI v o112.2)) hF hK hG hA (mk_L_call l hst D cI v H.size o91.2 (3 : Int32) x4 (0 : Int32) (0 : Int32) o112 ho112) (va_cwS 5 hts gL_alike_L_call rfl rfl rfl (by decide +kernel) ⟨Nat.le_of_ble_eq_true rfl, Nat.le_of_ble_eq_true rfl⟩) hP hD hS (kSub_r dkW_fst) rfl hl.1 rfl (Nat.le_of_ble_eq_true rfl) ⟨by show (kc + 1 + 1 + 1) + 1 ≤ 148; omega, by show 6 * (kc + 1 + 1 + 1) + 6 * 1 ≤ 888; omega⟩ dL_alike_112 (fun H locs hP hD hS => ?_)
            refine lv_icmp_ne (tgt := 232) hx hb dL_alike_115 (by decide) (fun c9 => ?_) (fun c9 => ?_)
            · have hq := kite_f c9 hq
              exact b_232 (fn_L_alike_65 q) (q * 12 + 0) (by omega) ih (kc + 1 + 1 + 1 + 1) _ _ _ o103.2 o112.2 x2 x4 (by omega) hq hP hD hS (lv_sub hl [0, 1, 2, 4] rfl)
            · have hq := kite_t c9 hq
              refine lv_aload_n hx hb dL_alike_118 rfl (lv_at hl 0 rfl) ?_
              refine lv_iconst (v := 3) hx hb dL_alike_119 (by decide) ?_
              refine lv_iload hx hb dL_alike_120 (lv_at hl 4 rfl) ?_
              refine lv_iconst (v := 1) hx hb dL_alike_122 (by decide) ?_
              refine lv_iload_n hx hb dL_alike_123 rfl (lv_at hl 2 rfl) ?_
              refine lv_iconst (v := 3) hx hb dL_alike_124 (by decide) ?_
              refine lv_irem hx hb dL_alike_125 (by decide) ?_
              refine lv_iadd hx hb dL_alike_126 ?_
              refine lv_iconst (v := 0) hx hb dL_alike_127 (by decide) ?_
              obtain ⟨o128, ho128, hq⟩ := kbind hq
              refine kh_Si (k := (kc + 1 + 1 + 1 + 1)) (nc := 1) (av := [.ref (u.1 0), .int (3 : Int32), .int x4, .int ((1 : Int32) + (krem x2 (3 : Int32))), .int (0 : Int32)]) (rest := []) (ws' := (dkW cI u o128.2 ++ dkW cI v o112.2)) hF hK hG hA (mk_L_call l hst D cI u H.size o103.2 (3 : Int32) x4 ((1 : Int32) + (krem x2 (3 : Int32))) (0 : Int32) o128 ho128) (va_cwS 5 hts gL_alike_L_call rfl rfl rfl (by decide +kernel) ⟨Nat.le_of_ble_eq_true rfl, Nat.le_of_ble_eq_true rfl⟩) hP hD hS (kSub_l dkW_fst) rfl hl.1 rfl (Nat.le_of_ble_eq_true rfl) ⟨by show (kc + 1 + 1 + 1 + 1) + 1 ≤ 148; omega, by show 6 * (kc + 1 + 1 + 1 + 1) + 6 * 1 ≤ 888; omega⟩ dL_alike_128 (fun H locs hP hD hS => ?_)
              refine lv_aload_n hx hb dL_alike_131 rfl (lv_at hl 1 rfl) ?_
              refine lv_iconst (v := 3) hx hb dL_alike_132 (by decide) ?_
              refine lv_iload hx hb dL_alike_133 (lv_at hl 4 rfl) ?_
              refine lv_iconst (v := 1) hx hb dL_alike_135 (by decide) ?_
              refine lv_iload_n hx hb dL_alike_136 rfl (lv_at hl 2 rfl) ?_
              refine lv_iconst (v := 3) hx hb dL_alike_137 (by decide) ?_
              refine lv_irem hx hb dL_alike_138 (by decide) ?_
              refine lv_iadd hx hb dL_alike_139 ?_
              refine lv_iconst (v := 0) hx hb dL_alike_140 (by decide) ?_
              obtain ⟨o141, ho141, hq⟩ := kbind hq
              refine kh_Si (k := (kc + 1 + 1 + 1 + 1 + 1)) (nc := 1) (av := [.ref (v.1 0), .int (3 : Int32), .int x4, .int ((1 : Int32) + (krem x2 (3 : Int32))), .int (0 : Int32)]) (rest := [.int o128.1]) (ws' := (dkW cI u o128.2 ++ dkW cI v o141.2)) hF hK hG hA (mk_L_call l hst D cI v H.size o112.2 (3 : Int32) x4 ((1 : Int32) + (krem x2 (3 : Int32))) (0 : Int32) o141 ho141) (va_cwS 5 hts gL_alike_L_call rfl rfl rfl (by decide +kernel) ⟨Nat.le_of_ble_eq_true rfl, Nat.le_of_ble_eq_true rfl⟩) hP hD hS (kSub_r dkW_fst) rfl hl.1 rfl (Nat.le_of_ble_eq_true rfl) ⟨by show (kc + 1 + 1 + 1 + 1 + 1) + 1 ≤ 148; omega, by show 6 * (kc + 1 + 1 + 1 + 1 + 1) + 6 * 1 ≤ 888; omega⟩ dL_alike_141 (fun H locs hP hD hS => ?_)
              refine lv_icmp_ne (tgt := 232) hx hb dL_alike_144 (by decide) (fun c9 => ?_) (fun c9 => ?_)
              · have hq := kite_f c9 hq
                exact b_232 (fn_L_alike_65 q) (q * 12 + 0) (by omega) ih (kc + 1 + 1 + 1 + 1 + 1 + 1) _ _ _ o128.2 o141.2 x2 x4 (by omega) hq hP hD hS (lv_sub hl [0, 1, 2, 4] rfl)
              · have hq := kite_t c9 hq
                refine lv_aload_n hx hb dL_alike_147 rfl (lv_at hl 0 rfl) ?_
                refine lv_iconst (v := 4) hx hb dL_alike_148 (by decide) ?_
                refine lv_iload hx hb dL_alike_149 (lv_at hl 4 rfl) ?_
                refine lv_iload_n hx hb dL_alike_151 rfl (lv_at hl 2 rfl) ?_
                refine lv_iconst (v := 3) hx hb dL_alike_152 (by decide) ?_
                refine lv_irem hx hb dL_alike_153 (by decide) ?_
                refine lv_iconst (v := 0) hx hb dL_alike_154 (by decide) ?_
                obtain ⟨o155, ho155, hq⟩ := kbind hq
                refine kh_Si (k := (kc + 1 + 1 + 1 + 1 + 1 + 1)) (nc := 1) (av := [.ref (u.1 0), .int (4 : Int32), .int x4, .int (krem x2 (3 : Int32)), .int (0 : Int32)]) (rest := []) (ws' := (dkW cI u o155.2 ++ dkW cI v o141.2)) hF hK hG hA (mk_L_call l hst D cI u H.size o128.2 (4 : Int32) x4 (krem x2 (3 : Int32)) (0 : Int32) o155 ho155) (va_cwS 5 hts gL_alike_L_call rfl rfl rfl (by decide +kernel) ⟨Nat.le_of_ble_eq_true rfl, Nat.le_of_ble_eq_true rfl⟩) hP hD hS (kSub_l dkW_fst) rfl hl.1 rfl (Nat.le_of_ble_eq_true rfl) ⟨by show (kc + 1 + 1 + 1 + 1 + 1 + 1) + 1 ≤ 148; omega, by show 6 * (kc + 1 + 1 + 1 + 1 + 1 + 1) + 6 * 1 ≤ 888; omega⟩ dL_alike_155 (fun H locs hP hD hS => ?_)
                refine lv_aload_n hx hb dL_alike_158 rfl (lv_at hl 1 rfl) ?_
                refine lv_iconst (v := 4) hx hb dL_alike_159 (by decide) ?_
                refine lv_iload hx hb dL_alike_160 (lv_at hl 4 rfl) ?_
                refine lv_iload_n hx hb dL_alike_162 rfl (lv_at hl 2 rfl) ?_
                refine lv_iconst (v := 3) hx hb dL_alike_163 (by decide) ?_
                refine lv_irem hx hb dL_alike_164 (by decide) ?_
                refine lv_iconst (v := 0) hx hb dL_alike_165 (by decide) ?_
                obtain ⟨o166, ho166, hq⟩ := kbind hq
                refine kh_Si (k := (kc + 1 + 1 + 1 + 1 + 1 + 1 + 1)) (nc := 1) (av := [.ref (v.1 0), .int (4 : Int32), .int x4, .int (krem x2 (3 : Int32)), .int (0 : Int32)]) (rest := [.int o155.1]) (ws' := (dkW cI u o155.2 ++ dkW cI v o166.2)) hF hK hG hA (mk_L_call l hst D cI v H.size o141.2 (4 : Int32) x4 (krem x2 (3 : Int32)) (0 : Int32) o166 ho166) (va_cwS 5 hts gL_alike_L_call rfl rfl rfl (by decide +kernel) ⟨Nat.le_of_ble_eq_true rfl, Nat.le_of_ble_eq_true rfl⟩) hP hD hS (kSub_r dkW_fst) rfl hl.1 rfl (Nat.le_of_ble_eq_true rfl) ⟨by show (kc + 1 + 1 + 1 + 1 + 1 + 1 + 1) + 1 ≤ 148; omega, by show 6 * (kc + 1 + 1 + 1 + 1 + 1 + 1 + 1) + 6 * 1 ≤ 888; omega⟩ dL_alike_166 (fun H locs hP hD hS => ?_)
                refine lv_icmp_ne (tgt := 232) hx hb dL_alike_169 (by decide) (fun c9 => ?_) (fun c9 => ?_)
                · have hq := kite_f c9 hq
                  exact b_232 (fn_L_alike_65 q) (q * 12 + 0) (by omega) ih (kc + 1 + 1 + 1 + 1 + 1 + 1 + 1 + 1) _ _ _ o155.2 o166.2 x2 x4 (by omega) hq hP hD hS (lv_sub hl [0, 1, 2, 4] rfl)
                · have hq := kite_t c9 hq
                  refine lv_aload_n hx hb dL_alike_172 rfl (lv_at hl 0 rfl) ?_
                  refine lv_iconst (v := 5) hx hb dL_alike_173 (by decide) ?_
                  refine lv_iconst (v := 2) hx hb dL_alike_174 (by decide) ?_
                  refine lv_iload hx hb dL_alike_175 (lv_at hl 4 rfl) ?_
                  refine lv_imul hx hb dL_alike_177 ?_
                  refine lv_iload_n hx hb dL_alike_178 rfl (lv_at hl 2 rfl) ?_
                  refine lv_iconst (v := 2) hx hb dL_alike_179 (by decide) ?_
                  refine lv_irem hx hb dL_alike_180 (by decide) ?_
                  refine lv_iadd hx hb dL_alike_181 ?_
                  refine lv_iconst (v := 0) hx hb dL_alike_182 (by decide) ?_
                  refine lv_iconst (v := 0) hx hb dL_alike_183 (by decide) ?_
                  obtain ⟨o184, ho184, hq⟩ := kbind hq
                  refine kh_Si (k := (kc + 1 + 1 + 1 + 1 + 1 + 1 + 1 + 1)) (nc := 1) (av := [.ref (u.1 0), .int (5 : Int32), .int (((2 : Int32) * x4) + (krem x2 (2 : Int32))), .int (0 : Int32), .int (0 : Int32)]) (rest := []) (ws' := (dkW cI u o184.2 ++ dkW cI v o166.2)) hF hK hG hA (mk_L_call l hst D cI u H.size o155.2 (5 : Int32) (((2 : Int32) * x4) + (krem x2 (2 : Int32))) (0 : Int32) (0 : Int32) o184 ho184) (va_cwS 5 hts gL_alike_L_call rfl rfl rfl (by decide +kernel) ⟨Nat.le_of_ble_eq_true rfl, Nat.le_of_ble_eq_true rfl⟩) hP hD hS (kSub_l dkW_fst) rfl hl.1 rfl (Nat.le_of_ble_eq_true rfl) ⟨by show (kc + 1 + 1 + 1 + 1 + 1 + 1 + 1 + 1) + 1 ≤ 148; omega, by show 6 * (kc + 1 + 1 + 1 + 1 + 1 + 1 + 1 + 1) + 6 * 1 ≤ 888; omega⟩ dL_alike_184 (fun H locs hP hD hS => ?_)
                  refine lv_aload_n hx hb dL_alike_187 rfl (lv_at hl 1 rfl) ?_
                  refine lv_iconst (v := 5) hx hb dL_alike_188 (by decide) ?_
                  refine lv_iconst (v := 2) hx hb dL_alike_189 (by decide) ?_
                  refine lv_iload hx hb dL_alike_190 (lv_at hl 4 rfl) ?_
                  refine lv_imul hx hb dL_alike_192 ?_
                  refine lv_iload_n hx hb dL_alike_193 rfl (lv_at hl 2 rfl) ?_
                  refine lv_iconst (v := 2) hx hb dL_alike_194 (by decide) ?_
                  refine lv_irem hx hb dL_alike_195 (by decide) ?_
                  refine lv_iadd hx hb dL_alike_196 ?_
                  refine lv_iconst (v := 0) hx hb dL_alike_197 (by decide) ?_
                  refine lv_iconst (v := 0) hx hb dL_alike_198 (by decide) ?_
                  obtain ⟨o199, ho199, hq⟩ := kbind hq
                  refine kh_Si (k := (kc + 1 + 1 + 1 + 1 + 1 + 1 + 1 + 1 + 1)) (nc := 1) (av := [.ref (v.1 0), .int (5 : Int32), .int (((2 : Int32) * x4) + (krem x2 (2 : Int32))), .int (0 : Int32), .int (0 : Int32)]) (rest := [.int o184.1]) (ws' := (dkW cI u o184.2 ++ dkW cI v o199.2)) hF hK hG hA (mk_L_call l hst D cI v H.size o166.2 (5 : Int32) (((2 : Int32) * x4) + (krem x2 (2 : Int32))) (0 : Int32) (0 : Int32) o199 ho199) (va_cwS 5 hts gL_alike_L_call rfl rfl rfl (by decide +kernel) ⟨Nat.le_of_ble_eq_true rfl, Nat.le_of_ble_eq_true rfl⟩) hP hD hS (kSub_r dkW_fst) rfl hl.1 rfl (Nat.le_of_ble_eq_true rfl) ⟨by show (kc + 1 + 1 + 1 + 1 + 1 + 1 + 1 + 1 + 1) + 1 ≤ 148; omega, by show 6 * (kc + 1 + 1 + 1 + 1 + 1 + 1 + 1 + 1 + 1) + 6 * 1 ≤ 888; omega⟩ dL_alike_199 (fun H locs hP hD hS => ?_)
                  refine lv_icmp_ne (tgt := 232) hx hb dL_alike_202 (by decide) (fun c9 => ?_) (fun c9 => ?_)
                  · have hq := kite_f c9 hq
                    exact b_232 (fn_L_alike_65 q) (q * 12 + 0) (by omega) ih (kc + 1 + 1 + 1 + 1 + 1 + 1 + 1 + 1 + 1 + 1) _ _ _ o184.2 o199.2 x2 x4 (by omega) hq hP hD hS (lv_sub hl [0, 1, 2, 4] rfl)
                  · have hq := kite_t c9 hq
                    refine lv_aload_n hx hb dL_alike_205 rfl (lv_at hl 0 rfl) ?_
                    refine lv_bipush (v := 6) hx hb dL_alike_206 (by decide) ?_
                    refine lv_iload hx hb dL_alike_208 (lv_at hl 4 rfl) ?_
                    refine lv_iconst (v := 0) hx hb dL_alike_210 (by decide) ?_
                    refine lv_iconst (v := 0) hx hb dL_alike_211 (by decide) ?_
                    obtain ⟨o212, ho212, hq⟩ := kbind hq
                    refine kh_Si (k := (kc + 1 + 1 + 1 + 1 + 1 + 1 + 1 + 1 + 1 + 1)) (nc := 1) (av := [.ref (u.1 0), .int (6 : Int32), .int x4, .int (0 : Int32), .int (0 : Int32)]) (rest := []) (ws' := (dkW cI u o212.2 ++ dkW cI v o199.2)) hF hK hG hA (mk_L_call l hst D cI u H.size o184.2 (6 : Int32) x4 (0 : Int32) (0 : Int32) o212 ho212) (va_cwS 5 hts gL_alike_L_call rfl rfl rfl (by decide +kernel) ⟨Nat.le_of_ble_eq_true rfl, Nat.le_of_ble_eq_true rfl⟩) hP hD hS (kSub_l dkW_fst) rfl hl.1 rfl (Nat.le_of_ble_eq_true rfl) ⟨by show (kc + 1 + 1 + 1 + 1 + 1 + 1 + 1 + 1 + 1 + 1) + 1 ≤ 148; omega, by show 6 * (kc + 1 + 1 + 1 + 1 + 1 + 1 + 1 + 1 + 1 + 1) + 6 * 1 ≤ 888; omega⟩ dL_alike_212 (fun H locs hP hD hS => ?_)
                    refine lv_aload_n hx hb dL_alike_215 rfl (lv_at hl 1 rfl) ?_
                    refine lv_bipush (v := 6) hx hb dL_alike_216 (by decide) ?_
                    refine lv_iload hx hb dL_alike_218 (lv_at hl 4 rfl) ?_
                    refine lv_iconst (v := 0) hx hb dL_alike_220 (by decide) ?_
                    refine lv_iconst (v := 0) hx hb dL_alike_221 (by decide) ?_
                    obtain ⟨o222, ho222, hq⟩ := kbind hq
                    refine kh_Si (k := (kc + 1 + 1 + 1 + 1 + 1 + 1 + 1 + 1 + 1 + 1 + 1)) (nc := 1) (av := [.ref (v.1 0), .int (6 : Int32), .int x4, .int (0 : Int32), .int (0 : Int32)]) (rest := [.int o212.1]) (ws' := (dkW cI u o212.2 ++ dkW cI v o222.2)) hF hK hG hA (mk_L_call l hst D cI v H.size o199.2 (6 : Int32) x4 (0 : Int32) (0 : Int32) o222 ho222) (va_cwS 5 hts gL_alike_L_call rfl rfl rfl (by decide +kernel) ⟨Nat.le_of_ble_eq_true rfl, Nat.le_of_ble_eq_true rfl⟩) hP hD hS (kSub_r dkW_fst) rfl hl.1 rfl (Nat.le_of_ble_eq_true rfl) ⟨by show (kc + 1 + 1 + 1 + 1 + 1 + 1 + 1 + 1 + 1 + 1 + 1) + 1 ≤ 148; omega, by show 6 * (kc + 1 + 1 + 1 + 1 + 1 + 1 + 1 + 1 + 1 + 1 + 1) + 6 * 1 ≤ 888; omega⟩ dL_alike_222 (fun H locs hP hD hS => ?_)
                    refine lv_icmp_ne (tgt := 232) hx hb dL_alike_225 (by decide) (fun c9 => ?_) (fun c9 => ?_)
                    · have hq := kite_f c9 hq
                      exact b_232 (fn_L_alike_65 q) (q * 12 + 0) (by omega) ih (kc + 1 + 1 + 1 + 1 + 1 + 1 + 1 + 1 + 1 + 1 + 1 + 1) _ _ _ o212.2 o222.2 x2 x4 (by omega) hq hP hD hS (lv_sub hl [0, 1, 2, 4] rfl)
                    · have hq := kite_t c9 hq
                      refine lv_iconst (v := 1) hx hb dL_alike_228 (by decide) ?_
                      refine lv_goto (tgt := 233) hx hb dL_alike_229 (by decide) ?_
                      exact b_233 (fn_L_alike_65 q) (q * 12 + 0) (by omega) ih (kc + 1 + 1 + 1 + 1 + 1 + 1 + 1 + 1 + 1 + 1 + 1 + 1) _ _ _ o212.2 o222.2 x2 x4 (1 : Int32) (by omega) hq hP hD hS (lv_sub hl [0, 1, 2, 4] rfl)
  have b_61 : ∀ (kc : Nat) (H : Heap) (locs : List Loc) (ls : Array Slot) (d : kDk) (z : kDk) (x2 : Int32) (k0 : Int32), kc + 144 ≤ 148 → fn_L_alike_61 d z x2 k0 = some o → va_P D vwCl (dkW cI u d ++ dkW cI v z) H → va_D A (dkW cI u d ++ dkW cI v z) → va_S A s.heap H locs → lv_has ls 5 [(0, .ref (u.1 0)), (1, .ref (v.1 0)), (2, .int x2)] → W p l e ({ frames := 9, cells := 148, slots := 888, locals := 217 }) s m args below meth c H locs kc (6 * kc) Q (F0 m 61 ls [.int k0]) := by
    intro kc H locs ls d z x2 k0
    intro hkc hq hP hD hS hl
    refine lv_istore_n (lv' := [(3, .int k0), (0, .ref (u.1 0)), (1, .ref (v.1 0)), (2, .int x2)]) hx hb dL_alike_61 rfl hl (by decide) rfl (fun ls hl => ?_)
    refine lv_iconst (v := 0) hx hb dL_alike_62 (by decide) ?_
    refine lv_istore (lv' := [(4, .int (0 : Int32)), (3, .int k0), (0, .ref (u.1 0)), (1, .ref (v.1 0)), (2, .int x2)]) hx hb dL_alike_63 hl (by decide) rfl (fun ls hl => ?_)
    exact b_65 12 kc _ _ _ d z x2 k0 (0 : Int32) (by omega) hq hP hD hS (lv_sub hl [2, 3, 4, 1, 0] rfl)
  have b_60 : ∀ (kc : Nat) (H : Heap) (locs : List Loc) (ls : Array Slot) (d : kDk) (z : kDk) (x2 : Int32), kc + 144 ≤ 148 → fn_L_alike_60 d z x2 = some o → va_P D vwCl (dkW cI u d ++ dkW cI v z) H → va_D A (dkW cI u d ++ dkW cI v z) → va_S A s.heap H locs → lv_has ls 5 [(0, .ref (u.1 0)), (1, .ref (v.1 0)), (2, .int x2)] → W p l e ({ frames := 9, cells := 148, slots := 888, locals := 217 }) s m args below meth c H locs kc (6 * kc) Q (F0 m 60 ls []) := by
    intro kc H locs ls d z x2
    intro hkc hq hP hD hS hl
    refine lv_iconst (v := 0) hx hb dL_alike_60 (by decide) ?_
    exact b_61  kc _ _ _ d z x2 (0 : Int32) (by omega) hq hP hD hS (lv_sub hl [0, 1, 2] rfl)
  refine lv_aload_n hx hb dL_alike_0 rfl (lv_at hl 0 rfl) ?_
  refine lv_iload_n hx hb dL_alike_1 rfl (lv_at hl 2 rfl) ?_
  refine lv_i2l (v := (x2).toInt64) hx hb dL_alike_2 rfl ?_
  refine lv_iconst (v := 1) hx hb dL_alike_3 (by decide) ?_
  refine lv_iload_n hx hb dL_alike_4 rfl (lv_at hl 2 rfl) ?_
  refine lv_bipush (v := 30) hx hb dL_alike_5 (by decide) ?_
  refine lv_irem hx hb dL_alike_7 (by decide) ?_
  refine lv_iadd hx hb dL_alike_8 ?_
  obtain ⟨o9, ho9, hq⟩ := kbind hq
  refine kh_Wi (k := 0) (nc := 1) (av := [.ref (u.1 0), .long ((x2).toInt64), .int ((1 : Int32) + (krem x2 (30 : Int32)))]) (rest := []) (ws' := (dkW cI u o9.2 ++ dkW cI v z)) hF hK hG hA (bm_doSimulate l hst D cI u s.heap.size d ((x2).toInt64) ((1 : Int32) + (krem x2 (30 : Int32))) o9 ho9) (vx_cwSW 3 hts gL_alike_L_doSimulate rfl rfl rfl (by decide +kernel) ⟨Nat.le_of_ble_eq_true rfl, Nat.le_of_ble_eq_true rfl⟩) hP hD hS (kSub_l dkW_fst) rfl hl.1 rfl (Nat.le_of_ble_eq_true rfl) ⟨by show 0 + 1 ≤ 148; omega, by show 6 * 0 + 6 * 1 ≤ 888; omega⟩ dL_alike_9 (fun H locs hP hD hS => ?_)
  refine lv_aload_n hx hb dL_alike_12 rfl (lv_at hl 1 rfl) ?_
  refine lv_iload_n hx hb dL_alike_13 rfl (lv_at hl 2 rfl) ?_
  refine lv_i2l (v := (x2).toInt64) hx hb dL_alike_14 rfl ?_
  refine lv_iconst (v := 1) hx hb dL_alike_15 (by decide) ?_
  refine lv_iload_n hx hb dL_alike_16 rfl (lv_at hl 2 rfl) ?_
  refine lv_bipush (v := 30) hx hb dL_alike_17 (by decide) ?_
  refine lv_irem hx hb dL_alike_19 (by decide) ?_
  refine lv_iadd hx hb dL_alike_20 ?_
  obtain ⟨o21, ho21, hq⟩ := kbind hq
  refine kh_Wi (k := (0 + 1)) (nc := 1) (av := [.ref (v.1 0), .long ((x2).toInt64), .int ((1 : Int32) + (krem x2 (30 : Int32)))]) (rest := [.int o9.1]) (ws' := (dkW cI u o9.2 ++ dkW cI v o21.2)) hF hK hG hA (bm_doSimulate l hst D cI v H.size z ((x2).toInt64) ((1 : Int32) + (krem x2 (30 : Int32))) o21 ho21) (vx_cwSW 3 hts gL_alike_L_doSimulate rfl rfl rfl (by decide +kernel) ⟨Nat.le_of_ble_eq_true rfl, Nat.le_of_ble_eq_true rfl⟩) hP hD hS (kSub_r dkW_fst) rfl hl.1 rfl (Nat.le_of_ble_eq_true rfl) ⟨by show (0 + 1) + 1 ≤ 148; omega, by show 6 * (0 + 1) + 6 * 1 ≤ 888; omega⟩ dL_alike_21 (fun H locs hP hD hS => ?_)
  refine lv_icmp_ne (tgt := 60) hx hb dL_alike_24 (by decide) (fun c9 => ?_) (fun c9 => ?_)
  · have hq := kite_f c9 hq
    exact b_60  (0 + 1 + 1) _ _ _ o9.2 o21.2 x2 (by omega) hq hP hD hS (lv_sub hl [0, 1, 2] rfl)
  · have hq := kite_t c9 hq
    refine lv_aload_n hx hb dL_alike_27 rfl (lv_at hl 0 rfl) ?_
    refine lv_bipush (v := 11) hx hb dL_alike_28 (by decide) ?_
    refine lv_iload_n hx hb dL_alike_30 rfl (lv_at hl 2 rfl) ?_
    refine lv_iconst (v := 5) hx hb dL_alike_31 (by decide) ?_
    refine lv_irem hx hb dL_alike_32 (by decide) ?_
    refine lv_iconst (v := 2) hx hb dL_alike_33 (by decide) ?_
    refine lv_isub hx hb dL_alike_34 ?_
    refine lv_iconst (v := 0) hx hb dL_alike_35 (by decide) ?_
    refine lv_iconst (v := 0) hx hb dL_alike_36 (by decide) ?_
    obtain ⟨o37, ho37, hq⟩ := kbind hq
    refine kh_Si (k := (0 + 1 + 1)) (nc := 1) (av := [.ref (u.1 0), .int (11 : Int32), .int ((krem x2 (5 : Int32)) - (2 : Int32)), .int (0 : Int32), .int (0 : Int32)]) (rest := []) (ws' := (dkW cI u o37.2 ++ dkW cI v o21.2)) hF hK hG hA (mk_L_call l hst D cI u H.size o9.2 (11 : Int32) ((krem x2 (5 : Int32)) - (2 : Int32)) (0 : Int32) (0 : Int32) o37 ho37) (va_cwS 5 hts gL_alike_L_call rfl rfl rfl (by decide +kernel) ⟨Nat.le_of_ble_eq_true rfl, Nat.le_of_ble_eq_true rfl⟩) hP hD hS (kSub_l dkW_fst) rfl hl.1 rfl (Nat.le_of_ble_eq_true rfl) ⟨by show (0 + 1 + 1) + 1 ≤ 148; omega, by show 6 * (0 + 1 + 1) + 6 * 1 ≤ 888; omega⟩ dL_alike_37 (fun H locs hP hD hS => ?_)
    refine lv_aload_n hx hb dL_alike_40 rfl (lv_at hl 1 rfl) ?_
    refine lv_bipush (v := 11) hx hb dL_alike_41 (by decide) ?_
    refine lv_iload_n hx hb dL_alike_43 rfl (lv_at hl 2 rfl) ?_
    refine lv_iconst (v := 5) hx hb dL_alike_44 (by decide) ?_
    refine lv_irem hx hb dL_alike_45 (by decide) ?_
    refine lv_iconst (v := 2) hx hb dL_alike_46 (by decide) ?_
    refine lv_isub hx hb dL_alike_47 ?_
    refine lv_iconst (v := 0) hx hb dL_alike_48 (by decide) ?_
    refine lv_iconst (v := 0) hx hb dL_alike_49 (by decide) ?_
    obtain ⟨o50, ho50, hq⟩ := kbind hq
    refine kh_Si (k := (0 + 1 + 1 + 1)) (nc := 1) (av := [.ref (v.1 0), .int (11 : Int32), .int ((krem x2 (5 : Int32)) - (2 : Int32)), .int (0 : Int32), .int (0 : Int32)]) (rest := [.int o37.1]) (ws' := (dkW cI u o37.2 ++ dkW cI v o50.2)) hF hK hG hA (mk_L_call l hst D cI v H.size o21.2 (11 : Int32) ((krem x2 (5 : Int32)) - (2 : Int32)) (0 : Int32) (0 : Int32) o50 ho50) (va_cwS 5 hts gL_alike_L_call rfl rfl rfl (by decide +kernel) ⟨Nat.le_of_ble_eq_true rfl, Nat.le_of_ble_eq_true rfl⟩) hP hD hS (kSub_r dkW_fst) rfl hl.1 rfl (Nat.le_of_ble_eq_true rfl) ⟨by show (0 + 1 + 1 + 1) + 1 ≤ 148; omega, by show 6 * (0 + 1 + 1 + 1) + 6 * 1 ≤ 888; omega⟩ dL_alike_50 (fun H locs hP hD hS => ?_)
    refine lv_icmp_ne (tgt := 60) hx hb dL_alike_53 (by decide) (fun c9 => ?_) (fun c9 => ?_)
    · have hq := kite_f c9 hq
      exact b_60  (0 + 1 + 1 + 1 + 1) _ _ _ o37.2 o50.2 x2 (by omega) hq hP hD hS (lv_sub hl [0, 1, 2] rfl)
    · have hq := kite_t c9 hq
      refine lv_iconst (v := 1) hx hb dL_alike_56 (by decide) ?_
      refine lv_goto (tgt := 61) hx hb dL_alike_57 (by decide) ?_
      exact b_61  (0 + 1 + 1 + 1 + 1) _ _ _ o37.2 o50.2 x2 (1 : Int32) (by omega) hq hP hD hS (lv_sub hl [0, 1, 2] rfl)

