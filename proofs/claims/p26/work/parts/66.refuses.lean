/-! refuses (written by wip/p26/gen/gen26.py) -/
set_option maxHeartbeats 8000000 in
set_option maxRecDepth 100000 in
theorem mk_L_refuses (l : Launch) (hst : l.stackTraces = false) (D : va_G) (cI : Nat → ClassId) (u : kHad) (sz : Nat) (d : kDk) (x1 : Int32) (o : Int32 × kDk) (hq : fn_L_refuses d x1 = some o) : Met l yL_refuses wsL_refuses ({ frames := 9, cells := 29, slots := 174, locals := 217 }) (kPc D cI (dkW cI u d) sz [.ref (u.1 0), .int x1]) (kQi D (dkW cI u d) (dkW cI u o.2) sz o.1) 29 174 (va_A (dkW cI u d) sz) := by
  refine kM_hz (nc := 29) (cc := cL_refuses) (maxL := 4) (by decide +kernel) rfl (Nat.le_of_ble_eq_true rfl) ?_
  intro p e s m args below meth c A Q hF hK hG hD hA hend ls hP hS hl
  obtain ⟨hx, hb, hml, hown, hts⟩ := id hF
  have hl : lv_has ls 4 [(0, .ref (u.1 0)), (1, .int x1)] := hl
  have b_585 : ∀ (kc : Nat) (H : Heap) (locs : List Loc) (ls : Array Slot) (d : kDk) (k0 : Int32), kc + 0 ≤ 29 → fn_L_refuses_585 d k0 = some o → va_P D vwCl (dkW cI u d) H → va_D A (dkW cI u d) → va_S A s.heap H locs → lv_has ls 4 [] → W p l e ({ frames := 9, cells := 29, slots := 174, locals := 217 }) s m args below meth c H locs kc (6 * kc) Q (F0 m 585 ls [.int k0]) := by
    intro kc H locs ls d k0
    intro hkc hq hP hD hS hl
    obtain ⟨hz, hq⟩ := kite_b hq
    have ho := Option.some.inj hq
    subst ho
    refine W.widen (k := 29) (n := 6 * 29) (by omega) (by omega) ?_
    exact hend _ _ _ _ hz hP hS dL_refuses_585
  have b_584 : ∀ (kc : Nat) (H : Heap) (locs : List Loc) (ls : Array Slot) (d : kDk), kc + 0 ≤ 29 → fn_L_refuses_584 d = some o → va_P D vwCl (dkW cI u d) H → va_D A (dkW cI u d) → va_S A s.heap H locs → lv_has ls 4 [] → W p l e ({ frames := 9, cells := 29, slots := 174, locals := 217 }) s m args below meth c H locs kc (6 * kc) Q (F0 m 584 ls []) := by
    intro kc H locs ls d
    intro hkc hq hP hD hS hl
    refine lv_iconst (v := 0) hx hb dL_refuses_584 (by decide) ?_
    exact b_585  kc _ _ _ d (0 : Int32) (by omega) hq hP hD hS (lv_sub hl [] rfl)
  have b_71 : ∀ (kc : Nat) (H : Heap) (locs : List Loc) (ls : Array Slot) (d : kDk) (x1 : Int32) (x2 : Int32) (x3 : Int32) (k1 : Int32) (k2 : Int32), kc + 29 ≤ 29 → fn_L_refuses_71 d x1 x2 x3 k1 k2 = some o → va_P D vwCl (dkW cI u d) H → va_D A (dkW cI u d) → va_S A s.heap H locs → lv_has ls 4 [(0, .ref (u.1 0)), (1, .int x1), (2, .int x2), (3, .int x3)] → W p l e ({ frames := 9, cells := 29, slots := 174, locals := 217 }) s m args below meth c H locs kc (6 * kc) Q (F0 m 71 ls [.int k2, .int k1, .ref (u.1 0)]) := by
    intro kc H locs ls d x1 x2 x3 k1 k2
    intro hkc hq hP hD hS hl
    refine lv_iconst (v := 0) hx hb dL_refuses_71 (by decide) ?_
    refine lv_iconst (v := 0) hx hb dL_refuses_72 (by decide) ?_
    obtain ⟨o73, ho73, hq⟩ := kbind hq
    refine kh_Si (k := kc) (nc := 1) (av := [.ref (u.1 0), .int k1, .int k2, .int (0 : Int32), .int (0 : Int32)]) (rest := []) (ws' := (dkW cI u o73.2)) hF hK hG hA (mk_L_call l hst D cI u H.size d k1 k2 (0 : Int32) (0 : Int32) o73 ho73) (va_cwS 5 hts gL_refuses_L_call rfl rfl rfl (by decide +kernel) ⟨Nat.le_of_ble_eq_true rfl, Nat.le_of_ble_eq_true rfl⟩) hP hD hS (kSub_all dkW_fst) rfl hl.1 rfl (Nat.le_of_ble_eq_true rfl) ⟨by show kc + 1 ≤ 29; omega, by show 6 * kc + 6 * 1 ≤ 174; omega⟩ dL_refuses_73 (fun H locs hP hD hS => ?_)
    refine lv_ldc (v := (-9999002)) hx hb hown (hts (.constant RL 15 (-9999002 : Int32)) (by decide +kernel)) dL_refuses_76 ?_
    refine lv_icmp_ne (tgt := 584) hx hb dL_refuses_78 (by decide) (fun c9 => ?_) (fun c9 => ?_)
    · have hq := kite_f c9 hq
      exact b_584  (kc + 1) _ _ _ o73.2 (by omega) hq hP hD hS (lv_sub hl [] rfl)
    · have hq := kite_t c9 hq
      refine lv_aload_n hx hb dL_refuses_81 rfl (lv_at hl 0 rfl) ?_
      refine lv_iconst (v := 2) hx hb dL_refuses_82 (by decide) ?_
      refine lv_bipush (v := 10) hx hb dL_refuses_83 (by decide) ?_
      refine lv_iload_n hx hb dL_refuses_85 rfl (lv_at hl 1 rfl) ?_
      refine lv_bipush (v := 50) hx hb dL_refuses_86 (by decide) ?_
      refine lv_irem hx hb dL_refuses_88 (by decide) ?_
      refine lv_iadd hx hb dL_refuses_89 ?_
      refine lv_iconst (v := 0) hx hb dL_refuses_90 (by decide) ?_
      refine lv_iconst (v := 0) hx hb dL_refuses_91 (by decide) ?_
      obtain ⟨o92, ho92, hq⟩ := kbind hq
      refine kh_Si (k := (kc + 1)) (nc := 1) (av := [.ref (u.1 0), .int (2 : Int32), .int ((10 : Int32) + (krem x1 (50 : Int32))), .int (0 : Int32), .int (0 : Int32)]) (rest := []) (ws' := (dkW cI u o92.2)) hF hK hG hA (mk_L_call l hst D cI u H.size o73.2 (2 : Int32) ((10 : Int32) + (krem x1 (50 : Int32))) (0 : Int32) (0 : Int32) o92 ho92) (va_cwS 5 hts gL_refuses_L_call rfl rfl rfl (by decide +kernel) ⟨Nat.le_of_ble_eq_true rfl, Nat.le_of_ble_eq_true rfl⟩) hP hD hS (kSub_all dkW_fst) rfl hl.1 rfl (Nat.le_of_ble_eq_true rfl) ⟨by show (kc + 1) + 1 ≤ 29; omega, by show 6 * (kc + 1) + 6 * 1 ≤ 174; omega⟩ dL_refuses_92 (fun H locs hP hD hS => ?_)
      refine lv_ldc (v := (-9999002)) hx hb hown (hts (.constant RL 15 (-9999002 : Int32)) (by decide +kernel)) dL_refuses_95 ?_
      refine lv_icmp_ne (tgt := 584) hx hb dL_refuses_97 (by decide) (fun c9 => ?_) (fun c9 => ?_)
      · have hq := kite_f c9 hq
        exact b_584  (kc + 1 + 1) _ _ _ o92.2 (by omega) hq hP hD hS (lv_sub hl [] rfl)
      · have hq := kite_t c9 hq
        refine lv_aload_n hx hb dL_refuses_100 rfl (lv_at hl 0 rfl) ?_
        refine lv_iconst (v := 3) hx hb dL_refuses_101 (by decide) ?_
        refine lv_iload_n hx hb dL_refuses_102 rfl (lv_at hl 2 rfl) ?_
        refine lv_bipush (v := 9) hx hb dL_refuses_103 (by decide) ?_
        refine lv_iconst (v := 0) hx hb dL_refuses_105 (by decide) ?_
        obtain ⟨o106, ho106, hq⟩ := kbind hq
        refine kh_Si (k := (kc + 1 + 1)) (nc := 1) (av := [.ref (u.1 0), .int (3 : Int32), .int x2, .int (9 : Int32), .int (0 : Int32)]) (rest := []) (ws' := (dkW cI u o106.2)) hF hK hG hA (mk_L_call l hst D cI u H.size o92.2 (3 : Int32) x2 (9 : Int32) (0 : Int32) o106 ho106) (va_cwS 5 hts gL_refuses_L_call rfl rfl rfl (by decide +kernel) ⟨Nat.le_of_ble_eq_true rfl, Nat.le_of_ble_eq_true rfl⟩) hP hD hS (kSub_all dkW_fst) rfl hl.1 rfl (Nat.le_of_ble_eq_true rfl) ⟨by show (kc + 1 + 1) + 1 ≤ 29; omega, by show 6 * (kc + 1 + 1) + 6 * 1 ≤ 174; omega⟩ dL_refuses_106 (fun H locs hP hD hS => ?_)
        refine lv_ldc (v := (-9999001)) hx hb hown (hts (.constant RL 44 (-9999001 : Int32)) (by decide +kernel)) dL_refuses_109 ?_
        refine lv_icmp_ne (tgt := 584) hx hb dL_refuses_111 (by decide) (fun c9 => ?_) (fun c9 => ?_)
        · have hq := kite_f c9 hq
          exact b_584  (kc + 1 + 1 + 1) _ _ _ o106.2 (by omega) hq hP hD hS (lv_sub hl [] rfl)
        · have hq := kite_t c9 hq
          refine lv_aload_n hx hb dL_refuses_114 rfl (lv_at hl 0 rfl) ?_
          refine lv_iconst (v := 3) hx hb dL_refuses_115 (by decide) ?_
          refine lv_iload_n hx hb dL_refuses_116 rfl (lv_at hl 1 rfl) ?_
          refine lv_bipush (v := 10) hx hb dL_refuses_117 (by decide) ?_
          refine lv_irem hx hb dL_refuses_119 (by decide) ?_
          refine lv_iconst (v := 4) hx hb dL_refuses_120 (by decide) ?_
          refine lv_iload_n hx hb dL_refuses_121 rfl (lv_at hl 1 rfl) ?_
          refine lv_bipush (v := 9) hx hb dL_refuses_122 (by decide) ?_
          refine lv_irem hx hb dL_refuses_124 (by decide) ?_
          refine lv_iadd hx hb dL_refuses_125 ?_
          refine lv_iconst (v := 0) hx hb dL_refuses_126 (by decide) ?_
          obtain ⟨o127, ho127, hq⟩ := kbind hq
          refine kh_Si (k := (kc + 1 + 1 + 1)) (nc := 1) (av := [.ref (u.1 0), .int (3 : Int32), .int (krem x1 (10 : Int32)), .int ((4 : Int32) + (krem x1 (9 : Int32))), .int (0 : Int32)]) (rest := []) (ws' := (dkW cI u o127.2)) hF hK hG hA (mk_L_call l hst D cI u H.size o106.2 (3 : Int32) (krem x1 (10 : Int32)) ((4 : Int32) + (krem x1 (9 : Int32))) (0 : Int32) o127 ho127) (va_cwS 5 hts gL_refuses_L_call rfl rfl rfl (by decide +kernel) ⟨Nat.le_of_ble_eq_true rfl, Nat.le_of_ble_eq_true rfl⟩) hP hD hS (kSub_all dkW_fst) rfl hl.1 rfl (Nat.le_of_ble_eq_true rfl) ⟨by show (kc + 1 + 1 + 1) + 1 ≤ 29; omega, by show 6 * (kc + 1 + 1 + 1) + 6 * 1 ≤ 174; omega⟩ dL_refuses_127 (fun H locs hP hD hS => ?_)
          refine lv_ldc (v := (-9999002)) hx hb hown (hts (.constant RL 15 (-9999002 : Int32)) (by decide +kernel)) dL_refuses_130 ?_
          refine lv_icmp_ne (tgt := 584) hx hb dL_refuses_132 (by decide) (fun c9 => ?_) (fun c9 => ?_)
          · have hq := kite_f c9 hq
            exact b_584  (kc + 1 + 1 + 1 + 1) _ _ _ o127.2 (by omega) hq hP hD hS (lv_sub hl [] rfl)
          · have hq := kite_t c9 hq
            refine lv_aload_n hx hb dL_refuses_135 rfl (lv_at hl 0 rfl) ?_
            refine lv_iconst (v := 4) hx hb dL_refuses_136 (by decide) ?_
            refine lv_iload_n hx hb dL_refuses_137 rfl (lv_at hl 2 rfl) ?_
            refine lv_bipush (v := 9) hx hb dL_refuses_138 (by decide) ?_
            refine lv_iconst (v := 0) hx hb dL_refuses_140 (by decide) ?_
            obtain ⟨o141, ho141, hq⟩ := kbind hq
            refine kh_Si (k := (kc + 1 + 1 + 1 + 1)) (nc := 1) (av := [.ref (u.1 0), .int (4 : Int32), .int x2, .int (9 : Int32), .int (0 : Int32)]) (rest := []) (ws' := (dkW cI u o141.2)) hF hK hG hA (mk_L_call l hst D cI u H.size o127.2 (4 : Int32) x2 (9 : Int32) (0 : Int32) o141 ho141) (va_cwS 5 hts gL_refuses_L_call rfl rfl rfl (by decide +kernel) ⟨Nat.le_of_ble_eq_true rfl, Nat.le_of_ble_eq_true rfl⟩) hP hD hS (kSub_all dkW_fst) rfl hl.1 rfl (Nat.le_of_ble_eq_true rfl) ⟨by show (kc + 1 + 1 + 1 + 1) + 1 ≤ 29; omega, by show 6 * (kc + 1 + 1 + 1 + 1) + 6 * 1 ≤ 174; omega⟩ dL_refuses_141 (fun H locs hP hD hS => ?_)
            refine lv_ldc (v := (-9999001)) hx hb hown (hts (.constant RL 44 (-9999001 : Int32)) (by decide +kernel)) dL_refuses_144 ?_
            refine lv_icmp_ne (tgt := 584) hx hb dL_refuses_146 (by decide) (fun c9 => ?_) (fun c9 => ?_)
            · have hq := kite_f c9 hq
              exact b_584  (kc + 1 + 1 + 1 + 1 + 1) _ _ _ o141.2 (by omega) hq hP hD hS (lv_sub hl [] rfl)
            · have hq := kite_t c9 hq
              refine lv_aload_n hx hb dL_refuses_149 rfl (lv_at hl 0 rfl) ?_
              refine lv_iconst (v := 4) hx hb dL_refuses_150 (by decide) ?_
              refine lv_iload_n hx hb dL_refuses_151 rfl (lv_at hl 1 rfl) ?_
              refine lv_bipush (v := 10) hx hb dL_refuses_152 (by decide) ?_
              refine lv_irem hx hb dL_refuses_154 (by decide) ?_
              refine lv_iconst (v := 3) hx hb dL_refuses_155 (by decide) ?_
              refine lv_iload_n hx hb dL_refuses_156 rfl (lv_at hl 1 rfl) ?_
              refine lv_bipush (v := 9) hx hb dL_refuses_157 (by decide) ?_
              refine lv_irem hx hb dL_refuses_159 (by decide) ?_
              refine lv_iadd hx hb dL_refuses_160 ?_
              refine lv_iconst (v := 0) hx hb dL_refuses_161 (by decide) ?_
              obtain ⟨o162, ho162, hq⟩ := kbind hq
              refine kh_Si (k := (kc + 1 + 1 + 1 + 1 + 1)) (nc := 1) (av := [.ref (u.1 0), .int (4 : Int32), .int (krem x1 (10 : Int32)), .int ((3 : Int32) + (krem x1 (9 : Int32))), .int (0 : Int32)]) (rest := []) (ws' := (dkW cI u o162.2)) hF hK hG hA (mk_L_call l hst D cI u H.size o141.2 (4 : Int32) (krem x1 (10 : Int32)) ((3 : Int32) + (krem x1 (9 : Int32))) (0 : Int32) o162 ho162) (va_cwS 5 hts gL_refuses_L_call rfl rfl rfl (by decide +kernel) ⟨Nat.le_of_ble_eq_true rfl, Nat.le_of_ble_eq_true rfl⟩) hP hD hS (kSub_all dkW_fst) rfl hl.1 rfl (Nat.le_of_ble_eq_true rfl) ⟨by show (kc + 1 + 1 + 1 + 1 + 1) + 1 ≤ 29; omega, by show 6 * (kc + 1 + 1 + 1 + 1 + 1) + 6 * 1 ≤ 174; omega⟩ dL_refuses_162 (fun H locs hP hD hS => ?_)
              refine lv_ldc (v := (-9999002)) hx hb hown (hts (.constant RL 15 (-9999002 : Int32)) (by decide +kernel)) dL_refuses_165 ?_
              refine lv_icmp_ne (tgt := 584) hx hb dL_refuses_167 (by decide) (fun c9 => ?_) (fun c9 => ?_)
              · have hq := kite_f c9 hq
                exact b_584  (kc + 1 + 1 + 1 + 1 + 1 + 1) _ _ _ o162.2 (by omega) hq hP hD hS (lv_sub hl [] rfl)
              · have hq := kite_t c9 hq
                refine lv_aload_n hx hb dL_refuses_170 rfl (lv_at hl 0 rfl) ?_
                refine lv_iconst (v := 5) hx hb dL_refuses_171 (by decide) ?_
                refine lv_aload_n hx hb dL_refuses_172 rfl (lv_at hl 0 rfl) ?_
                refine lv_iconst (v := 2) hx hb dL_refuses_173 (by decide) ?_
                refine lv_iconst (v := 2) hx hb dL_refuses_174 (by decide) ?_
                refine lv_iconst (v := 0) hx hb dL_refuses_175 (by decide) ?_
                refine lv_iconst (v := 0) hx hb dL_refuses_176 (by decide) ?_
                obtain ⟨o177, ho177, hq⟩ := kbind hq
                refine kh_Si (k := (kc + 1 + 1 + 1 + 1 + 1 + 1)) (nc := 1) (av := [.ref (u.1 0), .int (2 : Int32), .int (2 : Int32), .int (0 : Int32), .int (0 : Int32)]) (rest := [.int (5 : Int32), .ref (u.1 0)]) (ws' := (dkW cI u o177.2)) hF hK hG hA (mk_L_call l hst D cI u H.size o162.2 (2 : Int32) (2 : Int32) (0 : Int32) (0 : Int32) o177 ho177) (va_cwS 5 hts gL_refuses_L_call rfl rfl rfl (by decide +kernel) ⟨Nat.le_of_ble_eq_true rfl, Nat.le_of_ble_eq_true rfl⟩) hP hD hS (kSub_all dkW_fst) rfl hl.1 rfl (Nat.le_of_ble_eq_true rfl) ⟨by show (kc + 1 + 1 + 1 + 1 + 1 + 1) + 1 ≤ 29; omega, by show 6 * (kc + 1 + 1 + 1 + 1 + 1 + 1) + 6 * 1 ≤ 174; omega⟩ dL_refuses_177 (fun H locs hP hD hS => ?_)
                refine lv_iload_n hx hb dL_refuses_180 rfl (lv_at hl 1 rfl) ?_
                refine lv_bipush (v := 9) hx hb dL_refuses_181 (by decide) ?_
                refine lv_irem hx hb dL_refuses_183 (by decide) ?_
                refine lv_iadd hx hb dL_refuses_184 ?_
                refine lv_iconst (v := 0) hx hb dL_refuses_185 (by decide) ?_
                refine lv_iconst (v := 0) hx hb dL_refuses_186 (by decide) ?_
                obtain ⟨o187, ho187, hq⟩ := kbind hq
                refine kh_Si (k := (kc + 1 + 1 + 1 + 1 + 1 + 1 + 1)) (nc := 1) (av := [.ref (u.1 0), .int (5 : Int32), .int (o177.1 + (krem x1 (9 : Int32))), .int (0 : Int32), .int (0 : Int32)]) (rest := []) (ws' := (dkW cI u o187.2)) hF hK hG hA (mk_L_call l hst D cI u H.size o177.2 (5 : Int32) (o177.1 + (krem x1 (9 : Int32))) (0 : Int32) (0 : Int32) o187 ho187) (va_cwS 5 hts gL_refuses_L_call rfl rfl rfl (by decide +kernel) ⟨Nat.le_of_ble_eq_true rfl, Nat.le_of_ble_eq_true rfl⟩) hP hD hS (kSub_all dkW_fst) rfl hl.1 rfl (Nat.le_of_ble_eq_true rfl) ⟨by show (kc + 1 + 1 + 1 + 1 + 1 + 1 + 1) + 1 ≤ 29; omega, by show 6 * (kc + 1 + 1 + 1 + 1 + 1 + 1 + 1) + 6 * 1 ≤ 174; omega⟩ dL_refuses_187 (fun H locs hP hD hS => ?_)
                refine lv_ldc (v := (-9999001)) hx hb hown (hts (.constant RL 44 (-9999001 : Int32)) (by decide +kernel)) dL_refuses_190 ?_
                refine lv_icmp_ne (tgt := 584) hx hb dL_refuses_192 (by decide) (fun c9 => ?_) (fun c9 => ?_)
                · have hq := kite_f c9 hq
                  exact b_584  (kc + 1 + 1 + 1 + 1 + 1 + 1 + 1 + 1) _ _ _ o187.2 (by omega) hq hP hD hS (lv_sub hl [] rfl)
                · have hq := kite_t c9 hq
                  refine lv_aload_n hx hb dL_refuses_195 rfl (lv_at hl 0 rfl) ?_
                  refine lv_bipush (v := 6) hx hb dL_refuses_196 (by decide) ?_
                  refine lv_iconst (v := 3) hx hb dL_refuses_198 (by decide) ?_
                  refine lv_iload_n hx hb dL_refuses_199 rfl (lv_at hl 1 rfl) ?_
                  refine lv_bipush (v := 9) hx hb dL_refuses_200 (by decide) ?_
                  refine lv_irem hx hb dL_refuses_202 (by decide) ?_
                  refine lv_iadd hx hb dL_refuses_203 ?_
                  refine lv_iconst (v := 0) hx hb dL_refuses_204 (by decide) ?_
                  refine lv_iconst (v := 0) hx hb dL_refuses_205 (by decide) ?_
                  obtain ⟨o206, ho206, hq⟩ := kbind hq
                  refine kh_Si (k := (kc + 1 + 1 + 1 + 1 + 1 + 1 + 1 + 1)) (nc := 1) (av := [.ref (u.1 0), .int (6 : Int32), .int ((3 : Int32) + (krem x1 (9 : Int32))), .int (0 : Int32), .int (0 : Int32)]) (rest := []) (ws' := (dkW cI u o206.2)) hF hK hG hA (mk_L_call l hst D cI u H.size o187.2 (6 : Int32) ((3 : Int32) + (krem x1 (9 : Int32))) (0 : Int32) (0 : Int32) o206 ho206) (va_cwS 5 hts gL_refuses_L_call rfl rfl rfl (by decide +kernel) ⟨Nat.le_of_ble_eq_true rfl, Nat.le_of_ble_eq_true rfl⟩) hP hD hS (kSub_all dkW_fst) rfl hl.1 rfl (Nat.le_of_ble_eq_true rfl) ⟨by show (kc + 1 + 1 + 1 + 1 + 1 + 1 + 1 + 1) + 1 ≤ 29; omega, by show 6 * (kc + 1 + 1 + 1 + 1 + 1 + 1 + 1 + 1) + 6 * 1 ≤ 174; omega⟩ dL_refuses_206 (fun H locs hP hD hS => ?_)
                  refine lv_ldc (v := (-9999002)) hx hb hown (hts (.constant RL 15 (-9999002 : Int32)) (by decide +kernel)) dL_refuses_209 ?_
                  refine lv_icmp_ne (tgt := 584) hx hb dL_refuses_211 (by decide) (fun c9 => ?_) (fun c9 => ?_)
                  · have hq := kite_f c9 hq
                    exact b_584  (kc + 1 + 1 + 1 + 1 + 1 + 1 + 1 + 1 + 1) _ _ _ o206.2 (by omega) hq hP hD hS (lv_sub hl [] rfl)
                  · have hq := kite_t c9 hq
                    refine lv_aload_n hx hb dL_refuses_214 rfl (lv_at hl 0 rfl) ?_
                    refine lv_iload_n hx hb dL_refuses_215 rfl (lv_at hl 3 rfl) ?_
                    refine lv_iconst (v := 0) hx hb dL_refuses_216 (by decide) ?_
                    refine lv_bipush (v := 30) hx hb dL_refuses_217 (by decide) ?_
                    refine lv_iconst (v := 1) hx hb dL_refuses_219 (by decide) ?_
                    obtain ⟨o220, ho220, hq⟩ := kbind hq
                    refine kh_Wi (k := (kc + 1 + 1 + 1 + 1 + 1 + 1 + 1 + 1 + 1)) (nc := 1) (av := [.ref (u.1 0), .int x3, .int (0 : Int32), .int (30 : Int32), .int (1 : Int32)]) (rest := []) (ws' := (dkW cI u o220.2)) hF hK hG hA (bm_rolls l hst D cI u H.size o206.2 x3 (0 : Int32) (30 : Int32) (1 : Int32) o220 ho220) (vx_cwSW 5 hts gL_refuses_L_rolls rfl rfl rfl (by decide +kernel) ⟨Nat.le_of_ble_eq_true rfl, Nat.le_of_ble_eq_true rfl⟩) hP hD hS (kSub_all dkW_fst) rfl hl.1 rfl (Nat.le_of_ble_eq_true rfl) ⟨by show (kc + 1 + 1 + 1 + 1 + 1 + 1 + 1 + 1 + 1) + 1 ≤ 29; omega, by show 6 * (kc + 1 + 1 + 1 + 1 + 1 + 1 + 1 + 1 + 1) + 6 * 1 ≤ 174; omega⟩ dL_refuses_220 (fun H locs hP hD hS => ?_)
                    refine lv_ldc (v := (-9999002)) hx hb hown (hts (.constant RL 15 (-9999002 : Int32)) (by decide +kernel)) dL_refuses_223 ?_
                    refine lv_icmp_ne (tgt := 584) hx hb dL_refuses_225 (by decide) (fun c9 => ?_) (fun c9 => ?_)
                    · have hq := kite_f c9 hq
                      exact b_584  (kc + 1 + 1 + 1 + 1 + 1 + 1 + 1 + 1 + 1 + 1) _ _ _ o220.2 (by omega) hq hP hD hS (lv_sub hl [] rfl)
                    · have hq := kite_t c9 hq
                      refine lv_aload_n hx hb dL_refuses_228 rfl (lv_at hl 0 rfl) ?_
                      refine lv_iload_n hx hb dL_refuses_229 rfl (lv_at hl 1 rfl) ?_
                      refine lv_bipush (v := 41) hx hb dL_refuses_230 (by decide) ?_
                      refine lv_irem hx hb dL_refuses_232 (by decide) ?_
                      refine lv_iconst (v := 3) hx hb dL_refuses_233 (by decide) ?_
                      refine lv_iload_n hx hb dL_refuses_234 rfl (lv_at hl 1 rfl) ?_
                      refine lv_bipush (v := 9) hx hb dL_refuses_235 (by decide) ?_
                      refine lv_irem hx hb dL_refuses_237 (by decide) ?_
                      refine lv_iadd hx hb dL_refuses_238 ?_
                      refine lv_bipush (v := 30) hx hb dL_refuses_239 (by decide) ?_
                      refine lv_iconst (v := 1) hx hb dL_refuses_241 (by decide) ?_
                      obtain ⟨o242, ho242, hq⟩ := kbind hq
                      refine kh_Wi (k := (kc + 1 + 1 + 1 + 1 + 1 + 1 + 1 + 1 + 1 + 1)) (nc := 1) (av := [.ref (u.1 0), .int (krem x1 (41 : Int32)), .int ((3 : Int32) + (krem x1 (9 : Int32))), .int (30 : Int32), .int (1 : Int32)]) (rest := []) (ws' := (dkW cI u o242.2)) hF hK hG hA (bm_rolls l hst D cI u H.size o220.2 (krem x1 (41 : Int32)) ((3 : Int32) + (krem x1 (9 : Int32))) (30 : Int32) (1 : Int32) o242 ho242) (vx_cwSW 5 hts gL_refuses_L_rolls rfl rfl rfl (by decide +kernel) ⟨Nat.le_of_ble_eq_true rfl, Nat.le_of_ble_eq_true rfl⟩) hP hD hS (kSub_all dkW_fst) rfl hl.1 rfl (Nat.le_of_ble_eq_true rfl) ⟨by show (kc + 1 + 1 + 1 + 1 + 1 + 1 + 1 + 1 + 1 + 1) + 1 ≤ 29; omega, by show 6 * (kc + 1 + 1 + 1 + 1 + 1 + 1 + 1 + 1 + 1 + 1) + 6 * 1 ≤ 174; omega⟩ dL_refuses_242 (fun H locs hP hD hS => ?_)
                      refine lv_ldc (v := (-9999002)) hx hb hown (hts (.constant RL 15 (-9999002 : Int32)) (by decide +kernel)) dL_refuses_245 ?_
                      refine lv_icmp_ne (tgt := 584) hx hb dL_refuses_247 (by decide) (fun c9 => ?_) (fun c9 => ?_)
                      · have hq := kite_f c9 hq
                        exact b_584  (kc + 1 + 1 + 1 + 1 + 1 + 1 + 1 + 1 + 1 + 1 + 1) _ _ _ o242.2 (by omega) hq hP hD hS (lv_sub hl [] rfl)
                      · have hq := kite_t c9 hq
                        refine lv_aload_n hx hb dL_refuses_250 rfl (lv_at hl 0 rfl) ?_
                        refine lv_iload_n hx hb dL_refuses_251 rfl (lv_at hl 1 rfl) ?_
                        refine lv_bipush (v := 41) hx hb dL_refuses_252 (by decide) ?_
                        refine lv_irem hx hb dL_refuses_254 (by decide) ?_
                        refine lv_bipush (v := (-3)) hx hb dL_refuses_255 (by decide) ?_
                        refine lv_iload_n hx hb dL_refuses_257 rfl (lv_at hl 1 rfl) ?_
                        refine lv_bipush (v := 9) hx hb dL_refuses_258 (by decide) ?_
                        refine lv_irem hx hb dL_refuses_260 (by decide) ?_
                        refine lv_isub hx hb dL_refuses_261 ?_
                        refine lv_bipush (v := 30) hx hb dL_refuses_262 (by decide) ?_
                        refine lv_iconst (v := 1) hx hb dL_refuses_264 (by decide) ?_
                        obtain ⟨o265, ho265, hq⟩ := kbind hq
                        refine kh_Wi (k := (kc + 1 + 1 + 1 + 1 + 1 + 1 + 1 + 1 + 1 + 1 + 1)) (nc := 1) (av := [.ref (u.1 0), .int (krem x1 (41 : Int32)), .int ((-3 : Int32) - (krem x1 (9 : Int32))), .int (30 : Int32), .int (1 : Int32)]) (rest := []) (ws' := (dkW cI u o265.2)) hF hK hG hA (bm_rolls l hst D cI u H.size o242.2 (krem x1 (41 : Int32)) ((-3 : Int32) - (krem x1 (9 : Int32))) (30 : Int32) (1 : Int32) o265 ho265) (vx_cwSW 5 hts gL_refuses_L_rolls rfl rfl rfl (by decide +kernel) ⟨Nat.le_of_ble_eq_true rfl, Nat.le_of_ble_eq_true rfl⟩) hP hD hS (kSub_all dkW_fst) rfl hl.1 rfl (Nat.le_of_ble_eq_true rfl) ⟨by show (kc + 1 + 1 + 1 + 1 + 1 + 1 + 1 + 1 + 1 + 1 + 1) + 1 ≤ 29; omega, by show 6 * (kc + 1 + 1 + 1 + 1 + 1 + 1 + 1 + 1 + 1 + 1 + 1) + 6 * 1 ≤ 174; omega⟩ dL_refuses_265 (fun H locs hP hD hS => ?_)
                        refine lv_ldc (v := (-9999002)) hx hb hown (hts (.constant RL 15 (-9999002 : Int32)) (by decide +kernel)) dL_refuses_268 ?_
                        refine lv_icmp_ne (tgt := 584) hx hb dL_refuses_270 (by decide) (fun c9 => ?_) (fun c9 => ?_)
                        · have hq := kite_f c9 hq
                          exact b_584  (kc + 1 + 1 + 1 + 1 + 1 + 1 + 1 + 1 + 1 + 1 + 1 + 1) _ _ _ o265.2 (by omega) hq hP hD hS (lv_sub hl [] rfl)
                        · have hq := kite_t c9 hq
                          refine lv_aload_n hx hb dL_refuses_273 rfl (lv_at hl 0 rfl) ?_
                          refine lv_iload_n hx hb dL_refuses_274 rfl (lv_at hl 1 rfl) ?_
                          refine lv_bipush (v := 41) hx hb dL_refuses_275 (by decide) ?_
                          refine lv_irem hx hb dL_refuses_277 (by decide) ?_
                          refine lv_iconst (v := 0) hx hb dL_refuses_278 (by decide) ?_
                          refine lv_bipush (v := 31) hx hb dL_refuses_279 (by decide) ?_
                          refine lv_iload_n hx hb dL_refuses_281 rfl (lv_at hl 1 rfl) ?_
                          refine lv_bipush (v := 9) hx hb dL_refuses_282 (by decide) ?_
                          refine lv_irem hx hb dL_refuses_284 (by decide) ?_
                          refine lv_iadd hx hb dL_refuses_285 ?_
                          refine lv_iconst (v := 0) hx hb dL_refuses_286 (by decide) ?_
                          obtain ⟨o287, ho287, hq⟩ := kbind hq
                          refine kh_Wi (k := (kc + 1 + 1 + 1 + 1 + 1 + 1 + 1 + 1 + 1 + 1 + 1 + 1)) (nc := 1) (av := [.ref (u.1 0), .int (krem x1 (41 : Int32)), .int (0 : Int32), .int ((31 : Int32) + (krem x1 (9 : Int32))), .int (0 : Int32)]) (rest := []) (ws' := (dkW cI u o287.2)) hF hK hG hA (bm_rolls l hst D cI u H.size o265.2 (krem x1 (41 : Int32)) (0 : Int32) ((31 : Int32) + (krem x1 (9 : Int32))) (0 : Int32) o287 ho287) (vx_cwSW 5 hts gL_refuses_L_rolls rfl rfl rfl (by decide +kernel) ⟨Nat.le_of_ble_eq_true rfl, Nat.le_of_ble_eq_true rfl⟩) hP hD hS (kSub_all dkW_fst) rfl hl.1 rfl (Nat.le_of_ble_eq_true rfl) ⟨by show (kc + 1 + 1 + 1 + 1 + 1 + 1 + 1 + 1 + 1 + 1 + 1 + 1) + 1 ≤ 29; omega, by show 6 * (kc + 1 + 1 + 1 + 1 + 1 + 1 + 1 + 1 + 1 + 1 + 1 + 1) + 6 * 1 ≤ 174; omega⟩ dL_refuses_287 (fun H locs hP hD hS => ?_)
                          refine lv_ldc (v := (-9999002)) hx hb hown (hts (.constant RL 15 (-9999002 : Int32)) (by decide +kernel)) dL_refuses_290 ?_
                          refine lv_icmp_ne (tgt := 584) hx hb dL_refuses_292 (by decide) (fun c9 => ?_) (fun c9 => ?_)
                          · have hq := kite_f c9 hq
                            exact b_584  (kc + 1 + 1 + 1 + 1 + 1 + 1 + 1 + 1 + 1 + 1 + 1 + 1 + 1) _ _ _ o287.2 (by omega) hq hP hD hS (lv_sub hl [] rfl)
                          · have hq := kite_t c9 hq
                            refine lv_aload_n hx hb dL_refuses_295 rfl (lv_at hl 0 rfl) ?_
                            refine lv_iload_n hx hb dL_refuses_296 rfl (lv_at hl 1 rfl) ?_
                            refine lv_bipush (v := 41) hx hb dL_refuses_297 (by decide) ?_
                            refine lv_irem hx hb dL_refuses_299 (by decide) ?_
                            refine lv_iconst (v := 0) hx hb dL_refuses_300 (by decide) ?_
                            refine lv_iload_n hx hb dL_refuses_301 rfl (lv_at hl 1 rfl) ?_
                            refine lv_bipush (v := 9) hx hb dL_refuses_302 (by decide) ?_
                            refine lv_irem hx hb dL_refuses_304 (by decide) ?_
                            refine lv_ineg hx hb dL_refuses_305 ?_
                            refine lv_iconst (v := 0) hx hb dL_refuses_306 (by decide) ?_
                            obtain ⟨o307, ho307, hq⟩ := kbind hq
                            refine kh_Wi (k := (kc + 1 + 1 + 1 + 1 + 1 + 1 + 1 + 1 + 1 + 1 + 1 + 1 + 1)) (nc := 1) (av := [.ref (u.1 0), .int (krem x1 (41 : Int32)), .int (0 : Int32), .int (-(krem x1 (9 : Int32))), .int (0 : Int32)]) (rest := []) (ws' := (dkW cI u o307.2)) hF hK hG hA (bm_rolls l hst D cI u H.size o287.2 (krem x1 (41 : Int32)) (0 : Int32) (-(krem x1 (9 : Int32))) (0 : Int32) o307 ho307) (vx_cwSW 5 hts gL_refuses_L_rolls rfl rfl rfl (by decide +kernel) ⟨Nat.le_of_ble_eq_true rfl, Nat.le_of_ble_eq_true rfl⟩) hP hD hS (kSub_all dkW_fst) rfl hl.1 rfl (Nat.le_of_ble_eq_true rfl) ⟨by show (kc + 1 + 1 + 1 + 1 + 1 + 1 + 1 + 1 + 1 + 1 + 1 + 1 + 1) + 1 ≤ 29; omega, by show 6 * (kc + 1 + 1 + 1 + 1 + 1 + 1 + 1 + 1 + 1 + 1 + 1 + 1 + 1) + 6 * 1 ≤ 174; omega⟩ dL_refuses_307 (fun H locs hP hD hS => ?_)
                            refine lv_ldc (v := (-9999002)) hx hb hown (hts (.constant RL 15 (-9999002 : Int32)) (by decide +kernel)) dL_refuses_310 ?_
                            refine lv_icmp_ne (tgt := 584) hx hb dL_refuses_312 (by decide) (fun c9 => ?_) (fun c9 => ?_)
                            · have hq := kite_f c9 hq
                              exact b_584  (kc + 1 + 1 + 1 + 1 + 1 + 1 + 1 + 1 + 1 + 1 + 1 + 1 + 1 + 1) _ _ _ o307.2 (by omega) hq hP hD hS (lv_sub hl [] rfl)
                            · have hq := kite_t c9 hq
                              refine lv_aload_n hx hb dL_refuses_315 rfl (lv_at hl 0 rfl) ?_
                              refine lv_bipush (v := 7) hx hb dL_refuses_316 (by decide) ?_
                              refine lv_iload_n hx hb dL_refuses_318 rfl (lv_at hl 2 rfl) ?_
                              refine lv_bipush (v := 9) hx hb dL_refuses_319 (by decide) ?_
                              refine lv_iconst (v := 0) hx hb dL_refuses_321 (by decide) ?_
                              obtain ⟨o322, ho322, hq⟩ := kbind hq
                              refine kh_Si (k := (kc + 1 + 1 + 1 + 1 + 1 + 1 + 1 + 1 + 1 + 1 + 1 + 1 + 1 + 1)) (nc := 1) (av := [.ref (u.1 0), .int (7 : Int32), .int x2, .int (9 : Int32), .int (0 : Int32)]) (rest := []) (ws' := (dkW cI u o322.2)) hF hK hG hA (mk_L_call l hst D cI u H.size o307.2 (7 : Int32) x2 (9 : Int32) (0 : Int32) o322 ho322) (va_cwS 5 hts gL_refuses_L_call rfl rfl rfl (by decide +kernel) ⟨Nat.le_of_ble_eq_true rfl, Nat.le_of_ble_eq_true rfl⟩) hP hD hS (kSub_all dkW_fst) rfl hl.1 rfl (Nat.le_of_ble_eq_true rfl) ⟨by show (kc + 1 + 1 + 1 + 1 + 1 + 1 + 1 + 1 + 1 + 1 + 1 + 1 + 1 + 1) + 1 ≤ 29; omega, by show 6 * (kc + 1 + 1 + 1 + 1 + 1 + 1 + 1 + 1 + 1 + 1 + 1 + 1 + 1 + 1) + 6 * 1 ≤ 174; omega⟩ dL_refuses_322 (fun H locs hP hD hS => ?_)
                              refine lv_ldc (v := (-9999001)) hx hb hown (hts (.constant RL 44 (-9999001 : Int32)) (by decide +kernel)) dL_refuses_325 ?_
                              refine lv_icmp_ne (tgt := 584) hx hb dL_refuses_327 (by decide) (fun c9 => ?_) (fun c9 => ?_)
                              · have hq := kite_f c9 hq
                                exact b_584  (kc + 1 + 1 + 1 + 1 + 1 + 1 + 1 + 1 + 1 + 1 + 1 + 1 + 1 + 1 + 1) _ _ _ o322.2 (by omega) hq hP hD hS (lv_sub hl [] rfl)
                              · have hq := kite_t c9 hq
                                refine lv_aload_n hx hb dL_refuses_330 rfl (lv_at hl 0 rfl) ?_
                                refine lv_bipush (v := 7) hx hb dL_refuses_331 (by decide) ?_
                                refine lv_iload_n hx hb dL_refuses_333 rfl (lv_at hl 1 rfl) ?_
                                refine lv_bipush (v := 10) hx hb dL_refuses_334 (by decide) ?_
                                refine lv_irem hx hb dL_refuses_336 (by decide) ?_
                                refine lv_iconst (v := 4) hx hb dL_refuses_337 (by decide) ?_
                                refine lv_iload_n hx hb dL_refuses_338 rfl (lv_at hl 1 rfl) ?_
                                refine lv_bipush (v := 9) hx hb dL_refuses_339 (by decide) ?_
                                refine lv_irem hx hb dL_refuses_341 (by decide) ?_
                                refine lv_iadd hx hb dL_refuses_342 ?_
                                refine lv_iconst (v := 0) hx hb dL_refuses_343 (by decide) ?_
                                obtain ⟨o344, ho344, hq⟩ := kbind hq
                                refine kh_Si (k := (kc + 1 + 1 + 1 + 1 + 1 + 1 + 1 + 1 + 1 + 1 + 1 + 1 + 1 + 1 + 1)) (nc := 1) (av := [.ref (u.1 0), .int (7 : Int32), .int (krem x1 (10 : Int32)), .int ((4 : Int32) + (krem x1 (9 : Int32))), .int (0 : Int32)]) (rest := []) (ws' := (dkW cI u o344.2)) hF hK hG hA (mk_L_call l hst D cI u H.size o322.2 (7 : Int32) (krem x1 (10 : Int32)) ((4 : Int32) + (krem x1 (9 : Int32))) (0 : Int32) o344 ho344) (va_cwS 5 hts gL_refuses_L_call rfl rfl rfl (by decide +kernel) ⟨Nat.le_of_ble_eq_true rfl, Nat.le_of_ble_eq_true rfl⟩) hP hD hS (kSub_all dkW_fst) rfl hl.1 rfl (Nat.le_of_ble_eq_true rfl) ⟨by show (kc + 1 + 1 + 1 + 1 + 1 + 1 + 1 + 1 + 1 + 1 + 1 + 1 + 1 + 1 + 1) + 1 ≤ 29; omega, by show 6 * (kc + 1 + 1 + 1 + 1 + 1 + 1 + 1 + 1 + 1 + 1 + 1 + 1 + 1 + 1 + 1) + 6 * 1 ≤ 174; omega⟩ dL_refuses_344 (fun H locs hP hD hS => ?_)
                                refine lv_ldc (v := (-9999002)) hx hb hown (hts (.constant RL 15 (-9999002 : Int32)) (by decide +kernel)) dL_refuses_347 ?_
                                refine lv_icmp_ne (tgt := 584) hx hb dL_refuses_349 (by decide) (fun c9 => ?_) (fun c9 => ?_)
                                · have hq := kite_f c9 hq
                                  exact b_584  (kc + 1 + 1 + 1 + 1 + 1 + 1 + 1 + 1 + 1 + 1 + 1 + 1 + 1 + 1 + 1 + 1) _ _ _ o344.2 (by omega) hq hP hD hS (lv_sub hl [] rfl)
                                · have hq := kite_t c9 hq
                                  refine lv_aload_n hx hb dL_refuses_352 rfl (lv_at hl 0 rfl) ?_
                                  refine lv_bipush (v := 8) hx hb dL_refuses_353 (by decide) ?_
                                  refine lv_iconst (v := 0) hx hb dL_refuses_355 (by decide) ?_
                                  refine lv_iload_n hx hb dL_refuses_356 rfl (lv_at hl 1 rfl) ?_
                                  refine lv_iconst (v := 3) hx hb dL_refuses_357 (by decide) ?_
                                  refine lv_irem hx hb dL_refuses_358 (by decide) ?_
                                  refine lv_iconst (v := 0) hx hb dL_refuses_359 (by decide) ?_
                                  obtain ⟨o360, ho360, hq⟩ := kbind hq
                                  refine kh_Si (k := (kc + 1 + 1 + 1 + 1 + 1 + 1 + 1 + 1 + 1 + 1 + 1 + 1 + 1 + 1 + 1 + 1)) (nc := 1) (av := [.ref (u.1 0), .int (8 : Int32), .int (0 : Int32), .int (krem x1 (3 : Int32)), .int (0 : Int32)]) (rest := []) (ws' := (dkW cI u o360.2)) hF hK hG hA (mk_L_call l hst D cI u H.size o344.2 (8 : Int32) (0 : Int32) (krem x1 (3 : Int32)) (0 : Int32) o360 ho360) (va_cwS 5 hts gL_refuses_L_call rfl rfl rfl (by decide +kernel) ⟨Nat.le_of_ble_eq_true rfl, Nat.le_of_ble_eq_true rfl⟩) hP hD hS (kSub_all dkW_fst) rfl hl.1 rfl (Nat.le_of_ble_eq_true rfl) ⟨by show (kc + 1 + 1 + 1 + 1 + 1 + 1 + 1 + 1 + 1 + 1 + 1 + 1 + 1 + 1 + 1 + 1) + 1 ≤ 29; omega, by show 6 * (kc + 1 + 1 + 1 + 1 + 1 + 1 + 1 + 1 + 1 + 1 + 1 + 1 + 1 + 1 + 1 + 1) + 6 * 1 ≤ 174; omega⟩ dL_refuses_360 (fun H locs hP hD hS => ?_)
                                  refine lv_ldc (v := (-9999002)) hx hb hown (hts (.constant RL 15 (-9999002 : Int32)) (by decide +kernel)) dL_refuses_363 ?_
                                  refine lv_icmp_ne (tgt := 584) hx hb dL_refuses_365 (by decide) (fun c9 => ?_) (fun c9 => ?_)
                                  · have hq := kite_f c9 hq
                                    exact b_584  (kc + 1 + 1 + 1 + 1 + 1 + 1 + 1 + 1 + 1 + 1 + 1 + 1 + 1 + 1 + 1 + 1 + 1) _ _ _ o360.2 (by omega) hq hP hD hS (lv_sub hl [] rfl)
                                  · have hq := kite_t c9 hq
                                    refine lv_aload_n hx hb dL_refuses_368 rfl (lv_at hl 0 rfl) ?_
                                    refine lv_bipush (v := 8) hx hb dL_refuses_369 (by decide) ?_
                                    refine lv_iconst (v := 1) hx hb dL_refuses_371 (by decide) ?_
                                    refine lv_iload_n hx hb dL_refuses_372 rfl (lv_at hl 1 rfl) ?_
                                    refine lv_iconst (v := 2) hx hb dL_refuses_373 (by decide) ?_
                                    refine lv_irem hx hb dL_refuses_374 (by decide) ?_
                                    refine lv_iadd hx hb dL_refuses_375 ?_
                                    refine lv_iconst (v := 4) hx hb dL_refuses_376 (by decide) ?_
                                    refine lv_iload_n hx hb dL_refuses_377 rfl (lv_at hl 1 rfl) ?_
                                    refine lv_bipush (v := 9) hx hb dL_refuses_378 (by decide) ?_
                                    refine lv_irem hx hb dL_refuses_380 (by decide) ?_
                                    refine lv_iadd hx hb dL_refuses_381 ?_
                                    refine lv_iconst (v := 0) hx hb dL_refuses_382 (by decide) ?_
                                    obtain ⟨o383, ho383, hq⟩ := kbind hq
                                    refine kh_Si (k := (kc + 1 + 1 + 1 + 1 + 1 + 1 + 1 + 1 + 1 + 1 + 1 + 1 + 1 + 1 + 1 + 1 + 1)) (nc := 1) (av := [.ref (u.1 0), .int (8 : Int32), .int ((1 : Int32) + (krem x1 (2 : Int32))), .int ((4 : Int32) + (krem x1 (9 : Int32))), .int (0 : Int32)]) (rest := []) (ws' := (dkW cI u o383.2)) hF hK hG hA (mk_L_call l hst D cI u H.size o360.2 (8 : Int32) ((1 : Int32) + (krem x1 (2 : Int32))) ((4 : Int32) + (krem x1 (9 : Int32))) (0 : Int32) o383 ho383) (va_cwS 5 hts gL_refuses_L_call rfl rfl rfl (by decide +kernel) ⟨Nat.le_of_ble_eq_true rfl, Nat.le_of_ble_eq_true rfl⟩) hP hD hS (kSub_all dkW_fst) rfl hl.1 rfl (Nat.le_of_ble_eq_true rfl) ⟨by show (kc + 1 + 1 + 1 + 1 + 1 + 1 + 1 + 1 + 1 + 1 + 1 + 1 + 1 + 1 + 1 + 1 + 1) + 1 ≤ 29; omega, by show 6 * (kc + 1 + 1 + 1 + 1 + 1 + 1 + 1 + 1 + 1 + 1 + 1 + 1 + 1 + 1 + 1 + 1 + 1) + 6 * 1 ≤ 174; omega⟩ dL_refuses_383 (fun H locs hP hD hS => ?_)
                                    refine lv_ldc (v := (-9999002)) hx hb hown (hts (.constant RL 15 (-9999002 : Int32)) (by decide +kernel)) dL_refuses_386 ?_
                                    refine lv_icmp_ne (tgt := 584) hx hb dL_refuses_388 (by decide) (fun c9 => ?_) (fun c9 => ?_)
                                    · have hq := kite_f c9 hq
                                      exact b_584  (kc + 1 + 1 + 1 + 1 + 1 + 1 + 1 + 1 + 1 + 1 + 1 + 1 + 1 + 1 + 1 + 1 + 1 + 1) _ _ _ o383.2 (by omega) hq hP hD hS (lv_sub hl [] rfl)
                                    · have hq := kite_t c9 hq
                                      refine lv_aload_n hx hb dL_refuses_391 rfl (lv_at hl 0 rfl) ?_
                                      refine lv_bipush (v := 8) hx hb dL_refuses_392 (by decide) ?_
                                      refine lv_iconst (v := 3) hx hb dL_refuses_394 (by decide) ?_
                                      refine lv_iload_n hx hb dL_refuses_395 rfl (lv_at hl 1 rfl) ?_
                                      refine lv_bipush (v := 9) hx hb dL_refuses_396 (by decide) ?_
                                      refine lv_irem hx hb dL_refuses_398 (by decide) ?_
                                      refine lv_iadd hx hb dL_refuses_399 ?_
                                      refine lv_iconst (v := 3) hx hb dL_refuses_400 (by decide) ?_
                                      refine lv_iconst (v := 0) hx hb dL_refuses_401 (by decide) ?_
                                      obtain ⟨o402, ho402, hq⟩ := kbind hq
                                      refine kh_Si (k := (kc + 1 + 1 + 1 + 1 + 1 + 1 + 1 + 1 + 1 + 1 + 1 + 1 + 1 + 1 + 1 + 1 + 1 + 1)) (nc := 1) (av := [.ref (u.1 0), .int (8 : Int32), .int ((3 : Int32) + (krem x1 (9 : Int32))), .int (3 : Int32), .int (0 : Int32)]) (rest := []) (ws' := (dkW cI u o402.2)) hF hK hG hA (mk_L_call l hst D cI u H.size o383.2 (8 : Int32) ((3 : Int32) + (krem x1 (9 : Int32))) (3 : Int32) (0 : Int32) o402 ho402) (va_cwS 5 hts gL_refuses_L_call rfl rfl rfl (by decide +kernel) ⟨Nat.le_of_ble_eq_true rfl, Nat.le_of_ble_eq_true rfl⟩) hP hD hS (kSub_all dkW_fst) rfl hl.1 rfl (Nat.le_of_ble_eq_true rfl) ⟨by show (kc + 1 + 1 + 1 + 1 + 1 + 1 + 1 + 1 + 1 + 1 + 1 + 1 + 1 + 1 + 1 + 1 + 1 + 1) + 1 ≤ 29; omega, by show 6 * (kc + 1 + 1 + 1 + 1 + 1 + 1 + 1 + 1 + 1 + 1 + 1 + 1 + 1 + 1 + 1 + 1 + 1 + 1) + 6 * 1 ≤ 174; omega⟩ dL_refuses_402 (fun H locs hP hD hS => ?_)
                                      refine lv_ldc (v := (-9999002)) hx hb hown (hts (.constant RL 15 (-9999002 : Int32)) (by decide +kernel)) dL_refuses_405 ?_
                                      refine lv_icmp_ne (tgt := 584) hx hb dL_refuses_407 (by decide) (fun c9 => ?_) (fun c9 => ?_)
                                      · have hq := kite_f c9 hq
                                        exact b_584  (kc + 1 + 1 + 1 + 1 + 1 + 1 + 1 + 1 + 1 + 1 + 1 + 1 + 1 + 1 + 1 + 1 + 1 + 1 + 1) _ _ _ o402.2 (by omega) hq hP hD hS (lv_sub hl [] rfl)
                                      · have hq := kite_t c9 hq
                                        refine lv_aload_n hx hb dL_refuses_410 rfl (lv_at hl 0 rfl) ?_
                                        refine lv_bipush (v := 10) hx hb dL_refuses_411 (by decide) ?_
                                        refine lv_iload_n hx hb dL_refuses_413 rfl (lv_at hl 3 rfl) ?_
                                        refine lv_iconst (v := 0) hx hb dL_refuses_414 (by decide) ?_
                                        refine lv_iconst (v := 0) hx hb dL_refuses_415 (by decide) ?_
                                        obtain ⟨o416, ho416, hq⟩ := kbind hq
                                        refine kh_Si (k := (kc + 1 + 1 + 1 + 1 + 1 + 1 + 1 + 1 + 1 + 1 + 1 + 1 + 1 + 1 + 1 + 1 + 1 + 1 + 1)) (nc := 1) (av := [.ref (u.1 0), .int (10 : Int32), .int x3, .int (0 : Int32), .int (0 : Int32)]) (rest := []) (ws' := (dkW cI u o416.2)) hF hK hG hA (mk_L_call l hst D cI u H.size o402.2 (10 : Int32) x3 (0 : Int32) (0 : Int32) o416 ho416) (va_cwS 5 hts gL_refuses_L_call rfl rfl rfl (by decide +kernel) ⟨Nat.le_of_ble_eq_true rfl, Nat.le_of_ble_eq_true rfl⟩) hP hD hS (kSub_all dkW_fst) rfl hl.1 rfl (Nat.le_of_ble_eq_true rfl) ⟨by show (kc + 1 + 1 + 1 + 1 + 1 + 1 + 1 + 1 + 1 + 1 + 1 + 1 + 1 + 1 + 1 + 1 + 1 + 1 + 1) + 1 ≤ 29; omega, by show 6 * (kc + 1 + 1 + 1 + 1 + 1 + 1 + 1 + 1 + 1 + 1 + 1 + 1 + 1 + 1 + 1 + 1 + 1 + 1 + 1) + 6 * 1 ≤ 174; omega⟩ dL_refuses_416 (fun H locs hP hD hS => ?_)
                                        refine lv_ldc (v := (-9999002)) hx hb hown (hts (.constant RL 15 (-9999002 : Int32)) (by decide +kernel)) dL_refuses_419 ?_
                                        refine lv_icmp_ne (tgt := 584) hx hb dL_refuses_421 (by decide) (fun c9 => ?_) (fun c9 => ?_)
                                        · have hq := kite_f c9 hq
                                          exact b_584  (kc + 1 + 1 + 1 + 1 + 1 + 1 + 1 + 1 + 1 + 1 + 1 + 1 + 1 + 1 + 1 + 1 + 1 + 1 + 1 + 1) _ _ _ o416.2 (by omega) hq hP hD hS (lv_sub hl [] rfl)
                                        · have hq := kite_t c9 hq
                                          refine lv_aload_n hx hb dL_refuses_424 rfl (lv_at hl 0 rfl) ?_
                                          refine lv_bipush (v := 10) hx hb dL_refuses_425 (by decide) ?_
                                          refine lv_iload_n hx hb dL_refuses_427 rfl (lv_at hl 1 rfl) ?_
                                          refine lv_bipush (v := 41) hx hb dL_refuses_428 (by decide) ?_
                                          refine lv_irem hx hb dL_refuses_430 (by decide) ?_
                                          refine lv_iconst (v := 0) hx hb dL_refuses_431 (by decide) ?_
                                          refine lv_iconst (v := 4) hx hb dL_refuses_432 (by decide) ?_
                                          refine lv_iload_n hx hb dL_refuses_433 rfl (lv_at hl 1 rfl) ?_
                                          refine lv_bipush (v := 9) hx hb dL_refuses_434 (by decide) ?_
                                          refine lv_irem hx hb dL_refuses_436 (by decide) ?_
                                          refine lv_iadd hx hb dL_refuses_437 ?_
                                          obtain ⟨o438, ho438, hq⟩ := kbind hq
                                          refine kh_Si (k := (kc + 1 + 1 + 1 + 1 + 1 + 1 + 1 + 1 + 1 + 1 + 1 + 1 + 1 + 1 + 1 + 1 + 1 + 1 + 1 + 1)) (nc := 1) (av := [.ref (u.1 0), .int (10 : Int32), .int (krem x1 (41 : Int32)), .int (0 : Int32), .int ((4 : Int32) + (krem x1 (9 : Int32)))]) (rest := []) (ws' := (dkW cI u o438.2)) hF hK hG hA (mk_L_call l hst D cI u H.size o416.2 (10 : Int32) (krem x1 (41 : Int32)) (0 : Int32) ((4 : Int32) + (krem x1 (9 : Int32))) o438 ho438) (va_cwS 5 hts gL_refuses_L_call rfl rfl rfl (by decide +kernel) ⟨Nat.le_of_ble_eq_true rfl, Nat.le_of_ble_eq_true rfl⟩) hP hD hS (kSub_all dkW_fst) rfl hl.1 rfl (Nat.le_of_ble_eq_true rfl) ⟨by show (kc + 1 + 1 + 1 + 1 + 1 + 1 + 1 + 1 + 1 + 1 + 1 + 1 + 1 + 1 + 1 + 1 + 1 + 1 + 1 + 1) + 1 ≤ 29; omega, by show 6 * (kc + 1 + 1 + 1 + 1 + 1 + 1 + 1 + 1 + 1 + 1 + 1 + 1 + 1 + 1 + 1 + 1 + 1 + 1 + 1 + 1) + 6 * 1 ≤ 174; omega⟩ dL_refuses_438 (fun H locs hP hD hS => ?_)
                                          refine lv_ldc (v := (-9999002)) hx hb hown (hts (.constant RL 15 (-9999002 : Int32)) (by decide +kernel)) dL_refuses_441 ?_
                                          refine lv_icmp_ne (tgt := 584) hx hb dL_refuses_443 (by decide) (fun c9 => ?_) (fun c9 => ?_)
                                          · have hq := kite_f c9 hq
                                            exact b_584  (kc + 1 + 1 + 1 + 1 + 1 + 1 + 1 + 1 + 1 + 1 + 1 + 1 + 1 + 1 + 1 + 1 + 1 + 1 + 1 + 1 + 1) _ _ _ o438.2 (by omega) hq hP hD hS (lv_sub hl [] rfl)
                                          · have hq := kite_t c9 hq
                                            refine lv_aload_n hx hb dL_refuses_446 rfl (lv_at hl 0 rfl) ?_
                                            refine lv_bipush (v := 11) hx hb dL_refuses_447 (by decide) ?_
                                            refine lv_iconst (v := 3) hx hb dL_refuses_449 (by decide) ?_
                                            refine lv_iload_n hx hb dL_refuses_450 rfl (lv_at hl 1 rfl) ?_
                                            refine lv_bipush (v := 9) hx hb dL_refuses_451 (by decide) ?_
                                            refine lv_irem hx hb dL_refuses_453 (by decide) ?_
                                            refine lv_iadd hx hb dL_refuses_454 ?_
                                            refine lv_iconst (v := 0) hx hb dL_refuses_455 (by decide) ?_
                                            refine lv_iconst (v := 0) hx hb dL_refuses_456 (by decide) ?_
                                            obtain ⟨o457, ho457, hq⟩ := kbind hq
                                            refine kh_Si (k := (kc + 1 + 1 + 1 + 1 + 1 + 1 + 1 + 1 + 1 + 1 + 1 + 1 + 1 + 1 + 1 + 1 + 1 + 1 + 1 + 1 + 1)) (nc := 1) (av := [.ref (u.1 0), .int (11 : Int32), .int ((3 : Int32) + (krem x1 (9 : Int32))), .int (0 : Int32), .int (0 : Int32)]) (rest := []) (ws' := (dkW cI u o457.2)) hF hK hG hA (mk_L_call l hst D cI u H.size o438.2 (11 : Int32) ((3 : Int32) + (krem x1 (9 : Int32))) (0 : Int32) (0 : Int32) o457 ho457) (va_cwS 5 hts gL_refuses_L_call rfl rfl rfl (by decide +kernel) ⟨Nat.le_of_ble_eq_true rfl, Nat.le_of_ble_eq_true rfl⟩) hP hD hS (kSub_all dkW_fst) rfl hl.1 rfl (Nat.le_of_ble_eq_true rfl) ⟨by show (kc + 1 + 1 + 1 + 1 + 1 + 1 + 1 + 1 + 1 + 1 + 1 + 1 + 1 + 1 + 1 + 1 + 1 + 1 + 1 + 1 + 1) + 1 ≤ 29; omega, by show 6 * (kc + 1 + 1 + 1 + 1 + 1 + 1 + 1 + 1 + 1 + 1 + 1 + 1 + 1 + 1 + 1 + 1 + 1 + 1 + 1 + 1 + 1) + 6 * 1 ≤ 174; omega⟩ dL_refuses_457 (fun H locs hP hD hS => ?_)
                                            refine lv_ldc (v := (-9999002)) hx hb hown (hts (.constant RL 15 (-9999002 : Int32)) (by decide +kernel)) dL_refuses_460 ?_
                                            refine lv_icmp_ne (tgt := 584) hx hb dL_refuses_462 (by decide) (fun c9 => ?_) (fun c9 => ?_)
                                            · have hq := kite_f c9 hq
                                              exact b_584  (kc + 1 + 1 + 1 + 1 + 1 + 1 + 1 + 1 + 1 + 1 + 1 + 1 + 1 + 1 + 1 + 1 + 1 + 1 + 1 + 1 + 1 + 1) _ _ _ o457.2 (by omega) hq hP hD hS (lv_sub hl [] rfl)
                                            · have hq := kite_t c9 hq
                                              refine lv_aload_n hx hb dL_refuses_465 rfl (lv_at hl 0 rfl) ?_
                                              refine lv_bipush (v := 12) hx hb dL_refuses_466 (by decide) ?_
                                              refine lv_iload_n hx hb dL_refuses_468 rfl (lv_at hl 3 rfl) ?_
                                              refine lv_iconst (v := 0) hx hb dL_refuses_469 (by decide) ?_
                                              refine lv_iconst (v := 0) hx hb dL_refuses_470 (by decide) ?_
                                              obtain ⟨o471, ho471, hq⟩ := kbind hq
                                              refine kh_Si (k := (kc + 1 + 1 + 1 + 1 + 1 + 1 + 1 + 1 + 1 + 1 + 1 + 1 + 1 + 1 + 1 + 1 + 1 + 1 + 1 + 1 + 1 + 1)) (nc := 1) (av := [.ref (u.1 0), .int (12 : Int32), .int x3, .int (0 : Int32), .int (0 : Int32)]) (rest := []) (ws' := (dkW cI u o471.2)) hF hK hG hA (mk_L_call l hst D cI u H.size o457.2 (12 : Int32) x3 (0 : Int32) (0 : Int32) o471 ho471) (va_cwS 5 hts gL_refuses_L_call rfl rfl rfl (by decide +kernel) ⟨Nat.le_of_ble_eq_true rfl, Nat.le_of_ble_eq_true rfl⟩) hP hD hS (kSub_all dkW_fst) rfl hl.1 rfl (Nat.le_of_ble_eq_true rfl) ⟨by show (kc + 1 + 1 + 1 + 1 + 1 + 1 + 1 + 1 + 1 + 1 + 1 + 1 + 1 + 1 + 1 + 1 + 1 + 1 + 1 + 1 + 1 + 1) + 1 ≤ 29; omega, by show 6 * (kc + 1 + 1 + 1 + 1 + 1 + 1 + 1 + 1 + 1 + 1 + 1 + 1 + 1 + 1 + 1 + 1 + 1 + 1 + 1 + 1 + 1 + 1) + 6 * 1 ≤ 174; omega⟩ dL_refuses_471 (fun H locs hP hD hS => ?_)
                                              refine lv_ldc (v := (-9999002)) hx hb hown (hts (.constant RL 15 (-9999002 : Int32)) (by decide +kernel)) dL_refuses_474 ?_
                                              refine lv_icmp_ne (tgt := 584) hx hb dL_refuses_476 (by decide) (fun c9 => ?_) (fun c9 => ?_)
                                              · have hq := kite_f c9 hq
                                                exact b_584  (kc + 1 + 1 + 1 + 1 + 1 + 1 + 1 + 1 + 1 + 1 + 1 + 1 + 1 + 1 + 1 + 1 + 1 + 1 + 1 + 1 + 1 + 1 + 1) _ _ _ o471.2 (by omega) hq hP hD hS (lv_sub hl [] rfl)
                                              · have hq := kite_t c9 hq
                                                refine lv_aload_n hx hb dL_refuses_479 rfl (lv_at hl 0 rfl) ?_
                                                refine lv_bipush (v := 12) hx hb dL_refuses_480 (by decide) ?_
                                                refine lv_iload_n hx hb dL_refuses_482 rfl (lv_at hl 1 rfl) ?_
                                                refine lv_bipush (v := 41) hx hb dL_refuses_483 (by decide) ?_
                                                refine lv_irem hx hb dL_refuses_485 (by decide) ?_
                                                refine lv_bipush (v := (-3)) hx hb dL_refuses_486 (by decide) ?_
                                                refine lv_iconst (v := 0) hx hb dL_refuses_488 (by decide) ?_
                                                obtain ⟨o489, ho489, hq⟩ := kbind hq
                                                refine kh_Si (k := (kc + 1 + 1 + 1 + 1 + 1 + 1 + 1 + 1 + 1 + 1 + 1 + 1 + 1 + 1 + 1 + 1 + 1 + 1 + 1 + 1 + 1 + 1 + 1)) (nc := 1) (av := [.ref (u.1 0), .int (12 : Int32), .int (krem x1 (41 : Int32)), .int (-3 : Int32), .int (0 : Int32)]) (rest := []) (ws' := (dkW cI u o489.2)) hF hK hG hA (mk_L_call l hst D cI u H.size o471.2 (12 : Int32) (krem x1 (41 : Int32)) (-3 : Int32) (0 : Int32) o489 ho489) (va_cwS 5 hts gL_refuses_L_call rfl rfl rfl (by decide +kernel) ⟨Nat.le_of_ble_eq_true rfl, Nat.le_of_ble_eq_true rfl⟩) hP hD hS (kSub_all dkW_fst) rfl hl.1 rfl (Nat.le_of_ble_eq_true rfl) ⟨by show (kc + 1 + 1 + 1 + 1 + 1 + 1 + 1 + 1 + 1 + 1 + 1 + 1 + 1 + 1 + 1 + 1 + 1 + 1 + 1 + 1 + 1 + 1 + 1) + 1 ≤ 29; omega, by show 6 * (kc + 1 + 1 + 1 + 1 + 1 + 1 + 1 + 1 + 1 + 1 + 1 + 1 + 1 + 1 + 1 + 1 + 1 + 1 + 1 + 1 + 1 + 1 + 1) + 6 * 1 ≤ 174; omega⟩ dL_refuses_489 (fun H locs hP hD hS => ?_)
                                                refine lv_ldc (v := (-9999002)) hx hb hown (hts (.constant RL 15 (-9999002 : Int32)) (by decide +kernel)) dL_refuses_492 ?_
                                                refine lv_icmp_ne (tgt := 584) hx hb dL_refuses_494 (by decide) (fun c9 => ?_) (fun c9 => ?_)
                                                · have hq := kite_f c9 hq
                                                  exact b_584  (kc + 1 + 1 + 1 + 1 + 1 + 1 + 1 + 1 + 1 + 1 + 1 + 1 + 1 + 1 + 1 + 1 + 1 + 1 + 1 + 1 + 1 + 1 + 1 + 1) _ _ _ o489.2 (by omega) hq hP hD hS (lv_sub hl [] rfl)
                                                · have hq := kite_t c9 hq
                                                  refine lv_aload_n hx hb dL_refuses_497 rfl (lv_at hl 0 rfl) ?_
                                                  refine lv_bipush (v := 13) hx hb dL_refuses_498 (by decide) ?_
                                                  refine lv_iconst (v := 2) hx hb dL_refuses_500 (by decide) ?_
                                                  refine lv_iload_n hx hb dL_refuses_501 rfl (lv_at hl 1 rfl) ?_
                                                  refine lv_bipush (v := 50) hx hb dL_refuses_502 (by decide) ?_
                                                  refine lv_irem hx hb dL_refuses_504 (by decide) ?_
                                                  refine lv_iadd hx hb dL_refuses_505 ?_
                                                  refine lv_iconst (v := 0) hx hb dL_refuses_506 (by decide) ?_
                                                  refine lv_iconst (v := 0) hx hb dL_refuses_507 (by decide) ?_
                                                  obtain ⟨o508, ho508, hq⟩ := kbind hq
                                                  refine kh_Si (k := (kc + 1 + 1 + 1 + 1 + 1 + 1 + 1 + 1 + 1 + 1 + 1 + 1 + 1 + 1 + 1 + 1 + 1 + 1 + 1 + 1 + 1 + 1 + 1 + 1)) (nc := 1) (av := [.ref (u.1 0), .int (13 : Int32), .int ((2 : Int32) + (krem x1 (50 : Int32))), .int (0 : Int32), .int (0 : Int32)]) (rest := []) (ws' := (dkW cI u o508.2)) hF hK hG hA (mk_L_call l hst D cI u H.size o489.2 (13 : Int32) ((2 : Int32) + (krem x1 (50 : Int32))) (0 : Int32) (0 : Int32) o508 ho508) (va_cwS 5 hts gL_refuses_L_call rfl rfl rfl (by decide +kernel) ⟨Nat.le_of_ble_eq_true rfl, Nat.le_of_ble_eq_true rfl⟩) hP hD hS (kSub_all dkW_fst) rfl hl.1 rfl (Nat.le_of_ble_eq_true rfl) ⟨by show (kc + 1 + 1 + 1 + 1 + 1 + 1 + 1 + 1 + 1 + 1 + 1 + 1 + 1 + 1 + 1 + 1 + 1 + 1 + 1 + 1 + 1 + 1 + 1 + 1) + 1 ≤ 29; omega, by show 6 * (kc + 1 + 1 + 1 + 1 + 1 + 1 + 1 + 1 + 1 + 1 + 1 + 1 + 1 + 1 + 1 + 1 + 1 + 1 + 1 + 1 + 1 + 1 + 1 + 1) + 6 * 1 ≤ 174; omega⟩ dL_refuses_508 (fun H locs hP hD hS => ?_)
                                                  refine lv_ldc (v := (-9999001)) hx hb hown (hts (.constant RL 44 (-9999001 : Int32)) (by decide +kernel)) dL_refuses_511 ?_
                                                  refine lv_icmp_ne (tgt := 584) hx hb dL_refuses_513 (by decide) (fun c9 => ?_) (fun c9 => ?_)
                                                  · have hq := kite_f c9 hq
                                                    exact b_584  (kc + 1 + 1 + 1 + 1 + 1 + 1 + 1 + 1 + 1 + 1 + 1 + 1 + 1 + 1 + 1 + 1 + 1 + 1 + 1 + 1 + 1 + 1 + 1 + 1 + 1) _ _ _ o508.2 (by omega) hq hP hD hS (lv_sub hl [] rfl)
                                                  · have hq := kite_t c9 hq
                                                    refine lv_aload_n hx hb dL_refuses_516 rfl (lv_at hl 0 rfl) ?_
                                                    refine lv_bipush (v := 14) hx hb dL_refuses_517 (by decide) ?_
                                                    refine lv_iconst (v := (-1)) hx hb dL_refuses_519 (by decide) ?_
                                                    refine lv_iload_n hx hb dL_refuses_520 rfl (lv_at hl 1 rfl) ?_
                                                    refine lv_bipush (v := 9) hx hb dL_refuses_521 (by decide) ?_
                                                    refine lv_irem hx hb dL_refuses_523 (by decide) ?_
                                                    refine lv_isub hx hb dL_refuses_524 ?_
                                                    refine lv_iconst (v := 0) hx hb dL_refuses_525 (by decide) ?_
                                                    refine lv_iconst (v := 0) hx hb dL_refuses_526 (by decide) ?_
                                                    obtain ⟨o527, ho527, hq⟩ := kbind hq
                                                    refine kh_Si (k := (kc + 1 + 1 + 1 + 1 + 1 + 1 + 1 + 1 + 1 + 1 + 1 + 1 + 1 + 1 + 1 + 1 + 1 + 1 + 1 + 1 + 1 + 1 + 1 + 1 + 1)) (nc := 1) (av := [.ref (u.1 0), .int (14 : Int32), .int ((-1 : Int32) - (krem x1 (9 : Int32))), .int (0 : Int32), .int (0 : Int32)]) (rest := []) (ws' := (dkW cI u o527.2)) hF hK hG hA (mk_L_call l hst D cI u H.size o508.2 (14 : Int32) ((-1 : Int32) - (krem x1 (9 : Int32))) (0 : Int32) (0 : Int32) o527 ho527) (va_cwS 5 hts gL_refuses_L_call rfl rfl rfl (by decide +kernel) ⟨Nat.le_of_ble_eq_true rfl, Nat.le_of_ble_eq_true rfl⟩) hP hD hS (kSub_all dkW_fst) rfl hl.1 rfl (Nat.le_of_ble_eq_true rfl) ⟨by show (kc + 1 + 1 + 1 + 1 + 1 + 1 + 1 + 1 + 1 + 1 + 1 + 1 + 1 + 1 + 1 + 1 + 1 + 1 + 1 + 1 + 1 + 1 + 1 + 1 + 1) + 1 ≤ 29; omega, by show 6 * (kc + 1 + 1 + 1 + 1 + 1 + 1 + 1 + 1 + 1 + 1 + 1 + 1 + 1 + 1 + 1 + 1 + 1 + 1 + 1 + 1 + 1 + 1 + 1 + 1 + 1) + 6 * 1 ≤ 174; omega⟩ dL_refuses_527 (fun H locs hP hD hS => ?_)
                                                    refine lv_ldc (v := (-9999001)) hx hb hown (hts (.constant RL 44 (-9999001 : Int32)) (by decide +kernel)) dL_refuses_530 ?_
                                                    refine lv_icmp_ne (tgt := 584) hx hb dL_refuses_532 (by decide) (fun c9 => ?_) (fun c9 => ?_)
                                                    · have hq := kite_f c9 hq
                                                      exact b_584  (kc + 1 + 1 + 1 + 1 + 1 + 1 + 1 + 1 + 1 + 1 + 1 + 1 + 1 + 1 + 1 + 1 + 1 + 1 + 1 + 1 + 1 + 1 + 1 + 1 + 1 + 1) _ _ _ o527.2 (by omega) hq hP hD hS (lv_sub hl [] rfl)
                                                    · have hq := kite_t c9 hq
                                                      refine lv_aload_n hx hb dL_refuses_535 rfl (lv_at hl 0 rfl) ?_
                                                      refine lv_iconst (v := 0) hx hb dL_refuses_536 (by decide) ?_
                                                      refine lv_lconst (v := 0) hx hb dL_refuses_537 (by decide) ?_
                                                      obtain ⟨o538, ho538, hq⟩ := kbind hq
                                                      refine kh_Wi (k := (kc + 1 + 1 + 1 + 1 + 1 + 1 + 1 + 1 + 1 + 1 + 1 + 1 + 1 + 1 + 1 + 1 + 1 + 1 + 1 + 1 + 1 + 1 + 1 + 1 + 1 + 1)) (nc := 1) (av := [.ref (u.1 0), .int (0 : Int32), .long (0 : Int64)]) (rest := []) (ws' := (dkW cI u o538.2)) hF hK hG hA (bm_doScript l hst D cI u H.size o527.2 (0 : Int32) (0 : Int64) o538 ho538) (vx_cwSW 3 hts gL_refuses_L_doScript rfl rfl rfl (by decide +kernel) ⟨Nat.le_of_ble_eq_true rfl, Nat.le_of_ble_eq_true rfl⟩) hP hD hS (kSub_all dkW_fst) rfl hl.1 rfl (Nat.le_of_ble_eq_true rfl) ⟨by show (kc + 1 + 1 + 1 + 1 + 1 + 1 + 1 + 1 + 1 + 1 + 1 + 1 + 1 + 1 + 1 + 1 + 1 + 1 + 1 + 1 + 1 + 1 + 1 + 1 + 1 + 1) + 1 ≤ 29; omega, by show 6 * (kc + 1 + 1 + 1 + 1 + 1 + 1 + 1 + 1 + 1 + 1 + 1 + 1 + 1 + 1 + 1 + 1 + 1 + 1 + 1 + 1 + 1 + 1 + 1 + 1 + 1 + 1) + 6 * 1 ≤ 174; omega⟩ dL_refuses_538 (fun H locs hP hD hS => ?_)
                                                      refine lv_ldc (v := (-9999002)) hx hb hown (hts (.constant RL 15 (-9999002 : Int32)) (by decide +kernel)) dL_refuses_541 ?_
                                                      refine lv_icmp_ne (tgt := 584) hx hb dL_refuses_543 (by decide) (fun c9 => ?_) (fun c9 => ?_)
                                                      · have hq := kite_f c9 hq
                                                        exact b_584  (kc + 1 + 1 + 1 + 1 + 1 + 1 + 1 + 1 + 1 + 1 + 1 + 1 + 1 + 1 + 1 + 1 + 1 + 1 + 1 + 1 + 1 + 1 + 1 + 1 + 1 + 1 + 1) _ _ _ o538.2 (by omega) hq hP hD hS (lv_sub hl [] rfl)
                                                      · have hq := kite_t c9 hq
                                                        refine lv_aload_n hx hb dL_refuses_546 rfl (lv_at hl 0 rfl) ?_
                                                        refine lv_iconst (v := 1) hx hb dL_refuses_547 (by decide) ?_
                                                        refine lv_ldc2 (v := 100000) hx hb hown (hts (.constantLong RL 144 (100000 : Int64)) (by decide +kernel)) dL_refuses_548 ?_
                                                        refine lv_iload_n hx hb dL_refuses_551 rfl (lv_at hl 1 rfl) ?_
                                                        refine lv_i2l (v := (x1).toInt64) hx hb dL_refuses_552 rfl ?_
                                                        refine lv_ladd hx hb dL_refuses_553 ?_
                                                        obtain ⟨o554, ho554, hq⟩ := kbind hq
                                                        refine kh_Wi (k := (kc + 1 + 1 + 1 + 1 + 1 + 1 + 1 + 1 + 1 + 1 + 1 + 1 + 1 + 1 + 1 + 1 + 1 + 1 + 1 + 1 + 1 + 1 + 1 + 1 + 1 + 1 + 1)) (nc := 1) (av := [.ref (u.1 0), .int (1 : Int32), .long ((100000 : Int64) + ((x1).toInt64))]) (rest := []) (ws' := (dkW cI u o554.2)) hF hK hG hA (bm_doScript l hst D cI u H.size o538.2 (1 : Int32) ((100000 : Int64) + ((x1).toInt64)) o554 ho554) (vx_cwSW 3 hts gL_refuses_L_doScript rfl rfl rfl (by decide +kernel) ⟨Nat.le_of_ble_eq_true rfl, Nat.le_of_ble_eq_true rfl⟩) hP hD hS (kSub_all dkW_fst) rfl hl.1 rfl (Nat.le_of_ble_eq_true rfl) ⟨by show (kc + 1 + 1 + 1 + 1 + 1 + 1 + 1 + 1 + 1 + 1 + 1 + 1 + 1 + 1 + 1 + 1 + 1 + 1 + 1 + 1 + 1 + 1 + 1 + 1 + 1 + 1 + 1) + 1 ≤ 29; omega, by show 6 * (kc + 1 + 1 + 1 + 1 + 1 + 1 + 1 + 1 + 1 + 1 + 1 + 1 + 1 + 1 + 1 + 1 + 1 + 1 + 1 + 1 + 1 + 1 + 1 + 1 + 1 + 1 + 1) + 6 * 1 ≤ 174; omega⟩ dL_refuses_554 (fun H locs hP hD hS => ?_)
                                                        refine lv_ldc (v := (-9999002)) hx hb hown (hts (.constant RL 15 (-9999002 : Int32)) (by decide +kernel)) dL_refuses_557 ?_
                                                        refine lv_icmp_ne (tgt := 584) hx hb dL_refuses_559 (by decide) (fun c9 => ?_) (fun c9 => ?_)
                                                        · have hq := kite_f c9 hq
                                                          exact b_584  (kc + 1 + 1 + 1 + 1 + 1 + 1 + 1 + 1 + 1 + 1 + 1 + 1 + 1 + 1 + 1 + 1 + 1 + 1 + 1 + 1 + 1 + 1 + 1 + 1 + 1 + 1 + 1 + 1) _ _ _ o554.2 (by omega) hq hP hD hS (lv_sub hl [] rfl)
                                                        · have hq := kite_t c9 hq
                                                          refine lv_aload_n hx hb dL_refuses_562 rfl (lv_at hl 0 rfl) ?_
                                                          refine lv_iload_n hx hb dL_refuses_563 rfl (lv_at hl 1 rfl) ?_
                                                          refine lv_i2l (v := (x1).toInt64) hx hb dL_refuses_564 rfl ?_
                                                          refine lv_bipush (v := 61) hx hb dL_refuses_565 (by decide) ?_
                                                          refine lv_iload_n hx hb dL_refuses_567 rfl (lv_at hl 1 rfl) ?_
                                                          refine lv_bipush (v := 9) hx hb dL_refuses_568 (by decide) ?_
                                                          refine lv_irem hx hb dL_refuses_570 (by decide) ?_
                                                          refine lv_iadd hx hb dL_refuses_571 ?_
                                                          obtain ⟨o572, ho572, hq⟩ := kbind hq
                                                          refine kh_Wi (k := (kc + 1 + 1 + 1 + 1 + 1 + 1 + 1 + 1 + 1 + 1 + 1 + 1 + 1 + 1 + 1 + 1 + 1 + 1 + 1 + 1 + 1 + 1 + 1 + 1 + 1 + 1 + 1 + 1)) (nc := 1) (av := [.ref (u.1 0), .long ((x1).toInt64), .int ((61 : Int32) + (krem x1 (9 : Int32)))]) (rest := []) (ws' := (dkW cI u o572.2)) hF hK hG hA (bm_doSimulate l hst D cI u H.size o554.2 ((x1).toInt64) ((61 : Int32) + (krem x1 (9 : Int32))) o572 ho572) (vx_cwSW 3 hts gL_refuses_L_doSimulate rfl rfl rfl (by decide +kernel) ⟨Nat.le_of_ble_eq_true rfl, Nat.le_of_ble_eq_true rfl⟩) hP hD hS (kSub_all dkW_fst) rfl hl.1 rfl (Nat.le_of_ble_eq_true rfl) ⟨by show (kc + 1 + 1 + 1 + 1 + 1 + 1 + 1 + 1 + 1 + 1 + 1 + 1 + 1 + 1 + 1 + 1 + 1 + 1 + 1 + 1 + 1 + 1 + 1 + 1 + 1 + 1 + 1 + 1) + 1 ≤ 29; omega, by show 6 * (kc + 1 + 1 + 1 + 1 + 1 + 1 + 1 + 1 + 1 + 1 + 1 + 1 + 1 + 1 + 1 + 1 + 1 + 1 + 1 + 1 + 1 + 1 + 1 + 1 + 1 + 1 + 1 + 1) + 6 * 1 ≤ 174; omega⟩ dL_refuses_572 (fun H locs hP hD hS => ?_)
                                                          refine lv_ldc (v := (-9999002)) hx hb hown (hts (.constant RL 15 (-9999002 : Int32)) (by decide +kernel)) dL_refuses_575 ?_
                                                          refine lv_icmp_ne (tgt := 584) hx hb dL_refuses_577 (by decide) (fun c9 => ?_) (fun c9 => ?_)
                                                          · have hq := kite_f c9 hq
                                                            exact b_584  (kc + 1 + 1 + 1 + 1 + 1 + 1 + 1 + 1 + 1 + 1 + 1 + 1 + 1 + 1 + 1 + 1 + 1 + 1 + 1 + 1 + 1 + 1 + 1 + 1 + 1 + 1 + 1 + 1 + 1) _ _ _ o572.2 (by omega) hq hP hD hS (lv_sub hl [] rfl)
                                                          · have hq := kite_t c9 hq
                                                            refine lv_iconst (v := 1) hx hb dL_refuses_580 (by decide) ?_
                                                            refine lv_goto (tgt := 585) hx hb dL_refuses_581 (by decide) ?_
                                                            exact b_585  (kc + 1 + 1 + 1 + 1 + 1 + 1 + 1 + 1 + 1 + 1 + 1 + 1 + 1 + 1 + 1 + 1 + 1 + 1 + 1 + 1 + 1 + 1 + 1 + 1 + 1 + 1 + 1 + 1 + 1) _ _ _ o572.2 (1 : Int32) (by omega) hq hP hD hS (lv_sub hl [] rfl)
  have b_45 : ∀ (kc : Nat) (H : Heap) (locs : List Loc) (ls : Array Slot) (d : kDk) (x1 : Int32) (x2 : Int32) (k0 : Int32), kc + 29 ≤ 29 → fn_L_refuses_45 d x1 x2 k0 = some o → va_P D vwCl (dkW cI u d) H → va_D A (dkW cI u d) → va_S A s.heap H locs → lv_has ls 4 [(0, .ref (u.1 0)), (1, .int x1), (2, .int x2)] → W p l e ({ frames := 9, cells := 29, slots := 174, locals := 217 }) s m args below meth c H locs kc (6 * kc) Q (F0 m 45 ls [.int k0]) := by
    intro kc H locs ls d x1 x2 k0
    intro hkc hq hP hD hS hl
    refine lv_istore_n (lv' := [(3, .int k0), (0, .ref (u.1 0)), (1, .int x1), (2, .int x2)]) hx hb dL_refuses_45 rfl hl (by decide) rfl (fun ls hl => ?_)
    refine lv_aload_n hx hb dL_refuses_46 rfl (lv_at hl 1 rfl) ?_
    refine lv_iconst (v := 0) hx hb dL_refuses_47 (by decide) ?_
    refine lv_iload_n hx hb dL_refuses_48 rfl (lv_at hl 2 rfl) ?_
    refine lv_iconst (v := 2) hx hb dL_refuses_49 (by decide) ?_
    refine lv_irem hx hb dL_refuses_50 (by decide) ?_
    refine lv_if_ne (tgt := 63) hx hb dL_refuses_51 (by decide) (fun c9 => ?_) (fun c9 => ?_)
    · have hq := kite_f c9 hq
      refine lv_sipush (v := 256) hx hb dL_refuses_63 (by decide) ?_
      refine lv_iload_n hx hb dL_refuses_66 rfl (lv_at hl 2 rfl) ?_
      refine lv_bipush (v := 9) hx hb dL_refuses_67 (by decide) ?_
      refine lv_irem hx hb dL_refuses_69 (by decide) ?_
      refine lv_iadd hx hb dL_refuses_70 ?_
      exact b_71  kc _ _ _ d x1 x2 k0 (0 : Int32) ((256 : Int32) + (krem x1 (9 : Int32))) (by omega) hq hP hD hS (lv_sub hl [1, 2, 3, 0] rfl)
    · have hq := kite_t c9 hq
      refine lv_iconst (v := (-1)) hx hb dL_refuses_54 (by decide) ?_
      refine lv_iload_n hx hb dL_refuses_55 rfl (lv_at hl 2 rfl) ?_
      refine lv_bipush (v := 9) hx hb dL_refuses_56 (by decide) ?_
      refine lv_irem hx hb dL_refuses_58 (by decide) ?_
      refine lv_isub hx hb dL_refuses_59 ?_
      refine lv_goto (tgt := 71) hx hb dL_refuses_60 (by decide) ?_
      exact b_71  kc _ _ _ d x1 x2 k0 (0 : Int32) ((-1 : Int32) - (krem x1 (9 : Int32))) (by omega) hq hP hD hS (lv_sub hl [1, 2, 3, 0] rfl)
  have b_22 : ∀ (kc : Nat) (H : Heap) (locs : List Loc) (ls : Array Slot) (d : kDk) (x1 : Int32) (k0 : Int32), kc + 29 ≤ 29 → fn_L_refuses_22 d x1 k0 = some o → va_P D vwCl (dkW cI u d) H → va_D A (dkW cI u d) → va_S A s.heap H locs → lv_has ls 4 [(0, .ref (u.1 0)), (1, .int x1)] → W p l e ({ frames := 9, cells := 29, slots := 174, locals := 217 }) s m args below meth c H locs kc (6 * kc) Q (F0 m 22 ls [.int k0]) := by
    intro kc H locs ls d x1 k0
    intro hkc hq hP hD hS hl
    refine lv_istore_n (lv' := [(2, .int k0), (0, .ref (u.1 0)), (1, .int x1)]) hx hb dL_refuses_22 rfl hl (by decide) rfl (fun ls hl => ?_)
    refine lv_iload_n hx hb dL_refuses_23 rfl (lv_at hl 2 rfl) ?_
    refine lv_iconst (v := 2) hx hb dL_refuses_24 (by decide) ?_
    refine lv_irem hx hb dL_refuses_25 (by decide) ?_
    refine lv_if_ne (tgt := 38) hx hb dL_refuses_26 (by decide) (fun c9 => ?_) (fun c9 => ?_)
    · have hq := kite_f c9 hq
      refine lv_bipush (v := 41) hx hb dL_refuses_38 (by decide) ?_
      refine lv_iload_n hx hb dL_refuses_40 rfl (lv_at hl 2 rfl) ?_
      refine lv_bipush (v := 99) hx hb dL_refuses_41 (by decide) ?_
      refine lv_irem hx hb dL_refuses_43 (by decide) ?_
      refine lv_iadd hx hb dL_refuses_44 ?_
      exact b_45  kc _ _ _ d x1 k0 ((41 : Int32) + (krem x1 (99 : Int32))) (by omega) hq hP hD hS (lv_sub hl [1, 2, 0] rfl)
    · have hq := kite_t c9 hq
      refine lv_iconst (v := (-1)) hx hb dL_refuses_29 (by decide) ?_
      refine lv_iload_n hx hb dL_refuses_30 rfl (lv_at hl 2 rfl) ?_
      refine lv_bipush (v := 99) hx hb dL_refuses_31 (by decide) ?_
      refine lv_irem hx hb dL_refuses_33 (by decide) ?_
      refine lv_isub hx hb dL_refuses_34 ?_
      refine lv_goto (tgt := 45) hx hb dL_refuses_35 (by decide) ?_
      exact b_45  kc _ _ _ d x1 k0 ((-1 : Int32) - (krem x1 (99 : Int32))) (by omega) hq hP hD hS (lv_sub hl [1, 2, 0] rfl)
  refine lv_iload_n hx hb dL_refuses_0 rfl (lv_at hl 1 rfl) ?_
  refine lv_iconst (v := 2) hx hb dL_refuses_1 (by decide) ?_
  refine lv_irem hx hb dL_refuses_2 (by decide) ?_
  refine lv_if_ne (tgt := 15) hx hb dL_refuses_3 (by decide) (fun c9 => ?_) (fun c9 => ?_)
  · have hq := kite_f c9 hq
    refine lv_bipush (v := 10) hx hb dL_refuses_15 (by decide) ?_
    refine lv_iload_n hx hb dL_refuses_17 rfl (lv_at hl 1 rfl) ?_
    refine lv_bipush (v := 99) hx hb dL_refuses_18 (by decide) ?_
    refine lv_irem hx hb dL_refuses_20 (by decide) ?_
    refine lv_iadd hx hb dL_refuses_21 ?_
    exact b_22  0 _ _ _ d x1 ((10 : Int32) + (krem x1 (99 : Int32))) (by omega) hq hP hD hS (lv_sub hl [0, 1] rfl)
  · have hq := kite_t c9 hq
    refine lv_iconst (v := (-1)) hx hb dL_refuses_6 (by decide) ?_
    refine lv_iload_n hx hb dL_refuses_7 rfl (lv_at hl 1 rfl) ?_
    refine lv_bipush (v := 99) hx hb dL_refuses_8 (by decide) ?_
    refine lv_irem hx hb dL_refuses_10 (by decide) ?_
    refine lv_isub hx hb dL_refuses_11 ?_
    refine lv_goto (tgt := 22) hx hb dL_refuses_12 (by decide) ?_
    exact b_22  0 _ _ _ d x1 ((-1 : Int32) - (krem x1 (99 : Int32))) (by omega) hq hP hD hS (lv_sub hl [0, 1] rfl)

