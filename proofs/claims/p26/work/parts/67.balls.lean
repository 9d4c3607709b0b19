/-! balls act (written by wip/p26/gen/gen26.py) -/
set_option maxHeartbeats 8000000 in
set_option maxRecDepth 100000 in
theorem mk_L_balls (l : Launch) (hst : l.stackTraces = false) (D : va_G) (cI : Nat → ClassId) (u : kHad) (sz : Nat) (d : kDk) (x1 : Int32) (o : Int32 × kDk) (hq : fn_L_balls d x1 = some o) : Met l yL_balls wsL_balls ({ frames := 9, cells := 12, slots := 72, locals := 217 }) (kPc D cI (dkW cI u d) sz [.ref (u.1 0), .int x1]) (kQi D (dkW cI u d) (dkW cI u o.2) sz o.1) 12 72 (va_A (dkW cI u d) sz) := by
  refine kM_hz (nc := 12) (cc := cL_balls) (maxL := 9) (by decide +kernel) rfl (Nat.le_of_ble_eq_true rfl) ?_
  intro p e s m args below meth c A Q hF hK hG hD hA hend ls hP hS hl
  obtain ⟨hx, hb, hml, hown, hts⟩ := id hF
  have hl : lv_has ls 9 [(0, .ref (u.1 0)), (1, .int x1)] := hl
  have b_209 : ∀ (kc : Nat) (H : Heap) (locs : List Loc) (ls : Array Slot) (d : kDk) (k0 : Int32), kc + 0 ≤ 12 → fn_L_balls_209 d k0 = some o → va_P D vwCl (dkW cI u d) H → va_D A (dkW cI u d) → va_S A s.heap H locs → lv_has ls 9 [] → W p l e ({ frames := 9, cells := 12, slots := 72, locals := 217 }) s m args below meth c H locs kc (6 * kc) Q (F0 m 209 ls [.int k0]) := by
    intro kc H locs ls d k0
    intro hkc hq hP hD hS hl
    obtain ⟨hz, hq⟩ := kite_b hq
    have ho := Option.some.inj hq
    subst ho
    refine W.widen (k := 12) (n := 6 * 12) (by omega) (by omega) ?_
    exact hend _ _ _ _ hz hP hS dL_balls_209
  have b_208 : ∀ (kc : Nat) (H : Heap) (locs : List Loc) (ls : Array Slot) (d : kDk), kc + 0 ≤ 12 → fn_L_balls_208 d = some o → va_P D vwCl (dkW cI u d) H → va_D A (dkW cI u d) → va_S A s.heap H locs → lv_has ls 9 [] → W p l e ({ frames := 9, cells := 12, slots := 72, locals := 217 }) s m args below meth c H locs kc (6 * kc) Q (F0 m 208 ls []) := by
    intro kc H locs ls d
    intro hkc hq hP hD hS hl
    refine lv_iconst (v := 0) hx hb dL_balls_208 (by decide) ?_
    exact b_209  kc _ _ _ d (0 : Int32) (by omega) hq hP hD hS (lv_sub hl [] rfl)
  have b_150 : ∀ (kc : Nat) (H : Heap) (locs : List Loc) (ls : Array Slot) (d : kDk) (x2 : Int32) (x3 : Int32), kc + 4 ≤ 12 → fn_L_balls_150 d x2 x3 = some o → va_P D vwCl (dkW cI u d) H → va_D A (dkW cI u d) → va_S A s.heap H locs → lv_has ls 9 [(0, .ref (u.1 0)), (2, .int x2), (3, .int x3)] → W p l e ({ frames := 9, cells := 12, slots := 72, locals := 217 }) s m args below meth c H locs kc (6 * kc) Q (F0 m 150 ls []) := by
    intro kc H locs ls d x2 x3
    intro hkc hq hP hD hS hl
    refine lv_aload_n hx hb dL_balls_150 rfl (lv_at hl 0 rfl) ?_
    refine lv_bipush (v := 12) hx hb dL_balls_151 (by decide) ?_
    refine lv_iload_n hx hb dL_balls_153 rfl (lv_at hl 2 rfl) ?_
    refine lv_iload_n hx hb dL_balls_154 rfl (lv_at hl 1 rfl) ?_
    refine lv_iconst (v := 0) hx hb dL_balls_155 (by decide) ?_
    obtain ⟨o156, ho156, hq⟩ := kbind hq
    refine kh_Si (k := kc) (nc := 1) (av := [.ref (u.1 0), .int (12 : Int32), .int x3, .int x2, .int (0 : Int32)]) (rest := []) (ws' := (dkW cI u o156.2)) hF hK hG hA (mk_L_call l hst D cI u H.size d (12 : Int32) x3 x2 (0 : Int32) o156 ho156) (va_cwS 5 hts gL_balls_L_call rfl rfl rfl (by decide +kernel) ⟨Nat.le_of_ble_eq_true rfl, Nat.le_of_ble_eq_true rfl⟩) hP hD hS (kSub_all dkW_fst) rfl hl.1 rfl (Nat.le_of_ble_eq_true rfl) ⟨by show kc + 1 ≤ 12; omega, by show 6 * kc + 6 * 1 ≤ 72; omega⟩ dL_balls_156 (fun H locs hP hD hS => ?_)
    refine lv_aload_n hx hb dL_balls_159 rfl (lv_at hl 0 rfl) ?_
    refine lv_iconst (v := 2) hx hb dL_balls_160 (by decide) ?_
    refine lv_iconst (v := 3) hx hb dL_balls_161 (by decide) ?_
    refine lv_iconst (v := 0) hx hb dL_balls_162 (by decide) ?_
    refine lv_iconst (v := 0) hx hb dL_balls_163 (by decide) ?_
    obtain ⟨o164, ho164, hq⟩ := kbind hq
    refine kh_Si (k := (kc + 1)) (nc := 1) (av := [.ref (u.1 0), .int (2 : Int32), .int (3 : Int32), .int (0 : Int32), .int (0 : Int32)]) (rest := [.int o156.1]) (ws' := (dkW cI u o164.2)) hF hK hG hA (mk_L_call l hst D cI u H.size o156.2 (2 : Int32) (3 : Int32) (0 : Int32) (0 : Int32) o164 ho164) (va_cwS 5 hts gL_balls_L_call rfl rfl rfl (by decide +kernel) ⟨Nat.le_of_ble_eq_true rfl, Nat.le_of_ble_eq_true rfl⟩) hP hD hS (kSub_all dkW_fst) rfl hl.1 rfl (Nat.le_of_ble_eq_true rfl) ⟨by show (kc + 1) + 1 ≤ 12; omega, by show 6 * (kc + 1) + 6 * 1 ≤ 72; omega⟩ dL_balls_164 (fun H locs hP hD hS => ?_)
    refine lv_icmp_lt (tgt := 208) hx hb dL_balls_167 (by decide) (fun c9 => ?_) (fun c9 => ?_)
    · have hq := kite_t c9 hq
      exact b_208  (kc + 1 + 1) _ _ _ o164.2 (by omega) hq hP hD hS (lv_sub hl [] rfl)
    · have hq := kite_f c9 hq
      refine lv_aload_n hx hb dL_balls_170 rfl (lv_at hl 0 rfl) ?_
      refine lv_bipush (v := 12) hx hb dL_balls_171 (by decide) ?_
      refine lv_iload_n hx hb dL_balls_173 rfl (lv_at hl 2 rfl) ?_
      refine lv_iload_n hx hb dL_balls_174 rfl (lv_at hl 1 rfl) ?_
      refine lv_iconst (v := 0) hx hb dL_balls_175 (by decide) ?_
      obtain ⟨o176, ho176, hq⟩ := kbind hq
      refine kh_Si (k := (kc + 1 + 1)) (nc := 1) (av := [.ref (u.1 0), .int (12 : Int32), .int x3, .int x2, .int (0 : Int32)]) (rest := []) (ws' := (dkW cI u o176.2)) hF hK hG hA (mk_L_call l hst D cI u H.size o164.2 (12 : Int32) x3 x2 (0 : Int32) o176 ho176) (va_cwS 5 hts gL_balls_L_call rfl rfl rfl (by decide +kernel) ⟨Nat.le_of_ble_eq_true rfl, Nat.le_of_ble_eq_true rfl⟩) hP hD hS (kSub_all dkW_fst) rfl hl.1 rfl (Nat.le_of_ble_eq_true rfl) ⟨by show (kc + 1 + 1) + 1 ≤ 12; omega, by show 6 * (kc + 1 + 1) + 6 * 1 ≤ 72; omega⟩ dL_balls_176 (fun H locs hP hD hS => ?_)
      refine lv_sipush (v := 300) hx hb dL_balls_179 (by decide) ?_
      refine lv_icmp_gt (tgt := 208) hx hb dL_balls_182 (by decide) (fun c9 => ?_) (fun c9 => ?_)
      · have hq := kite_t c9 hq
        exact b_208  (kc + 1 + 1 + 1) _ _ _ o176.2 (by omega) hq hP hD hS (lv_sub hl [] rfl)
      · have hq := kite_f c9 hq
        refine lv_bipush (v := 90) hx hb dL_balls_185 (by decide) ?_
        refine lv_aload_n hx hb dL_balls_187 rfl (lv_at hl 0 rfl) ?_
        obtain ⟨o188, ho188, hq⟩ := kbind hq
        refine kd_Vi (av := []) (rest := [.int (90 : Int32)]) (ws' := (dkW cI u o188.2)) hF hK hG hA (bm_slowest l hst D cI u H.size o176.2 o188 ho188) (cwV 0 hts gL_balls_X7_slowest rfl rfl rfl (by decide +kernel) ⟨Nat.le_of_ble_eq_true rfl, Nat.le_of_ble_eq_true rfl⟩) hP hD hS (kSub_all dkW_fst) 0 (ci := 6) (N := 5) (T := TX7) rfl rfl rfl hl.1 rfl (Nat.le_of_ble_eq_true rfl) ⟨by show (kc + 1 + 1 + 1) ≤ 12; omega, by show 6 * (kc + 1 + 1 + 1) ≤ 72; omega⟩ dL_balls_188 (fun H locs hP hD hS => ?_)
        obtain ⟨hz, hq⟩ := kite_n hq
        refine lv_idiv hx hb dL_balls_191 hz ?_
        refine lv_aload_n hx hb dL_balls_192 rfl (lv_at hl 0 rfl) ?_
        refine lv_bipush (v := 6) hx hb dL_balls_193 (by decide) ?_
        refine lv_iconst (v := 0) hx hb dL_balls_195 (by decide) ?_
        refine lv_iconst (v := 0) hx hb dL_balls_196 (by decide) ?_
        refine lv_iconst (v := 0) hx hb dL_balls_197 (by decide) ?_
        obtain ⟨o198, ho198, hq⟩ := kbind hq
        refine kh_Si (k := (kc + 1 + 1 + 1)) (nc := 1) (av := [.ref (u.1 0), .int (6 : Int32), .int (0 : Int32), .int (0 : Int32), .int (0 : Int32)]) (rest := [.int ((90 : Int32) / o188.1)]) (ws' := (dkW cI u o198.2)) hF hK hG hA (mk_L_call l hst D cI u H.size o188.2 (6 : Int32) (0 : Int32) (0 : Int32) (0 : Int32) o198 ho198) (va_cwS 5 hts gL_balls_L_call rfl rfl rfl (by decide +kernel) ⟨Nat.le_of_ble_eq_true rfl, Nat.le_of_ble_eq_true rfl⟩) hP hD hS (kSub_all dkW_fst) rfl hl.1 rfl (Nat.le_of_ble_eq_true rfl) ⟨by show (kc + 1 + 1 + 1) + 1 ≤ 12; omega, by show 6 * (kc + 1 + 1 + 1) + 6 * 1 ≤ 72; omega⟩ dL_balls_198 (fun H locs hP hD hS => ?_)
        refine lv_icmp_gt (tgt := 208) hx hb dL_balls_201 (by decide) (fun c9 => ?_) (fun c9 => ?_)
        · have hq := kite_t c9 hq
          exact b_208  (kc + 1 + 1 + 1 + 1) _ _ _ o198.2 (by omega) hq hP hD hS (lv_sub hl [] rfl)
        · have hq := kite_f c9 hq
          refine lv_iconst (v := 1) hx hb dL_balls_204 (by decide) ?_
          refine lv_goto (tgt := 209) hx hb dL_balls_205 (by decide) ?_
          exact b_209  (kc + 1 + 1 + 1 + 1) _ _ _ o198.2 (1 : Int32) (by omega) hq hP hD hS (lv_sub hl [] rfl)
  refine lv_iload_n hx hb dL_balls_0 rfl (lv_at hl 1 rfl) ?_
  refine lv_iconst (v := 5) hx hb dL_balls_1 (by decide) ?_
  refine lv_irem hx hb dL_balls_2 (by decide) ?_
  refine lv_iconst (v := 2) hx hb dL_balls_3 (by decide) ?_
  refine lv_isub hx hb dL_balls_4 ?_
  refine lv_istore_n (lv' := [(2, .int ((krem x1 (5 : Int32)) - (2 : Int32))), (0, .ref (u.1 0)), (1, .int x1)]) hx hb dL_balls_5 rfl hl (by decide) rfl (fun ls hl => ?_)
  refine lv_iload_n hx hb dL_balls_6 rfl (lv_at hl 2 rfl) ?_
  refine lv_iconst (v := 5) hx hb dL_balls_7 (by decide) ?_
  refine lv_idiv hx hb dL_balls_8 (by decide) ?_
  refine lv_bipush (v := 41) hx hb dL_balls_9 (by decide) ?_
  refine lv_irem hx hb dL_balls_11 (by decide) ?_
  refine lv_istore_n (lv' := [(3, .int (krem (x1 / (5 : Int32)) (41 : Int32))), (2, .int ((krem x1 (5 : Int32)) - (2 : Int32))), (0, .ref (u.1 0)), (1, .int x1)]) hx hb dL_balls_12 rfl hl (by decide) rfl (fun ls hl => ?_)
  refine lv_aload_n hx hb dL_balls_13 rfl (lv_at hl 2 rfl) ?_
  refine lv_bipush (v := 11) hx hb dL_balls_14 (by decide) ?_
  refine lv_iload_n hx hb dL_balls_16 rfl (lv_at hl 1 rfl) ?_
  refine lv_iconst (v := 0) hx hb dL_balls_17 (by decide) ?_
  refine lv_iconst (v := 0) hx hb dL_balls_18 (by decide) ?_
  obtain ⟨o19, ho19, hq⟩ := kbind hq
  refine kh_Si (k := 0) (nc := 1) (av := [.ref (u.1 0), .int (11 : Int32), .int ((krem x1 (5 : Int32)) - (2 : Int32)), .int (0 : Int32), .int (0 : Int32)]) (rest := []) (ws' := (dkW cI u o19.2)) hF hK hG hA (mk_L_call l hst D cI u s.heap.size d (11 : Int32) ((krem x1 (5 : Int32)) - (2 : Int32)) (0 : Int32) (0 : Int32) o19 ho19) (va_cwS 5 hts gL_balls_L_call rfl rfl rfl (by decide +kernel) ⟨Nat.le_of_ble_eq_true rfl, Nat.le_of_ble_eq_true rfl⟩) hP hD hS (kSub_all dkW_fst) rfl hl.1 rfl (Nat.le_of_ble_eq_true rfl) ⟨by show 0 + 1 ≤ 12; omega, by show 6 * 0 + 6 * 1 ≤ 72; omega⟩ dL_balls_19 (fun H locs hP hD hS => ?_)
  refine lv_istore (lv' := [(4, .int o19.1), (3, .int (krem (x1 / (5 : Int32)) (41 : Int32))), (2, .int ((krem x1 (5 : Int32)) - (2 : Int32))), (0, .ref (u.1 0)), (1, .int x1)]) hx hb dL_balls_22 hl (by decide) rfl (fun ls hl => ?_)
  refine lv_aload_n hx hb dL_balls_24 rfl (lv_at hl 3 rfl) ?_
  refine lv_bipush (v := 10) hx hb dL_balls_25 (by decide) ?_
  refine lv_iload_n hx hb dL_balls_27 rfl (lv_at hl 1 rfl) ?_
  refine lv_iload_n hx hb dL_balls_28 rfl (lv_at hl 2 rfl) ?_
  refine lv_iconst (v := 0) hx hb dL_balls_29 (by decide) ?_
  obtain ⟨o30, ho30, hq⟩ := kbind hq
  refine kh_Si (k := (0 + 1)) (nc := 1) (av := [.ref (u.1 0), .int (10 : Int32), .int (krem (x1 / (5 : Int32)) (41 : Int32)), .int ((krem x1 (5 : Int32)) - (2 : Int32)), .int (0 : Int32)]) (rest := []) (ws' := (dkW cI u o30.2)) hF hK hG hA (mk_L_call l hst D cI u H.size o19.2 (10 : Int32) (krem (x1 / (5 : Int32)) (41 : Int32)) ((krem x1 (5 : Int32)) - (2 : Int32)) (0 : Int32) o30 ho30) (va_cwS 5 hts gL_balls_L_call rfl rfl rfl (by decide +kernel) ⟨Nat.le_of_ble_eq_true rfl, Nat.le_of_ble_eq_true rfl⟩) hP hD hS (kSub_all dkW_fst) rfl hl.1 rfl (Nat.le_of_ble_eq_true rfl) ⟨by show (0 + 1) + 1 ≤ 12; omega, by show 6 * (0 + 1) + 6 * 1 ≤ 72; omega⟩ dL_balls_30 (fun H locs hP hD hS => ?_)
  refine lv_istore (lv' := [(5, .int o30.1), (4, .int o19.1), (3, .int (krem (x1 / (5 : Int32)) (41 : Int32))), (2, .int ((krem x1 (5 : Int32)) - (2 : Int32))), (0, .ref (u.1 0)), (1, .int x1)]) hx hb dL_balls_33 hl (by decide) rfl (fun ls hl => ?_)
  refine lv_aload_n hx hb dL_balls_35 rfl (lv_at hl 4 rfl) ?_
  refine lv_bipush (v := 10) hx hb dL_balls_36 (by decide) ?_
  refine lv_iload_n hx hb dL_balls_38 rfl (lv_at hl 2 rfl) ?_
  refine lv_iload_n hx hb dL_balls_39 rfl (lv_at hl 3 rfl) ?_
  refine lv_iconst (v := 1) hx hb dL_balls_40 (by decide) ?_
  obtain ⟨o41, ho41, hq⟩ := kbind hq
  refine kh_Si (k := (0 + 1 + 1)) (nc := 1) (av := [.ref (u.1 0), .int (10 : Int32), .int (krem (x1 / (5 : Int32)) (41 : Int32)), .int ((krem x1 (5 : Int32)) - (2 : Int32)), .int (1 : Int32)]) (rest := []) (ws' := (dkW cI u o41.2)) hF hK hG hA (mk_L_call l hst D cI u H.size o30.2 (10 : Int32) (krem (x1 / (5 : Int32)) (41 : Int32)) ((krem x1 (5 : Int32)) - (2 : Int32)) (1 : Int32) o41 ho41) (va_cwS 5 hts gL_balls_L_call rfl rfl rfl (by decide +kernel) ⟨Nat.le_of_ble_eq_true rfl, Nat.le_of_ble_eq_true rfl⟩) hP hD hS (kSub_all dkW_fst) rfl hl.1 rfl (Nat.le_of_ble_eq_true rfl) ⟨by show (0 + 1 + 1) + 1 ≤ 12; omega, by show 6 * (0 + 1 + 1) + 6 * 1 ≤ 72; omega⟩ dL_balls_41 (fun H locs hP hD hS => ?_)
  refine lv_istore (lv' := [(6, .int o41.1), (5, .int o30.1), (4, .int o19.1), (3, .int (krem (x1 / (5 : Int32)) (41 : Int32))), (2, .int ((krem x1 (5 : Int32)) - (2 : Int32))), (0, .ref (u.1 0)), (1, .int x1)]) hx hb dL_balls_44 hl (by decide) rfl (fun ls hl => ?_)
  refine lv_aload_n hx hb dL_balls_46 rfl (lv_at hl 5 rfl) ?_
  refine lv_bipush (v := 10) hx hb dL_balls_47 (by decide) ?_
  refine lv_iload_n hx hb dL_balls_49 rfl (lv_at hl 3 rfl) ?_
  refine lv_iload_n hx hb dL_balls_50 rfl (lv_at hl 4 rfl) ?_
  refine lv_iconst (v := 2) hx hb dL_balls_51 (by decide) ?_
  obtain ⟨o52, ho52, hq⟩ := kbind hq
  refine kh_Si (k := (0 + 1 + 1 + 1)) (nc := 1) (av := [.ref (u.1 0), .int (10 : Int32), .int (krem (x1 / (5 : Int32)) (41 : Int32)), .int ((krem x1 (5 : Int32)) - (2 : Int32)), .int (2 : Int32)]) (rest := []) (ws' := (dkW cI u o52.2)) hF hK hG hA (mk_L_call l hst D cI u H.size o41.2 (10 : Int32) (krem (x1 / (5 : Int32)) (41 : Int32)) ((krem x1 (5 : Int32)) - (2 : Int32)) (2 : Int32) o52 ho52) (va_cwS 5 hts gL_balls_L_call rfl rfl rfl (by decide +kernel) ⟨Nat.le_of_ble_eq_true rfl, Nat.le_of_ble_eq_true rfl⟩) hP hD hS (kSub_all dkW_fst) rfl hl.1 rfl (Nat.le_of_ble_eq_true rfl) ⟨by show (0 + 1 + 1 + 1) + 1 ≤ 12; omega, by show 6 * (0 + 1 + 1 + 1) + 6 * 1 ≤ 72; omega⟩ dL_balls_52 (fun H locs hP hD hS => ?_)
  refine lv_istore (lv' := [(7, .int o52.1), (6, .int o41.1), (5, .int o30.1), (4, .int o19.1), (3, .int (krem (x1 / (5 : Int32)) (41 : Int32))), (2, .int ((krem x1 (5 : Int32)) - (2 : Int32))), (0, .ref (u.1 0)), (1, .int x1)]) hx hb dL_balls_55 hl (by decide) rfl (fun ls hl => ?_)
  refine lv_aload_n hx hb dL_balls_57 rfl (lv_at hl 6 rfl) ?_
  refine lv_bipush (v := 10) hx hb dL_balls_58 (by decide) ?_
  refine lv_iload hx hb dL_balls_60 (lv_at hl 3 rfl) ?_
  refine lv_iload_n hx hb dL_balls_62 rfl (lv_at hl 5 rfl) ?_
  refine lv_iconst (v := 2) hx hb dL_balls_63 (by decide) ?_
  obtain ⟨o64, ho64, hq⟩ := kbind hq
  refine kh_Si (k := (0 + 1 + 1 + 1 + 1)) (nc := 1) (av := [.ref (u.1 0), .int (10 : Int32), .int o19.1, .int ((krem x1 (5 : Int32)) - (2 : Int32)), .int (2 : Int32)]) (rest := []) (ws' := (dkW cI u o64.2)) hF hK hG hA (mk_L_call l hst D cI u H.size o52.2 (10 : Int32) o19.1 ((krem x1 (5 : Int32)) - (2 : Int32)) (2 : Int32) o64 ho64) (va_cwS 5 hts gL_balls_L_call rfl rfl rfl (by decide +kernel) ⟨Nat.le_of_ble_eq_true rfl, Nat.le_of_ble_eq_true rfl⟩) hP hD hS (kSub_all dkW_fst) rfl hl.1 rfl (Nat.le_of_ble_eq_true rfl) ⟨by show (0 + 1 + 1 + 1 + 1) + 1 ≤ 12; omega, by show 6 * (0 + 1 + 1 + 1 + 1) + 6 * 1 ≤ 72; omega⟩ dL_balls_64 (fun H locs hP hD hS => ?_)
  refine lv_istore (lv' := [(8, .int o64.1), (7, .int o52.1), (6, .int o41.1), (5, .int o30.1), (4, .int o19.1), (3, .int (krem (x1 / (5 : Int32)) (41 : Int32))), (2, .int ((krem x1 (5 : Int32)) - (2 : Int32))), (0, .ref (u.1 0)), (1, .int x1)]) hx hb dL_balls_67 hl (by decide) rfl (fun ls hl => ?_)
  refine lv_iload hx hb dL_balls_69 (lv_at hl 3 rfl) ?_
  refine lv_iload hx hb dL_balls_71 (lv_at hl 2 rfl) ?_
  refine lv_iand hx hb dL_balls_73 ?_
  refine lv_if_ne (tgt := 208) hx hb dL_balls_74 (by decide) (fun c9 => ?_) (fun c9 => ?_)
  · have hq := kite_f c9 hq
    exact b_208  (0 + 1 + 1 + 1 + 1 + 1) _ _ _ o64.2 (by omega) hq hP hD hS (lv_sub hl [] rfl)
  · have hq := kite_t c9 hq
    refine lv_iload hx hb dL_balls_77 (lv_at hl 1 rfl) ?_
    refine lv_if_lt (tgt := 208) hx hb dL_balls_79 (by decide) (fun c9 => ?_) (fun c9 => ?_)
    · have hq := kite_t c9 hq
      exact b_208  (0 + 1 + 1 + 1 + 1 + 1) _ _ _ o64.2 (by omega) hq hP hD hS (lv_sub hl [] rfl)
    · have hq := kite_f c9 hq
      refine lv_iload hx hb dL_balls_82 (lv_at hl 1 rfl) ?_
      refine lv_aload_n hx hb dL_balls_84 rfl (lv_at hl 7 rfl) ?_
      refine lv_iconst (v := 2) hx hb dL_balls_85 (by decide) ?_
      refine lv_bipush (v := 7) hx hb dL_balls_86 (by decide) ?_
      refine lv_iconst (v := 0) hx hb dL_balls_88 (by decide) ?_
      refine lv_iconst (v := 0) hx hb dL_balls_89 (by decide) ?_
      obtain ⟨o90, ho90, hq⟩ := kbind hq
      refine kh_Si (k := (0 + 1 + 1 + 1 + 1 + 1)) (nc := 1) (av := [.ref (u.1 0), .int (2 : Int32), .int (7 : Int32), .int (0 : Int32), .int (0 : Int32)]) (rest := [.int o52.1]) (ws' := (dkW cI u o90.2)) hF hK hG hA (mk_L_call l hst D cI u H.size o64.2 (2 : Int32) (7 : Int32) (0 : Int32) (0 : Int32) o90 ho90) (va_cwS 5 hts gL_balls_L_call rfl rfl rfl (by decide +kernel) ⟨Nat.le_of_ble_eq_true rfl, Nat.le_of_ble_eq_true rfl⟩) hP hD hS (kSub_all dkW_fst) rfl hl.1 rfl (Nat.le_of_ble_eq_true rfl) ⟨by show (0 + 1 + 1 + 1 + 1 + 1) + 1 ≤ 12; omega, by show 6 * (0 + 1 + 1 + 1 + 1 + 1) + 6 * 1 ≤ 72; omega⟩ dL_balls_90 (fun H locs hP hD hS => ?_)
      refine lv_icmp_gt (tgt := 208) hx hb dL_balls_93 (by decide) (fun c9 => ?_) (fun c9 => ?_)
      · have hq := kite_t c9 hq
        exact b_208  (0 + 1 + 1 + 1 + 1 + 1 + 1) _ _ _ o90.2 (by omega) hq hP hD hS (lv_sub hl [] rfl)
      · have hq := kite_f c9 hq
        refine lv_aload_n hx hb dL_balls_96 rfl (lv_at hl 7 rfl) ?_
        refine lv_bipush (v := 10) hx hb dL_balls_97 (by decide) ?_
        refine lv_iload_n hx hb dL_balls_99 rfl (lv_at hl 5 rfl) ?_
        refine lv_iload_n hx hb dL_balls_100 rfl (lv_at hl 6 rfl) ?_
        refine lv_iconst (v := 3) hx hb dL_balls_101 (by decide) ?_
        obtain ⟨o102, ho102, hq⟩ := kbind hq
        refine kh_Si (k := (0 + 1 + 1 + 1 + 1 + 1 + 1)) (nc := 1) (av := [.ref (u.1 0), .int (10 : Int32), .int (krem (x1 / (5 : Int32)) (41 : Int32)), .int ((krem x1 (5 : Int32)) - (2 : Int32)), .int (3 : Int32)]) (rest := []) (ws' := (dkW cI u o102.2)) hF hK hG hA (mk_L_call l hst D cI u H.size o90.2 (10 : Int32) (krem (x1 / (5 : Int32)) (41 : Int32)) ((krem x1 (5 : Int32)) - (2 : Int32)) (3 : Int32) o102 ho102) (va_cwS 5 hts gL_balls_L_call rfl rfl rfl (by decide +kernel) ⟨Nat.le_of_ble_eq_true rfl, Nat.le_of_ble_eq_true rfl⟩) hP hD hS (kSub_all dkW_fst) rfl hl.1 rfl (Nat.le_of_ble_eq_true rfl) ⟨by show (0 + 1 + 1 + 1 + 1 + 1 + 1) + 1 ≤ 12; omega, by show 6 * (0 + 1 + 1 + 1 + 1 + 1 + 1) + 6 * 1 ≤ 72; omega⟩ dL_balls_102 (fun H locs hP hD hS => ?_)
        refine lv_iload hx hb dL_balls_105 (lv_at hl 1 rfl) ?_
        refine lv_icmp_gt (tgt := 208) hx hb dL_balls_107 (by decide) (fun c9 => ?_) (fun c9 => ?_)
        · have hq := kite_t c9 hq
          exact b_208  (0 + 1 + 1 + 1 + 1 + 1 + 1 + 1) _ _ _ o102.2 (by omega) hq hP hD hS (lv_sub hl [] rfl)
        · have hq := kite_f c9 hq
          refine lv_iload hx hb dL_balls_110 (lv_at hl 1 rfl) ?_
          refine lv_aload_n hx hb dL_balls_112 rfl (lv_at hl 7 rfl) ?_
          refine lv_bipush (v := 10) hx hb dL_balls_113 (by decide) ?_
          refine lv_iload_n hx hb dL_balls_115 rfl (lv_at hl 5 rfl) ?_
          refine lv_iload_n hx hb dL_balls_116 rfl (lv_at hl 6 rfl) ?_
          refine lv_iconst (v := 3) hx hb dL_balls_117 (by decide) ?_
          obtain ⟨o118, ho118, hq⟩ := kbind hq
          refine kh_Si (k := (0 + 1 + 1 + 1 + 1 + 1 + 1 + 1)) (nc := 1) (av := [.ref (u.1 0), .int (10 : Int32), .int (krem (x1 / (5 : Int32)) (41 : Int32)), .int ((krem x1 (5 : Int32)) - (2 : Int32)), .int (3 : Int32)]) (rest := [.int o52.1]) (ws' := (dkW cI u o118.2)) hF hK hG hA (mk_L_call l hst D cI u H.size o102.2 (10 : Int32) (krem (x1 / (5 : Int32)) (41 : Int32)) ((krem x1 (5 : Int32)) - (2 : Int32)) (3 : Int32) o118 ho118) (va_cwS 5 hts gL_balls_L_call rfl rfl rfl (by decide +kernel) ⟨Nat.le_of_ble_eq_true rfl, Nat.le_of_ble_eq_true rfl⟩) hP hD hS (kSub_all dkW_fst) rfl hl.1 rfl (Nat.le_of_ble_eq_true rfl) ⟨by show (0 + 1 + 1 + 1 + 1 + 1 + 1 + 1) + 1 ≤ 12; omega, by show 6 * (0 + 1 + 1 + 1 + 1 + 1 + 1 + 1) + 6 * 1 ≤ 72; omega⟩ dL_balls_118 (fun H locs hP hD hS => ?_)
          refine lv_isub hx hb dL_balls_121 ?_
          refine lv_iload hx hb dL_balls_122 (lv_at hl 3 rfl) ?_
          obtain ⟨o124, ho124, hq⟩ := kbind hq
          refine kh_Si (k := (0 + 1 + 1 + 1 + 1 + 1 + 1 + 1 + 1)) (nc := 0) (av := [.int o30.1]) (rest := [.int (o52.1 - o118.1)]) (ws' := (dkW cI u o118.2)) hF hK hG hA (mk_L_bits l D cI H.size o30.1 o124 ho124) (va_cwS 1 hts gL_balls_L_bits rfl rfl rfl (by decide +kernel) ⟨Nat.le_of_ble_eq_true rfl, Nat.le_of_ble_eq_true rfl⟩) hP hD hS (kSub_nil) rfl hl.1 rfl (Nat.le_of_ble_eq_true rfl) ⟨by show (0 + 1 + 1 + 1 + 1 + 1 + 1 + 1 + 1) + 0 ≤ 12; omega, by show 6 * (0 + 1 + 1 + 1 + 1 + 1 + 1 + 1 + 1) + 6 * 0 ≤ 72; omega⟩ dL_balls_124 (fun H locs hP hD hS => ?_)
          refine lv_icmp_gt (tgt := 208) hx hb dL_balls_127 (by decide) (fun c9 => ?_) (fun c9 => ?_)
          · have hq := kite_t c9 hq
            exact b_208  (0 + 1 + 1 + 1 + 1 + 1 + 1 + 1 + 1 + 0) _ _ _ o118.2 (by omega) hq hP hD hS (lv_sub hl [] rfl)
          · have hq := kite_f c9 hq
            refine lv_iload hx hb dL_balls_130 (lv_at hl 1 rfl) ?_
            refine lv_iload hx hb dL_balls_132 (lv_at hl 0 rfl) ?_
            refine lv_icmp_gt (tgt := 208) hx hb dL_balls_134 (by decide) (fun c9 => ?_) (fun c9 => ?_)
            · have hq := kite_t c9 hq
              exact b_208  (0 + 1 + 1 + 1 + 1 + 1 + 1 + 1 + 1 + 0) _ _ _ o118.2 (by omega) hq hP hD hS (lv_sub hl [] rfl)
            · have hq := kite_f c9 hq
              refine lv_iload hx hb dL_balls_137 (lv_at hl 1 rfl) ?_
              refine lv_iload hx hb dL_balls_139 (lv_at hl 0 rfl) ?_
              refine lv_icmp_lt (tgt := 150) hx hb dL_balls_141 (by decide) (fun c9 => ?_) (fun c9 => ?_)
              · have hq := kite_t c9 hq
                exact b_150  (0 + 1 + 1 + 1 + 1 + 1 + 1 + 1 + 1 + 0) _ _ _ o118.2 ((krem x1 (5 : Int32)) - (2 : Int32)) (krem (x1 / (5 : Int32)) (41 : Int32)) (by omega) hq hP hD hS (lv_sub hl [7, 6, 5] rfl)
              · have hq := kite_f c9 hq
                refine lv_iload_n hx hb dL_balls_144 rfl (lv_at hl 5 rfl) ?_
                refine lv_iload hx hb dL_balls_145 (lv_at hl 4 rfl) ?_
                refine lv_icmp_lt (tgt := 208) hx hb dL_balls_147 (by decide) (fun c9 => ?_) (fun c9 => ?_)
                · have hq := kite_t c9 hq
                  exact b_208  (0 + 1 + 1 + 1 + 1 + 1 + 1 + 1 + 1 + 0) _ _ _ o118.2 (by omega) hq hP hD hS (lv_sub hl [] rfl)
                · have hq := kite_f c9 hq
                  exact b_150  (0 + 1 + 1 + 1 + 1 + 1 + 1 + 1 + 1 + 0) _ _ _ o118.2 ((krem x1 (5 : Int32)) - (2 : Int32)) (krem (x1 / (5 : Int32)) (41 : Int32)) (by omega) hq hP hD hS (lv_sub hl [7, 6, 5] rfl)

set_option maxHeartbeats 8000000 in
set_option maxRecDepth 100000 in
theorem mk_L_act (l : Launch) (hst : l.stackTraces = false) (D : va_G) (cI : Nat → ClassId) (u : kHad) (sz : Nat) (d : kDk) (x1 : Int32) (o : Int32 × kDk) (hq : fn_L_act d x1 = some o) : Met l yL_act wsL_act ({ frames := 9, cells := 2, slots := 12, locals := 217 }) (kPc D cI (dkW cI u d) sz [.ref (u.1 0), .int x1]) (kQi D (dkW cI u d) (dkW cI u o.2) sz o.1) 2 12 (va_A (dkW cI u d) sz) := by
  refine kM_hi (nc := 2) (cc := cL_act) (maxL := 2) (by decide +kernel) rfl (Nat.le_of_ble_eq_true rfl) ?_
  intro p e s m args below meth c A Q hF hK hG hD hA hend ls hP hS hl
  obtain ⟨hx, hb, hml, hown, hts⟩ := id hF
  have hl : lv_has ls 2 [(0, .ref (u.1 0)), (1, .int x1)] := hl
  have b_116 : ∀ (kc : Nat) (H : Heap) (locs : List Loc) (ls : Array Slot) (d : kDk) (k0 : Int32), kc + 0 ≤ 2 → fn_L_act_116 d k0 = some o → va_P D vwCl (dkW cI u d) H → va_D A (dkW cI u d) → va_S A s.heap H locs → lv_has ls 2 [] → W p l e ({ frames := 9, cells := 2, slots := 12, locals := 217 }) s m args below meth c H locs kc (6 * kc) Q (F0 m 116 ls [.int k0]) := by
    intro kc H locs ls d k0
    intro hkc hq hP hD hS hl
    have ho := Option.some.inj hq
    subst ho
    refine W.widen (k := 2) (n := 6 * 2) (by omega) (by omega) ?_
    exact hend _ _ _ _ hP hS dL_act_116
  have b_168 : ∀ (kc : Nat) (H : Heap) (locs : List Loc) (ls : Array Slot) (d : kDk) (k0 : Int32), kc + 0 ≤ 2 → fn_L_act_168 d k0 = some o → va_P D vwCl (dkW cI u d) H → va_D A (dkW cI u d) → va_S A s.heap H locs → lv_has ls 2 [] → W p l e ({ frames := 9, cells := 2, slots := 12, locals := 217 }) s m args below meth c H locs kc (6 * kc) Q (F0 m 168 ls [.int k0]) := by
    intro kc H locs ls d k0
    intro hkc hq hP hD hS hl
    have ho := Option.some.inj hq
    subst ho
    refine W.widen (k := 2) (n := 6 * 2) (by omega) (by omega) ?_
    exact hend _ _ _ _ hP hS dL_act_168
  have b_228 : ∀ (kc : Nat) (H : Heap) (locs : List Loc) (ls : Array Slot) (d : kDk) (k1 : Int32) (k2 : Int32) (k3 : Int32) (k4 : Int32), kc + 1 ≤ 2 → fn_L_act_228 d k1 k2 k3 k4 = some o → va_P D vwCl (dkW cI u d) H → va_D A (dkW cI u d) → va_S A s.heap H locs → lv_has ls 2 [] → W p l e ({ frames := 9, cells := 2, slots := 12, locals := 217 }) s m args below meth c H locs kc (6 * kc) Q (F0 m 228 ls [.int k4, .int k3, .int k2, .int k1, .ref (u.1 0)]) := by
    intro kc H locs ls d k1 k2 k3 k4
    intro hkc hq hP hD hS hl
    obtain ⟨o228, ho228, hq⟩ := kbind hq
    refine kh_Wi (k := kc) (nc := 1) (av := [.ref (u.1 0), .int k1, .int k2, .int k3, .int k4]) (rest := []) (ws' := (dkW cI u o228.2)) hF hK hG hA (bm_rolls l hst D cI u H.size d k1 k2 k3 k4 o228 ho228) (vx_cwSW 5 hts gL_act_L_rolls rfl rfl rfl (by decide +kernel) ⟨Nat.le_of_ble_eq_true rfl, Nat.le_of_ble_eq_true rfl⟩) hP hD hS (kSub_all dkW_fst) rfl hl.1 rfl (Nat.le_of_ble_eq_true rfl) ⟨by show kc + 1 ≤ 2; omega, by show 6 * kc + 6 * 1 ≤ 12; omega⟩ dL_act_228 (fun H locs hP hD hS => ?_)
    have ho := Option.some.inj hq
    subst ho
    refine W.widen (k := 2) (n := 6 * 2) (by omega) (by omega) ?_
    exact hend _ _ _ _ hP hS dL_act_231
  have b_213 : ∀ (kc : Nat) (H : Heap) (locs : List Loc) (ls : Array Slot) (d : kDk) (x1 : Int32) (k1 : Int32) (k2 : Int32) (k3 : Int32), kc + 1 ≤ 2 → fn_L_act_213 d x1 k1 k2 k3 = some o → va_P D vwCl (dkW cI u d) H → va_D A (dkW cI u d) → va_S A s.heap H locs → lv_has ls 2 [(1, .int x1)] → W p l e ({ frames := 9, cells := 2, slots := 12, locals := 217 }) s m args below meth c H locs kc (6 * kc) Q (F0 m 213 ls [.int k3, .int k2, .int k1, .ref (u.1 0)]) := by
    intro kc H locs ls d x1 k1 k2 k3
    intro hkc hq hP hD hS hl
    refine lv_iload_n hx hb dL_act_213 rfl (lv_at hl 0 rfl) ?_
    refine lv_bipush (v := 11) hx hb dL_act_214 (by decide) ?_
    refine lv_idiv hx hb dL_act_216 (by decide) ?_
    refine lv_bipush (v := 12) hx hb dL_act_217 (by decide) ?_
    refine lv_irem hx hb dL_act_219 (by decide) ?_
    refine lv_if_ne (tgt := 227) hx hb dL_act_220 (by decide) (fun c9 => ?_) (fun c9 => ?_)
    · have hq := kite_f c9 hq
      refine lv_iconst (v := 0) hx hb dL_act_227 (by decide) ?_
      exact b_228  kc _ _ _ d k1 k2 k3 (0 : Int32) (by omega) hq hP hD hS (lv_sub hl [] rfl)
    · have hq := kite_t c9 hq
      refine lv_iconst (v := 1) hx hb dL_act_223 (by decide) ?_
      refine lv_goto (tgt := 228) hx hb dL_act_224 (by decide) ?_
      exact b_228  kc _ _ _ d k1 k2 k3 (1 : Int32) (by omega) hq hP hD hS (lv_sub hl [] rfl)
  refine lv_iload_n hx hb dL_act_0 rfl (lv_at hl 1 rfl) ?_
  refine lv_bipush (v := 16) hx hb dL_act_1 (by decide) ?_
  refine lv_irem hx hb dL_act_3 (by decide) ?_
  unfold fn_L_act at hq
  change W p l e _ s m args below meth c _ _ _ _ Q (F0 m _ ls [.int (krem x1 (16 : Int32))])
  generalize (krem x1 (16 : Int32)) = x9 at hq ⊢
  by_cases c0 : x9 = 0
  · have hq := kite_t c0 hq
    refine lv_tableIn (off := 44) (tgt := 48) hx hb dL_act_4 (by rw [c0]; decide) (by rw [c0]; decide) (by rw [c0]; decide +kernel) (by decide) ?_
    refine lv_aload_n hx hb dL_act_48 rfl (lv_at hl 0 rfl) ?_
    refine lv_bipush (v := 7) hx hb dL_act_49 (by decide) ?_
    refine lv_iload_n hx hb dL_act_51 rfl (lv_at hl 1 rfl) ?_
    refine lv_bipush (v := 16) hx hb dL_act_52 (by decide) ?_
    refine lv_idiv hx hb dL_act_54 (by decide) ?_
    refine lv_bipush (v := 10) hx hb dL_act_55 (by decide) ?_
    refine lv_irem hx hb dL_act_57 (by decide) ?_
    refine lv_iload_n hx hb dL_act_58 rfl (lv_at hl 1 rfl) ?_
    refine lv_sipush (v := 160) hx hb dL_act_59 (by decide) ?_
    refine lv_idiv hx hb dL_act_62 (by decide) ?_
    refine lv_iconst (v := 4) hx hb dL_act_63 (by decide) ?_
    refine lv_irem hx hb dL_act_64 (by decide) ?_
    refine lv_iconst (v := 0) hx hb dL_act_65 (by decide) ?_
    obtain ⟨o66, ho66, hq⟩ := kbind hq
    refine kh_Si (k := 0) (nc := 1) (av := [.ref (u.1 0), .int (7 : Int32), .int (krem (x1 / (16 : Int32)) (10 : Int32)), .int (krem (x1 / (160 : Int32)) (4 : Int32)), .int (0 : Int32)]) (rest := []) (ws' := (dkW cI u o66.2)) hF hK hG hA (mk_L_call l hst D cI u s.heap.size d (7 : Int32) (krem (x1 / (16 : Int32)) (10 : Int32)) (krem (x1 / (160 : Int32)) (4 : Int32)) (0 : Int32) o66 ho66) (va_cwS 5 hts gL_act_L_call rfl rfl rfl (by decide +kernel) ⟨Nat.le_of_ble_eq_true rfl, Nat.le_of_ble_eq_true rfl⟩) hP hD hS (kSub_all dkW_fst) rfl hl.1 rfl (Nat.le_of_ble_eq_true rfl) ⟨by show 0 + 1 ≤ 2; omega, by show 6 * 0 + 6 * 1 ≤ 12; omega⟩ dL_act_66 (fun H locs hP hD hS => ?_)
    have ho := Option.some.inj hq
    subst ho
    refine W.widen (k := 2) (n := 6 * 2) (by omega) (by omega) ?_
    exact hend _ _ _ _ hP hS dL_act_69
  have hq := kite_f c0 hq
  by_cases c1 : x9 = 1
  · have hq := kite_t c1 hq
    refine lv_tableIn (off := 44) (tgt := 48) hx hb dL_act_4 (by rw [c1]; decide) (by rw [c1]; decide) (by rw [c1]; decide +kernel) (by decide) ?_
    refine lv_aload_n hx hb dL_act_48 rfl (lv_at hl 0 rfl) ?_
    refine lv_bipush (v := 7) hx hb dL_act_49 (by decide) ?_
    refine lv_iload_n hx hb dL_act_51 rfl (lv_at hl 1 rfl) ?_
    refine lv_bipush (v := 16) hx hb dL_act_52 (by decide) ?_
    refine lv_idiv hx hb dL_act_54 (by decide) ?_
    refine lv_bipush (v := 10) hx hb dL_act_55 (by decide) ?_
    refine lv_irem hx hb dL_act_57 (by decide) ?_
    refine lv_iload_n hx hb dL_act_58 rfl (lv_at hl 1 rfl) ?_
    refine lv_sipush (v := 160) hx hb dL_act_59 (by decide) ?_
    refine lv_idiv hx hb dL_act_62 (by decide) ?_
    refine lv_iconst (v := 4) hx hb dL_act_63 (by decide) ?_
    refine lv_irem hx hb dL_act_64 (by decide) ?_
    refine lv_iconst (v := 0) hx hb dL_act_65 (by decide) ?_
    obtain ⟨o66, ho66, hq⟩ := kbind hq
    refine kh_Si (k := 0) (nc := 1) (av := [.ref (u.1 0), .int (7 : Int32), .int (krem (x1 / (16 : Int32)) (10 : Int32)), .int (krem (x1 / (160 : Int32)) (4 : Int32)), .int (0 : Int32)]) (rest := []) (ws' := (dkW cI u o66.2)) hF hK hG hA (mk_L_call l hst D cI u s.heap.size d (7 : Int32) (krem (x1 / (16 : Int32)) (10 : Int32)) (krem (x1 / (160 : Int32)) (4 : Int32)) (0 : Int32) o66 ho66) (va_cwS 5 hts gL_act_L_call rfl rfl rfl (by decide +kernel) ⟨Nat.le_of_ble_eq_true rfl, Nat.le_of_ble_eq_true rfl⟩) hP hD hS (kSub_all dkW_fst) rfl hl.1 rfl (Nat.le_of_ble_eq_true rfl) ⟨by show 0 + 1 ≤ 2; omega, by show 6 * 0 + 6 * 1 ≤ 12; omega⟩ dL_act_66 (fun H locs hP hD hS => ?_)
    have ho := Option.some.inj hq
    subst ho
    refine W.widen (k := 2) (n := 6 * 2) (by omega) (by omega) ?_
    exact hend _ _ _ _ hP hS dL_act_69
  have hq := kite_f c1 hq
  by_cases c2 : x9 = 2
  · have hq := kite_t c2 hq
    refine lv_tableIn (off := 66) (tgt := 70) hx hb dL_act_4 (by rw [c2]; decide) (by rw [c2]; decide) (by rw [c2]; decide +kernel) (by decide) ?_
    refine lv_aload_n hx hb dL_act_70 rfl (lv_at hl 0 rfl) ?_
    refine lv_bipush (v := 8) hx hb dL_act_71 (by decide) ?_
    refine lv_iload_n hx hb dL_act_73 rfl (lv_at hl 1 rfl) ?_
    refine lv_bipush (v := 16) hx hb dL_act_74 (by decide) ?_
    refine lv_idiv hx hb dL_act_76 (by decide) ?_
    refine lv_iconst (v := 3) hx hb dL_act_77 (by decide) ?_
    refine lv_irem hx hb dL_act_78 (by decide) ?_
    refine lv_iload_n hx hb dL_act_79 rfl (lv_at hl 1 rfl) ?_
    refine lv_bipush (v := 48) hx hb dL_act_80 (by decide) ?_
    refine lv_idiv hx hb dL_act_82 (by decide) ?_
    refine lv_bipush (v := 25) hx hb dL_act_83 (by decide) ?_
    refine lv_irem hx hb dL_act_85 (by decide) ?_
    refine lv_iconst (v := 0) hx hb dL_act_86 (by decide) ?_
    obtain ⟨o87, ho87, hq⟩ := kbind hq
    refine kh_Si (k := 0) (nc := 1) (av := [.ref (u.1 0), .int (8 : Int32), .int (krem (x1 / (16 : Int32)) (3 : Int32)), .int (krem (x1 / (48 : Int32)) (25 : Int32)), .int (0 : Int32)]) (rest := []) (ws' := (dkW cI u o87.2)) hF hK hG hA (mk_L_call l hst D cI u s.heap.size d (8 : Int32) (krem (x1 / (16 : Int32)) (3 : Int32)) (krem (x1 / (48 : Int32)) (25 : Int32)) (0 : Int32) o87 ho87) (va_cwS 5 hts gL_act_L_call rfl rfl rfl (by decide +kernel) ⟨Nat.le_of_ble_eq_true rfl, Nat.le_of_ble_eq_true rfl⟩) hP hD hS (kSub_all dkW_fst) rfl hl.1 rfl (Nat.le_of_ble_eq_true rfl) ⟨by show 0 + 1 ≤ 2; omega, by show 6 * 0 + 6 * 1 ≤ 12; omega⟩ dL_act_87 (fun H locs hP hD hS => ?_)
    have ho := Option.some.inj hq
    subst ho
    refine W.widen (k := 2) (n := 6 * 2) (by omega) (by omega) ?_
    exact hend _ _ _ _ hP hS dL_act_90
  have hq := kite_f c2 hq
  by_cases c3 : x9 = 3
  · have hq := kite_t c3 hq
    refine lv_tableIn (off := 87) (tgt := 91) hx hb dL_act_4 (by rw [c3]; decide) (by rw [c3]; decide) (by rw [c3]; decide +kernel) (by decide) ?_
    refine lv_aload_n hx hb dL_act_91 rfl (lv_at hl 0 rfl) ?_
    refine lv_iconst (v := 2) hx hb dL_act_92 (by decide) ?_
    refine lv_iconst (v := 2) hx hb dL_act_93 (by decide) ?_
    refine lv_iconst (v := 0) hx hb dL_act_94 (by decide) ?_
    refine lv_iconst (v := 0) hx hb dL_act_95 (by decide) ?_
    obtain ⟨o96, ho96, hq⟩ := kbind hq
    refine kh_Si (k := 0) (nc := 1) (av := [.ref (u.1 0), .int (2 : Int32), .int (2 : Int32), .int (0 : Int32), .int (0 : Int32)]) (rest := []) (ws' := (dkW cI u o96.2)) hF hK hG hA (mk_L_call l hst D cI u s.heap.size d (2 : Int32) (2 : Int32) (0 : Int32) (0 : Int32) o96 ho96) (va_cwS 5 hts gL_act_L_call rfl rfl rfl (by decide +kernel) ⟨Nat.le_of_ble_eq_true rfl, Nat.le_of_ble_eq_true rfl⟩) hP hD hS (kSub_all dkW_fst) rfl hl.1 rfl (Nat.le_of_ble_eq_true rfl) ⟨by show 0 + 1 ≤ 2; omega, by show 6 * 0 + 6 * 1 ≤ 12; omega⟩ dL_act_96 (fun H locs hP hD hS => ?_)
    refine lv_iconst (v := 2) hx hb dL_act_99 (by decide) ?_
    refine lv_icmp_ge (tgt := 107) hx hb dL_act_100 (by decide) (fun c9 => ?_) (fun c9 => ?_)
    · have hq := kite_t c9 hq
      refine lv_aload_n hx hb dL_act_107 rfl (lv_at hl 0 rfl) ?_
      refine lv_bipush (v := 9) hx hb dL_act_108 (by decide) ?_
      refine lv_iconst (v := 0) hx hb dL_act_110 (by decide) ?_
      refine lv_iconst (v := 0) hx hb dL_act_111 (by decide) ?_
      refine lv_iconst (v := 0) hx hb dL_act_112 (by decide) ?_
      obtain ⟨o113, ho113, hq⟩ := kbind hq
      refine kh_Si (k := (0 + 1)) (nc := 1) (av := [.ref (u.1 0), .int (9 : Int32), .int (0 : Int32), .int (0 : Int32), .int (0 : Int32)]) (rest := []) (ws' := (dkW cI u o113.2)) hF hK hG hA (mk_L_call l hst D cI u H.size o96.2 (9 : Int32) (0 : Int32) (0 : Int32) (0 : Int32) o113 ho113) (va_cwS 5 hts gL_act_L_call rfl rfl rfl (by decide +kernel) ⟨Nat.le_of_ble_eq_true rfl, Nat.le_of_ble_eq_true rfl⟩) hP hD hS (kSub_all dkW_fst) rfl hl.1 rfl (Nat.le_of_ble_eq_true rfl) ⟨by show (0 + 1) + 1 ≤ 2; omega, by show 6 * (0 + 1) + 6 * 1 ≤ 12; omega⟩ dL_act_113 (fun H locs hP hD hS => ?_)
      exact b_116  (0 + 1 + 1) _ _ _ o113.2 o113.1 (by omega) hq hP hD hS (lv_sub hl [] rfl)
    · have hq := kite_f c9 hq
      refine lv_iconst (v := (-1)) hx hb dL_act_103 (by decide) ?_
      refine lv_goto (tgt := 116) hx hb dL_act_104 (by decide) ?_
      exact b_116  (0 + 1) _ _ _ o96.2 (-1 : Int32) (by omega) hq hP hD hS (lv_sub hl [] rfl)
  have hq := kite_f c3 hq
  by_cases c4 : x9 = 4
  · have hq := kite_t c4 hq
    refine lv_tableIn (off := 113) (tgt := 117) hx hb dL_act_4 (by rw [c4]; decide) (by rw [c4]; decide) (by rw [c4]; decide +kernel) (by decide) ?_
    refine lv_aload_n hx hb dL_act_117 rfl (lv_at hl 0 rfl) ?_
    refine lv_bipush (v := 13) hx hb dL_act_118 (by decide) ?_
    refine lv_iload_n hx hb dL_act_120 rfl (lv_at hl 1 rfl) ?_
    refine lv_bipush (v := 16) hx hb dL_act_121 (by decide) ?_
    refine lv_idiv hx hb dL_act_123 (by decide) ?_
    refine lv_iconst (v := 2) hx hb dL_act_124 (by decide) ?_
    refine lv_irem hx hb dL_act_125 (by decide) ?_
    refine lv_iconst (v := 0) hx hb dL_act_126 (by decide) ?_
    refine lv_iconst (v := 0) hx hb dL_act_127 (by decide) ?_
    obtain ⟨o128, ho128, hq⟩ := kbind hq
    refine kh_Si (k := 0) (nc := 1) (av := [.ref (u.1 0), .int (13 : Int32), .int (krem (x1 / (16 : Int32)) (2 : Int32)), .int (0 : Int32), .int (0 : Int32)]) (rest := []) (ws' := (dkW cI u o128.2)) hF hK hG hA (mk_L_call l hst D cI u s.heap.size d (13 : Int32) (krem (x1 / (16 : Int32)) (2 : Int32)) (0 : Int32) (0 : Int32) o128 ho128) (va_cwS 5 hts gL_act_L_call rfl rfl rfl (by decide +kernel) ⟨Nat.le_of_ble_eq_true rfl, Nat.le_of_ble_eq_true rfl⟩) hP hD hS (kSub_all dkW_fst) rfl hl.1 rfl (Nat.le_of_ble_eq_true rfl) ⟨by show 0 + 1 ≤ 2; omega, by show 6 * 0 + 6 * 1 ≤ 12; omega⟩ dL_act_128 (fun H locs hP hD hS => ?_)
    have ho := Option.some.inj hq
    subst ho
    refine W.widen (k := 2) (n := 6 * 2) (by omega) (by omega) ?_
    exact hend _ _ _ _ hP hS dL_act_131
  have hq := kite_f c4 hq
  by_cases c5 : x9 = 5
  · have hq := kite_t c5 hq
    refine lv_tableIn (off := 128) (tgt := 132) hx hb dL_act_4 (by rw [c5]; decide) (by rw [c5]; decide) (by rw [c5]; decide +kernel) (by decide) ?_
    refine lv_aload_n hx hb dL_act_132 rfl (lv_at hl 0 rfl) ?_
    refine lv_bipush (v := 14) hx hb dL_act_133 (by decide) ?_
    refine lv_iload_n hx hb dL_act_135 rfl (lv_at hl 1 rfl) ?_
    refine lv_bipush (v := 16) hx hb dL_act_136 (by decide) ?_
    refine lv_idiv hx hb dL_act_138 (by decide) ?_
    refine lv_iconst (v := 2) hx hb dL_act_139 (by decide) ?_
    refine lv_irem hx hb dL_act_140 (by decide) ?_
    refine lv_iconst (v := 0) hx hb dL_act_141 (by decide) ?_
    refine lv_iconst (v := 0) hx hb dL_act_142 (by decide) ?_
    obtain ⟨o143, ho143, hq⟩ := kbind hq
    refine kh_Si (k := 0) (nc := 1) (av := [.ref (u.1 0), .int (14 : Int32), .int (krem (x1 / (16 : Int32)) (2 : Int32)), .int (0 : Int32), .int (0 : Int32)]) (rest := []) (ws' := (dkW cI u o143.2)) hF hK hG hA (mk_L_call l hst D cI u s.heap.size d (14 : Int32) (krem (x1 / (16 : Int32)) (2 : Int32)) (0 : Int32) (0 : Int32) o143 ho143) (va_cwS 5 hts gL_act_L_call rfl rfl rfl (by decide +kernel) ⟨Nat.le_of_ble_eq_true rfl, Nat.le_of_ble_eq_true rfl⟩) hP hD hS (kSub_all dkW_fst) rfl hl.1 rfl (Nat.le_of_ble_eq_true rfl) ⟨by show 0 + 1 ≤ 2; omega, by show 6 * 0 + 6 * 1 ≤ 12; omega⟩ dL_act_143 (fun H locs hP hD hS => ?_)
    have ho := Option.some.inj hq
    subst ho
    refine W.widen (k := 2) (n := 6 * 2) (by omega) (by omega) ?_
    exact hend _ _ _ _ hP hS dL_act_146
  have hq := kite_f c5 hq
  by_cases c6 : x9 = 6
  · have hq := kite_t c6 hq
    refine lv_tableIn (off := 143) (tgt := 147) hx hb dL_act_4 (by rw [c6]; decide) (by rw [c6]; decide) (by rw [c6]; decide +kernel) (by decide) ?_
    refine lv_aload_n hx hb dL_act_147 rfl (lv_at hl 0 rfl) ?_
    refine lv_iconst (v := 2) hx hb dL_act_148 (by decide) ?_
    refine lv_bipush (v := 9) hx hb dL_act_149 (by decide) ?_
    refine lv_iconst (v := 0) hx hb dL_act_151 (by decide) ?_
    refine lv_iconst (v := 0) hx hb dL_act_152 (by decide) ?_
    obtain ⟨o153, ho153, hq⟩ := kbind hq
    refine kh_Si (k := 0) (nc := 1) (av := [.ref (u.1 0), .int (2 : Int32), .int (9 : Int32), .int (0 : Int32), .int (0 : Int32)]) (rest := []) (ws' := (dkW cI u o153.2)) hF hK hG hA (mk_L_call l hst D cI u s.heap.size d (2 : Int32) (9 : Int32) (0 : Int32) (0 : Int32) o153 ho153) (va_cwS 5 hts gL_act_L_call rfl rfl rfl (by decide +kernel) ⟨Nat.le_of_ble_eq_true rfl, Nat.le_of_ble_eq_true rfl⟩) hP hD hS (kSub_all dkW_fst) rfl hl.1 rfl (Nat.le_of_ble_eq_true rfl) ⟨by show 0 + 1 ≤ 2; omega, by show 6 * 0 + 6 * 1 ≤ 12; omega⟩ dL_act_153 (fun H locs hP hD hS => ?_)
    refine lv_iconst (v := 1) hx hb dL_act_156 (by decide) ?_
    refine lv_icmp_ne (tgt := 167) hx hb dL_act_157 (by decide) (fun c9 => ?_) (fun c9 => ?_)
    · have hq := kite_f c9 hq
      refine lv_iconst (v := (-1)) hx hb dL_act_167 (by decide) ?_
      exact b_168  (0 + 1) _ _ _ o153.2 (-1 : Int32) (by omega) hq hP hD hS (lv_sub hl [] rfl)
    · have hq := kite_t c9 hq
      refine lv_aload_n hx hb dL_act_160 rfl (lv_at hl 0 rfl) ?_
      obtain ⟨o161, ho161, hq⟩ := kbind hq
      refine kd_Vi (av := []) (rest := []) (ws' := (dkW cI u o161.2)) hF hK hG hA (bm_begin l hst D cI u H.size o153.2 o161 ho161) (cwV 0 hts gL_act_X7_begin rfl rfl rfl (by decide +kernel) ⟨Nat.le_of_ble_eq_true rfl, Nat.le_of_ble_eq_true rfl⟩) hP hD hS (kSub_all dkW_fst) 0 (ci := 6) (N := 5) (T := TX7) rfl rfl rfl hl.1 rfl (Nat.le_of_ble_eq_true rfl) ⟨by show (0 + 1) ≤ 2; omega, by show 6 * (0 + 1) ≤ 12; omega⟩ dL_act_161 (fun H locs hP hD hS => ?_)
      refine lv_goto (tgt := 168) hx hb dL_act_164 (by decide) ?_
      exact b_168  (0 + 1) _ _ _ o161.2 o161.1 (by omega) hq hP hD hS (lv_sub hl [] rfl)
  have hq := kite_f c6 hq
  have hsw : (x9).toInt < 0 ∨ 6 < (x9).toInt := by
    refine Decidable.byContradiction fun hn => ?_
    have h9 : (x9).toInt = 0 ∨ (x9).toInt = 1 ∨ (x9).toInt = 2 ∨ (x9).toInt = 3 ∨ (x9).toInt = 4 ∨ (x9).toInt = 5 ∨ (x9).toInt = 6 := by omega
    rcases h9 with h9 | h9 | h9 | h9 | h9 | h9 | h9
    · exact c0 (Int32.toInt_inj.mp (h9.trans (by decide)))
    · exact c1 (Int32.toInt_inj.mp (h9.trans (by decide)))
    · exact c2 (Int32.toInt_inj.mp (h9.trans (by decide)))
    · exact c3 (Int32.toInt_inj.mp (h9.trans (by decide)))
    · exact c4 (Int32.toInt_inj.mp (h9.trans (by decide)))
    · exact c5 (Int32.toInt_inj.mp (h9.trans (by decide)))
    · exact c6 (Int32.toInt_inj.mp (h9.trans (by decide)))
  refine lv_tableOut (tgt := 169) hx hb dL_act_4 hsw (by decide) ?_
  refine lv_aload_n hx hb dL_act_169 rfl (lv_at hl 0 rfl) ?_
  refine lv_bipush (v := 8) hx hb dL_act_170 (by decide) ?_
  refine lv_iload_n hx hb dL_act_172 rfl (lv_at hl 1 rfl) ?_
  refine lv_bipush (v := 16) hx hb dL_act_173 (by decide) ?_
  refine lv_idiv hx hb dL_act_175 (by decide) ?_
  refine lv_bipush (v := 25) hx hb dL_act_176 (by decide) ?_
  refine lv_irem hx hb dL_act_178 (by decide) ?_
  refine lv_iadd hx hb dL_act_179 ?_
  refine lv_iload_n hx hb dL_act_180 rfl (lv_at hl 1 rfl) ?_
  refine lv_sipush (v := 400) hx hb dL_act_181 (by decide) ?_
  refine lv_idiv hx hb dL_act_184 (by decide) ?_
  refine lv_iconst (v := 5) hx hb dL_act_185 (by decide) ?_
  refine lv_irem hx hb dL_act_186 (by decide) ?_
  refine lv_iconst (v := 2) hx hb dL_act_187 (by decide) ?_
  refine lv_isub hx hb dL_act_188 ?_
  refine lv_iload_n hx hb dL_act_189 rfl (lv_at hl 1 rfl) ?_
  refine lv_bipush (v := 7) hx hb dL_act_190 (by decide) ?_
  refine lv_idiv hx hb dL_act_192 (by decide) ?_
  refine lv_iconst (v := 4) hx hb dL_act_193 (by decide) ?_
  refine lv_irem hx hb dL_act_194 (by decide) ?_
  refine lv_if_ne (tgt := 211) hx hb dL_act_195 (by decide) (fun c9 => ?_) (fun c9 => ?_)
  · have hq := kite_f c9 hq
    refine lv_bipush (v := 30) hx hb dL_act_211 (by decide) ?_
    exact b_213  0 _ _ _ d x1 ((8 : Int32) + (krem (x1 / (16 : Int32)) (25 : Int32))) ((krem (x1 / (400 : Int32)) (5 : Int32)) - (2 : Int32)) (30 : Int32) (by omega) hq hP hD hS (lv_sub hl [1] rfl)
  · have hq := kite_t c9 hq
    refine lv_iconst (v := 1) hx hb dL_act_198 (by decide) ?_
    refine lv_iload_n hx hb dL_act_199 rfl (lv_at hl 1 rfl) ?_
    refine lv_sipush (v := 2000) hx hb dL_act_200 (by decide) ?_
    refine lv_idiv hx hb dL_act_203 (by decide) ?_
    refine lv_bipush (v := 30) hx hb dL_act_204 (by decide) ?_
    refine lv_irem hx hb dL_act_206 (by decide) ?_
    refine lv_iadd hx hb dL_act_207 ?_
    refine lv_goto (tgt := 213) hx hb dL_act_208 (by decide) ?_
    exact b_213  0 _ _ _ d x1 ((8 : Int32) + (krem (x1 / (16 : Int32)) (25 : Int32))) ((krem (x1 / (400 : Int32)) (5 : Int32)) - (2 : Int32)) ((1 : Int32) + (krem (x1 / (2000 : Int32)) (30 : Int32))) (by omega) hq hP hD hS (lv_sub hl [1] rfl)

