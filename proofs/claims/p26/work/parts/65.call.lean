/-! call (written by wip/p26/gen/gen26.py) -/
set_option maxHeartbeats 8000000 in
set_option maxRecDepth 100000 in
theorem mk_L_call (l : Launch) (hst : l.stackTraces = false) (D : va_G) (cI : Nat → ClassId) (u : kHad) (sz : Nat) (d : kDk) (x1 : Int32) (x2 : Int32) (x3 : Int32) (x4 : Int32) (o : Int32 × kDk) (hq : fn_L_call d x1 x2 x3 x4 = some o) : Met l yL_call wsL_call ({ frames := 8, cells := 1, slots := 6, locals := 193 }) (kPc D cI (dkW cI u d) sz [.ref (u.1 0), .int x1, .int x2, .int x3, .int x4]) (kQi D (dkW cI u d) (dkW cI u o.2) sz o.1) 1 6 (va_A (dkW cI u d) sz) := by
  refine kM_hi (nc := 1) (cc := cL_call) (maxL := 5) (by decide +kernel) rfl (Nat.le_of_ble_eq_true rfl) ?_
  intro p e s m args below meth c A Q hF hK hG hD hA hend ls hP hS hl
  obtain ⟨hx, hb, hml, hown, hts⟩ := id hF
  have hl : lv_has ls 5 [(0, .ref (u.1 0)), (1, .int x1), (2, .int x2), (3, .int x3), (4, .int x4)] := hl
  refine lv_iload_n hx hb dL_call_0 rfl (lv_at hl 1 rfl) ?_
  by_cases c0 : x1 = 0
  · have hq := kite_t c0 hq
    refine lv_tableIn (off := 71) (tgt := 72) hx hb dL_call_1 (by rw [c0]; decide) (by rw [c0]; decide) (by rw [c0]; decide +kernel) (by decide) ?_
    refine lv_aload_n hx hb dL_call_72 rfl (lv_at hl 0 rfl) ?_
    refine lv_iload_n hx hb dL_call_73 rfl (lv_at hl 2 rfl) ?_
    obtain ⟨o74, ho74, hq⟩ := kbind hq
    refine kh_Wi (k := 0) (nc := 1) (av := [.ref (u.1 0), .int x2]) (rest := []) (ws' := (dkW cI u o74.2)) hF hK hG hA (bm_tryAppend l hst D cI u s.heap.size d x2 o74 ho74) (vx_cwSW 2 hts gL_call_L_tryAppend rfl rfl rfl (by decide +kernel) ⟨Nat.le_of_ble_eq_true rfl, Nat.le_of_ble_eq_true rfl⟩) hP hD hS (kSub_all dkW_fst) rfl hl.1 rfl (Nat.le_of_ble_eq_true rfl) ⟨by show 0 + 1 ≤ 1; omega, by show 6 * 0 + 6 * 1 ≤ 6; omega⟩ dL_call_74 (fun H locs hP hD hS => ?_)
    have ho := Option.some.inj hq
    subst ho
    refine W.widen (k := 1) (n := 6 * 1) (by omega) (by omega) ?_
    exact hend _ _ _ _ hP hS dL_call_77
  have hq := kite_f c0 hq
  by_cases c1 : x1 = 1
  · have hq := kite_t c1 hq
    refine lv_tableIn (off := 77) (tgt := 78) hx hb dL_call_1 (by rw [c1]; decide) (by rw [c1]; decide) (by rw [c1]; decide +kernel) (by decide) ?_
    refine lv_aload_n hx hb dL_call_78 rfl (lv_at hl 0 rfl) ?_
    obtain ⟨o79, ho79, hq⟩ := kbind hq
    refine kh_Wi (k := 0) (nc := 1) (av := [.ref (u.1 0)]) (rest := []) (ws' := (dkW cI u o79.2)) hF hK hG hA (bm_tryLoad l hst D cI u s.heap.size d o79 ho79) (vx_cwSW 1 hts gL_call_L_tryLoad rfl rfl rfl (by decide +kernel) ⟨Nat.le_of_ble_eq_true rfl, Nat.le_of_ble_eq_true rfl⟩) hP hD hS (kSub_all dkW_fst) rfl hl.1 rfl (Nat.le_of_ble_eq_true rfl) ⟨by show 0 + 1 ≤ 1; omega, by show 6 * 0 + 6 * 1 ≤ 6; omega⟩ dL_call_79 (fun H locs hP hD hS => ?_)
    have ho := Option.some.inj hq
    subst ho
    refine W.widen (k := 1) (n := 6 * 1) (by omega) (by omega) ?_
    exact hend _ _ _ _ hP hS dL_call_82
  have hq := kite_f c1 hq
  by_cases c2 : x1 = 2
  · have hq := kite_t c2 hq
    refine lv_tableIn (off := 82) (tgt := 83) hx hb dL_call_1 (by rw [c2]; decide) (by rw [c2]; decide) (by rw [c2]; decide +kernel) (by decide) ?_
    refine lv_aload_n hx hb dL_call_83 rfl (lv_at hl 0 rfl) ?_
    refine lv_iload_n hx hb dL_call_84 rfl (lv_at hl 2 rfl) ?_
    obtain ⟨o85, ho85, hq⟩ := kbind hq
    refine kh_Wi (k := 0) (nc := 1) (av := [.ref (u.1 0), .int x2]) (rest := []) (ws' := (dkW cI u o85.2)) hF hK hG hA (bm_tryAbout l hst D cI u s.heap.size d x2 o85 ho85) (vx_cwSW 2 hts gL_call_L_tryAbout rfl rfl rfl (by decide +kernel) ⟨Nat.le_of_ble_eq_true rfl, Nat.le_of_ble_eq_true rfl⟩) hP hD hS (kSub_all dkW_fst) rfl hl.1 rfl (Nat.le_of_ble_eq_true rfl) ⟨by show 0 + 1 ≤ 1; omega, by show 6 * 0 + 6 * 1 ≤ 6; omega⟩ dL_call_85 (fun H locs hP hD hS => ?_)
    have ho := Option.some.inj hq
    subst ho
    refine W.widen (k := 1) (n := 6 * 1) (by omega) (by omega) ?_
    exact hend _ _ _ _ hP hS dL_call_88
  have hq := kite_f c2 hq
  by_cases c3 : x1 = 3
  · have hq := kite_t c3 hq
    refine lv_tableIn (off := 88) (tgt := 89) hx hb dL_call_1 (by rw [c3]; decide) (by rw [c3]; decide) (by rw [c3]; decide +kernel) (by decide) ?_
    refine lv_aload_n hx hb dL_call_89 rfl (lv_at hl 0 rfl) ?_
    refine lv_iload_n hx hb dL_call_90 rfl (lv_at hl 2 rfl) ?_
    refine lv_iload_n hx hb dL_call_91 rfl (lv_at hl 3 rfl) ?_
    obtain ⟨o92, ho92, hq⟩ := kbind hq
    refine kh_Wi (k := 0) (nc := 1) (av := [.ref (u.1 0), .int x2, .int x3]) (rest := []) (ws' := (dkW cI u o92.2)) hF hK hG hA (bm_tryPin l hst D cI u s.heap.size d x2 x3 o92 ho92) (vx_cwSW 3 hts gL_call_L_tryPin rfl rfl rfl (by decide +kernel) ⟨Nat.le_of_ble_eq_true rfl, Nat.le_of_ble_eq_true rfl⟩) hP hD hS (kSub_all dkW_fst) rfl hl.1 rfl (Nat.le_of_ble_eq_true rfl) ⟨by show 0 + 1 ≤ 1; omega, by show 6 * 0 + 6 * 1 ≤ 6; omega⟩ dL_call_92 (fun H locs hP hD hS => ?_)
    have ho := Option.some.inj hq
    subst ho
    refine W.widen (k := 1) (n := 6 * 1) (by omega) (by omega) ?_
    exact hend _ _ _ _ hP hS dL_call_95
  have hq := kite_f c3 hq
  by_cases c4 : x1 = 4
  · have hq := kite_t c4 hq
    refine lv_tableIn (off := 95) (tgt := 96) hx hb dL_call_1 (by rw [c4]; decide) (by rw [c4]; decide) (by rw [c4]; decide +kernel) (by decide) ?_
    refine lv_aload_n hx hb dL_call_96 rfl (lv_at hl 0 rfl) ?_
    refine lv_iload_n hx hb dL_call_97 rfl (lv_at hl 2 rfl) ?_
    refine lv_iload_n hx hb dL_call_98 rfl (lv_at hl 3 rfl) ?_
    obtain ⟨o99, ho99, hq⟩ := kbind hq
    refine kh_Wi (k := 0) (nc := 1) (av := [.ref (u.1 0), .int x2, .int x3]) (rest := []) (ws' := (dkW cI u o99.2)) hF hK hG hA (bm_tryFrame l hst D cI u s.heap.size d x2 x3 o99 ho99) (vx_cwSW 3 hts gL_call_L_tryFrame rfl rfl rfl (by decide +kernel) ⟨Nat.le_of_ble_eq_true rfl, Nat.le_of_ble_eq_true rfl⟩) hP hD hS (kSub_all dkW_fst) rfl hl.1 rfl (Nat.le_of_ble_eq_true rfl) ⟨by show 0 + 1 ≤ 1; omega, by show 6 * 0 + 6 * 1 ≤ 6; omega⟩ dL_call_99 (fun H locs hP hD hS => ?_)
    have ho := Option.some.inj hq
    subst ho
    refine W.widen (k := 1) (n := 6 * 1) (by omega) (by omega) ?_
    exact hend _ _ _ _ hP hS dL_call_102
  have hq := kite_f c4 hq
  by_cases c5 : x1 = 5
  · have hq := kite_t c5 hq
    refine lv_tableIn (off := 102) (tgt := 103) hx hb dL_call_1 (by rw [c5]; decide) (by rw [c5]; decide) (by rw [c5]; decide +kernel) (by decide) ?_
    refine lv_aload_n hx hb dL_call_103 rfl (lv_at hl 0 rfl) ?_
    refine lv_iload_n hx hb dL_call_104 rfl (lv_at hl 2 rfl) ?_
    obtain ⟨o105, ho105, hq⟩ := kbind hq
    refine kh_Wi (k := 0) (nc := 1) (av := [.ref (u.1 0), .int x2]) (rest := []) (ws' := (dkW cI u o105.2)) hF hK hG hA (bm_tryTaken l hst D cI u s.heap.size d x2 o105 ho105) (vx_cwSW 2 hts gL_call_L_tryTaken rfl rfl rfl (by decide +kernel) ⟨Nat.le_of_ble_eq_true rfl, Nat.le_of_ble_eq_true rfl⟩) hP hD hS (kSub_all dkW_fst) rfl hl.1 rfl (Nat.le_of_ble_eq_true rfl) ⟨by show 0 + 1 ≤ 1; omega, by show 6 * 0 + 6 * 1 ≤ 6; omega⟩ dL_call_105 (fun H locs hP hD hS => ?_)
    have ho := Option.some.inj hq
    subst ho
    refine W.widen (k := 1) (n := 6 * 1) (by omega) (by omega) ?_
    exact hend _ _ _ _ hP hS dL_call_108
  have hq := kite_f c5 hq
  by_cases c6 : x1 = 6
  · have hq := kite_t c6 hq
    refine lv_tableIn (off := 108) (tgt := 109) hx hb dL_call_1 (by rw [c6]; decide) (by rw [c6]; decide) (by rw [c6]; decide +kernel) (by decide) ?_
    refine lv_aload_n hx hb dL_call_109 rfl (lv_at hl 0 rfl) ?_
    refine lv_iload_n hx hb dL_call_110 rfl (lv_at hl 2 rfl) ?_
    obtain ⟨o111, ho111, hq⟩ := kbind hq
    refine kh_Wi (k := 0) (nc := 1) (av := [.ref (u.1 0), .int x2]) (rest := []) (ws' := (dkW cI u o111.2)) hF hK hG hA (bm_trySetting l hst D cI u s.heap.size d x2 o111 ho111) (vx_cwSW 2 hts gL_call_L_trySetting rfl rfl rfl (by decide +kernel) ⟨Nat.le_of_ble_eq_true rfl, Nat.le_of_ble_eq_true rfl⟩) hP hD hS (kSub_all dkW_fst) rfl hl.1 rfl (Nat.le_of_ble_eq_true rfl) ⟨by show 0 + 1 ≤ 1; omega, by show 6 * 0 + 6 * 1 ≤ 6; omega⟩ dL_call_111 (fun H locs hP hD hS => ?_)
    have ho := Option.some.inj hq
    subst ho
    refine W.widen (k := 1) (n := 6 * 1) (by omega) (by omega) ?_
    exact hend _ _ _ _ hP hS dL_call_114
  have hq := kite_f c6 hq
  by_cases c7 : x1 = 7
  · have hq := kite_t c7 hq
    refine lv_tableIn (off := 114) (tgt := 115) hx hb dL_call_1 (by rw [c7]; decide) (by rw [c7]; decide) (by rw [c7]; decide +kernel) (by decide) ?_
    refine lv_aload_n hx hb dL_call_115 rfl (lv_at hl 0 rfl) ?_
    refine lv_iload_n hx hb dL_call_116 rfl (lv_at hl 2 rfl) ?_
    refine lv_iload_n hx hb dL_call_117 rfl (lv_at hl 3 rfl) ?_
    obtain ⟨o118, ho118, hq⟩ := kbind hq
    refine kh_Wi (k := 0) (nc := 1) (av := [.ref (u.1 0), .int x2, .int x3]) (rest := []) (ws' := (dkW cI u o118.2)) hF hK hG hA (bm_tryTouch l hst D cI u s.heap.size d x2 x3 o118 ho118) (vx_cwSW 3 hts gL_call_L_tryTouch rfl rfl rfl (by decide +kernel) ⟨Nat.le_of_ble_eq_true rfl, Nat.le_of_ble_eq_true rfl⟩) hP hD hS (kSub_all dkW_fst) rfl hl.1 rfl (Nat.le_of_ble_eq_true rfl) ⟨by show 0 + 1 ≤ 1; omega, by show 6 * 0 + 6 * 1 ≤ 6; omega⟩ dL_call_118 (fun H locs hP hD hS => ?_)
    have ho := Option.some.inj hq
    subst ho
    refine W.widen (k := 1) (n := 6 * 1) (by omega) (by omega) ?_
    exact hend _ _ _ _ hP hS dL_call_121
  have hq := kite_f c7 hq
  by_cases c8 : x1 = 8
  · have hq := kite_t c8 hq
    refine lv_tableIn (off := 121) (tgt := 122) hx hb dL_call_1 (by rw [c8]; decide) (by rw [c8]; decide) (by rw [c8]; decide +kernel) (by decide) ?_
    refine lv_aload_n hx hb dL_call_122 rfl (lv_at hl 0 rfl) ?_
    refine lv_iload_n hx hb dL_call_123 rfl (lv_at hl 2 rfl) ?_
    refine lv_iload_n hx hb dL_call_124 rfl (lv_at hl 3 rfl) ?_
    obtain ⟨o125, ho125, hq⟩ := kbind hq
    refine kh_Wi (k := 0) (nc := 1) (av := [.ref (u.1 0), .int x2, .int x3]) (rest := []) (ws' := (dkW cI u o125.2)) hF hK hG hA (bm_tryLay l hst D cI u s.heap.size d x2 x3 o125 ho125) (vx_cwSW 3 hts gL_call_L_tryLay rfl rfl rfl (by decide +kernel) ⟨Nat.le_of_ble_eq_true rfl, Nat.le_of_ble_eq_true rfl⟩) hP hD hS (kSub_all dkW_fst) rfl hl.1 rfl (Nat.le_of_ble_eq_true rfl) ⟨by show 0 + 1 ≤ 1; omega, by show 6 * 0 + 6 * 1 ≤ 6; omega⟩ dL_call_125 (fun H locs hP hD hS => ?_)
    have ho := Option.some.inj hq
    subst ho
    refine W.widen (k := 1) (n := 6 * 1) (by omega) (by omega) ?_
    exact hend _ _ _ _ hP hS dL_call_128
  have hq := kite_f c8 hq
  by_cases c9 : x1 = 9
  · have hq := kite_t c9 hq
    refine lv_tableIn (off := 128) (tgt := 129) hx hb dL_call_1 (by rw [c9]; decide) (by rw [c9]; decide) (by rw [c9]; decide +kernel) (by decide) ?_
    refine lv_aload_n hx hb dL_call_129 rfl (lv_at hl 0 rfl) ?_
    obtain ⟨o130, ho130, hq⟩ := kbind hq
    refine kh_Wi (k := 0) (nc := 1) (av := [.ref (u.1 0)]) (rest := []) (ws' := (dkW cI u o130.2)) hF hK hG hA (bm_tryUndo l hst D cI u s.heap.size d o130 ho130) (vx_cwSW 1 hts gL_call_L_tryUndo rfl rfl rfl (by decide +kernel) ⟨Nat.le_of_ble_eq_true rfl, Nat.le_of_ble_eq_true rfl⟩) hP hD hS (kSub_all dkW_fst) rfl hl.1 rfl (Nat.le_of_ble_eq_true rfl) ⟨by show 0 + 1 ≤ 1; omega, by show 6 * 0 + 6 * 1 ≤ 6; omega⟩ dL_call_130 (fun H locs hP hD hS => ?_)
    have ho := Option.some.inj hq
    subst ho
    refine W.widen (k := 1) (n := 6 * 1) (by omega) (by omega) ?_
    exact hend _ _ _ _ hP hS dL_call_133
  have hq := kite_f c9 hq
  by_cases c10 : x1 = 10
  · have hq := kite_t c10 hq
    refine lv_tableIn (off := 133) (tgt := 134) hx hb dL_call_1 (by rw [c10]; decide) (by rw [c10]; decide) (by rw [c10]; decide +kernel) (by decide) ?_
    refine lv_aload_n hx hb dL_call_134 rfl (lv_at hl 0 rfl) ?_
    refine lv_iload_n hx hb dL_call_135 rfl (lv_at hl 2 rfl) ?_
    refine lv_iload_n hx hb dL_call_136 rfl (lv_at hl 3 rfl) ?_
    refine lv_iload hx hb dL_call_137 (lv_at hl 4 rfl) ?_
    obtain ⟨o139, ho139, hq⟩ := kbind hq
    refine kh_Wi (k := 0) (nc := 1) (av := [.ref (u.1 0), .int x2, .int x3, .int x4]) (rest := []) (ws' := (dkW cI u o139.2)) hF hK hG hA (bm_tryWould l hst D cI u s.heap.size d x2 x3 x4 o139 ho139) (vx_cwSW 4 hts gL_call_L_tryWould rfl rfl rfl (by decide +kernel) ⟨Nat.le_of_ble_eq_true rfl, Nat.le_of_ble_eq_true rfl⟩) hP hD hS (kSub_all dkW_fst) rfl hl.1 rfl (Nat.le_of_ble_eq_true rfl) ⟨by show 0 + 1 ≤ 1; omega, by show 6 * 0 + 6 * 1 ≤ 6; omega⟩ dL_call_139 (fun H locs hP hD hS => ?_)
    have ho := Option.some.inj hq
    subst ho
    refine W.widen (k := 1) (n := 6 * 1) (by omega) (by omega) ?_
    exact hend _ _ _ _ hP hS dL_call_142
  have hq := kite_f c10 hq
  by_cases c11 : x1 = 11
  · have hq := kite_t c11 hq
    refine lv_tableIn (off := 142) (tgt := 143) hx hb dL_call_1 (by rw [c11]; decide) (by rw [c11]; decide) (by rw [c11]; decide +kernel) (by decide) ?_
    refine lv_aload_n hx hb dL_call_143 rfl (lv_at hl 0 rfl) ?_
    refine lv_iload_n hx hb dL_call_144 rfl (lv_at hl 2 rfl) ?_
    obtain ⟨o145, ho145, hq⟩ := kbind hq
    refine kh_Wi (k := 0) (nc := 1) (av := [.ref (u.1 0), .int x2]) (rest := []) (ws' := (dkW cI u o145.2)) hF hK hG hA (bm_tryBest l hst D cI u s.heap.size d x2 o145 ho145) (vx_cwSW 2 hts gL_call_L_tryBest rfl rfl rfl (by decide +kernel) ⟨Nat.le_of_ble_eq_true rfl, Nat.le_of_ble_eq_true rfl⟩) hP hD hS (kSub_all dkW_fst) rfl hl.1 rfl (Nat.le_of_ble_eq_true rfl) ⟨by show 0 + 1 ≤ 1; omega, by show 6 * 0 + 6 * 1 ≤ 6; omega⟩ dL_call_145 (fun H locs hP hD hS => ?_)
    have ho := Option.some.inj hq
    subst ho
    refine W.widen (k := 1) (n := 6 * 1) (by omega) (by omega) ?_
    exact hend _ _ _ _ hP hS dL_call_148
  have hq := kite_f c11 hq
  by_cases c12 : x1 = 12
  · have hq := kite_t c12 hq
    refine lv_tableIn (off := 148) (tgt := 149) hx hb dL_call_1 (by rw [c12]; decide) (by rw [c12]; decide) (by rw [c12]; decide +kernel) (by decide) ?_
    refine lv_aload_n hx hb dL_call_149 rfl (lv_at hl 0 rfl) ?_
    refine lv_iload_n hx hb dL_call_150 rfl (lv_at hl 2 rfl) ?_
    refine lv_iload_n hx hb dL_call_151 rfl (lv_at hl 3 rfl) ?_
    obtain ⟨o152, ho152, hq⟩ := kbind hq
    refine kh_Wi (k := 0) (nc := 1) (av := [.ref (u.1 0), .int x2, .int x3]) (rest := []) (ws' := (dkW cI u o152.2)) hF hK hG hA (bm_tryGoes l hst D cI u s.heap.size d x2 x3 o152 ho152) (vx_cwSW 3 hts gL_call_L_tryGoes rfl rfl rfl (by decide +kernel) ⟨Nat.le_of_ble_eq_true rfl, Nat.le_of_ble_eq_true rfl⟩) hP hD hS (kSub_all dkW_fst) rfl hl.1 rfl (Nat.le_of_ble_eq_true rfl) ⟨by show 0 + 1 ≤ 1; omega, by show 6 * 0 + 6 * 1 ≤ 6; omega⟩ dL_call_152 (fun H locs hP hD hS => ?_)
    have ho := Option.some.inj hq
    subst ho
    refine W.widen (k := 1) (n := 6 * 1) (by omega) (by omega) ?_
    exact hend _ _ _ _ hP hS dL_call_155
  have hq := kite_f c12 hq
  by_cases c13 : x1 = 13
  · have hq := kite_t c13 hq
    refine lv_tableIn (off := 155) (tgt := 156) hx hb dL_call_1 (by rw [c13]; decide) (by rw [c13]; decide) (by rw [c13]; decide +kernel) (by decide) ?_
    refine lv_aload_n hx hb dL_call_156 rfl (lv_at hl 0 rfl) ?_
    refine lv_iload_n hx hb dL_call_157 rfl (lv_at hl 2 rfl) ?_
    obtain ⟨o158, ho158, hq⟩ := kbind hq
    refine kh_Wi (k := 0) (nc := 1) (av := [.ref (u.1 0), .int x2]) (rest := []) (ws' := (dkW cI u o158.2)) hF hK hG hA (bm_tryKeep l hst D cI u s.heap.size d x2 o158 ho158) (vx_cwSW 2 hts gL_call_L_tryKeep rfl rfl rfl (by decide +kernel) ⟨Nat.le_of_ble_eq_true rfl, Nat.le_of_ble_eq_true rfl⟩) hP hD hS (kSub_all dkW_fst) rfl hl.1 rfl (Nat.le_of_ble_eq_true rfl) ⟨by show 0 + 1 ≤ 1; omega, by show 6 * 0 + 6 * 1 ≤ 6; omega⟩ dL_call_158 (fun H locs hP hD hS => ?_)
    have ho := Option.some.inj hq
    subst ho
    refine W.widen (k := 1) (n := 6 * 1) (by omega) (by omega) ?_
    exact hend _ _ _ _ hP hS dL_call_161
  have hq := kite_f c13 hq
  have hsw : (x1).toInt < 0 ∨ 13 < (x1).toInt := by
    refine Decidable.byContradiction fun hn => ?_
    have h9 : (x1).toInt = 0 ∨ (x1).toInt = 1 ∨ (x1).toInt = 2 ∨ (x1).toInt = 3 ∨ (x1).toInt = 4 ∨ (x1).toInt = 5 ∨ (x1).toInt = 6 ∨ (x1).toInt = 7 ∨ (x1).toInt = 8 ∨ (x1).toInt = 9 ∨ (x1).toInt = 10 ∨ (x1).toInt = 11 ∨ (x1).toInt = 12 ∨ (x1).toInt = 13 := by omega
    rcases h9 with h9 | h9 | h9 | h9 | h9 | h9 | h9 | h9 | h9 | h9 | h9 | h9 | h9 | h9
    · exact c0 (Int32.toInt_inj.mp (h9.trans (by decide)))
    · exact c1 (Int32.toInt_inj.mp (h9.trans (by decide)))
    · exact c2 (Int32.toInt_inj.mp (h9.trans (by decide)))
    · exact c3 (Int32.toInt_inj.mp (h9.trans (by decide)))
    · exact c4 (Int32.toInt_inj.mp (h9.trans (by decide)))
    · exact c5 (Int32.toInt_inj.mp (h9.trans (by decide)))
    · exact c6 (Int32.toInt_inj.mp (h9.trans (by decide)))
    · exact c7 (Int32.toInt_inj.mp (h9.trans (by decide)))
    · exact c8 (Int32.toInt_inj.mp (h9.trans (by decide)))
    · exact c9 (Int32.toInt_inj.mp (h9.trans (by decide)))
    · exact c10 (Int32.toInt_inj.mp (h9.trans (by decide)))
    · exact c11 (Int32.toInt_inj.mp (h9.trans (by decide)))
    · exact c12 (Int32.toInt_inj.mp (h9.trans (by decide)))
    · exact c13 (Int32.toInt_inj.mp (h9.trans (by decide)))
  refine lv_tableOut (tgt := 162) hx hb dL_call_1 hsw (by decide) ?_
  refine lv_aload_n hx hb dL_call_162 rfl (lv_at hl 0 rfl) ?_
  refine lv_iload_n hx hb dL_call_163 rfl (lv_at hl 2 rfl) ?_
  obtain ⟨o164, ho164, hq⟩ := kbind hq
  refine kh_Wi (k := 0) (nc := 1) (av := [.ref (u.1 0), .int x2]) (rest := []) (ws' := (dkW cI u o164.2)) hF hK hG hA (bm_tryBack l hst D cI u s.heap.size d x2 o164 ho164) (vx_cwSW 2 hts gL_call_L_tryBack rfl rfl rfl (by decide +kernel) ⟨Nat.le_of_ble_eq_true rfl, Nat.le_of_ble_eq_true rfl⟩) hP hD hS (kSub_all dkW_fst) rfl hl.1 rfl (Nat.le_of_ble_eq_true rfl) ⟨by show 0 + 1 ≤ 1; omega, by show 6 * 0 + 6 * 1 ≤ 6; omega⟩ dL_call_164 (fun H locs hP hD hS => ?_)
  have ho := Option.some.inj hq
  subst ho
  refine W.widen (k := 1) (n := 6 * 1) (by omega) (by omega) ?_
  exact hend _ _ _ _ hP hS dL_call_167

