/-! what holds at the law's start (written by wip/p26/gen/gen_start26.py) -/
theorem nw_tab {w : Cond} (h : nw_ok w = true) : w.onTables = true := by cases w <;> first | rfl | cases h
theorem nwL_in : ∀ w ∈ nwL, w ∈ lw_tbl := kmem_r _ [107, 110, 112, 114, 104, 550, 333, 103, 106, 702, 596, 482, 483, 756, 763] (by decide +kernel)
theorem kStrs_in : ∀ w ∈ kStrs.map (fun w => Cond.stringRef RX7 w.1 w.2), w ∈ lw_tbl := kmem_r _ [415, 420, 453, 518, 539, 556, 568, 571, 579, 591, 243, 283, 607, 609, 625, 642, 678, 739, 746, 787, 697, 715] (by decide +kernel)
theorem kBad_in : ∀ w ∈ kBad, w ∈ lw_tbl := kmem_r _ [206, 208, 210, 204, 276, 532] (by decide +kernel)
theorem kNcs_in : ∀ w ∈ kNcs, Cond.not (.castable w.1 w.2) ∈ flatC (Jvm.Cond.and given_1 narrow_1) := by decide +kernel
theorem start_K {args : Array Value} {s : State} (hts : ∀ w ∈ lw_tbl, w.before args s = true) (hgv : (Jvm.Cond.and given_1 narrow_1).before args s = true) : ∃ (D : va_G) (cI : Nat → ClassId), KK D cI s ∧ va_AO RX6 s ∧ ∀ A : Nat → Prop, (∀ a : Nat, a < s.heap.size → ¬ A a) → GS A s s.heap := by
  have hs := flat_of_before _ hgv
  obtain ⟨cX0, iX0, hX0⟩ := u_known (C := RX0) (T := TX0) (N := 2) (n := 2) hts wsL_law_kX0 (hts (.instantiable RX0 2) (List.mem_of_getElem? (i := 38) (by decide +kernel)))
  obtain ⟨cX1, iX1, hX1⟩ := u_known (C := RX1) (T := TX1) (N := 3) (n := 3) hts wsL_law_kX1 (hts (.instantiable RX1 3) (List.mem_of_getElem? (i := 129) (by decide +kernel)))
  obtain ⟨cX2, iX2, hX2⟩ := u_known (C := RX2) (T := TX2) (N := 5) (n := 5) hts wsL_law_kX2 (hts (.instantiable RX2 5) (List.mem_of_getElem? (i := 58) (by decide +kernel)))
  obtain ⟨cX4, iX4, hX4⟩ := u_known (C := RX4) (T := TX4) (N := 4) (n := 4) hts wsL_law_kX4 (hts (.instantiable RX4 4) (List.mem_of_getElem? (i := 80) (by decide +kernel)))
  obtain ⟨cX5, iX5, hX5⟩ := u_known (C := RX5) (T := TX5) (N := 2) (n := 2) hts wsL_law_kX5 (hts (.instantiable RX5 2) (List.mem_of_getElem? (i := 148) (by decide +kernel)))
  obtain ⟨cX6, iX6, hX6⟩ := u_known (C := RX6) (T := TX6) (N := 6) (n := 6) hts wsL_law_kX6 (hts (.instantiable RX6 6) (List.mem_of_getElem? (i := 52) (by decide +kernel)))
  obtain ⟨cX7, iX7, hX7⟩ := u_known (C := RX7) (T := TX7) (N := 5) (n := 5) hts wsL_law_kX7 (hts (.instantiable RX7 5) (List.mem_of_getElem? (i := 30) (by decide +kernel)))
  obtain ⟨cA0, kA0, comp0, f0, g0, e0⟩ := Cond.arrayClass_spec (hts (.arrayClass .int) (List.mem_of_getElem? (i := 50) (by decide +kernel)))
  obtain ⟨cA1, kA1, comp1, f1, g1, e1⟩ := Cond.arrayClass_spec (hts (.arrayClass .boolean) (List.mem_of_getElem? (i := 162) (by decide +kernel)))
  have hO : va_AO RX6 s := va_AO.of (hts (.arrayOver (.object RX6)) (List.mem_of_getElem? (i := 135) (by decide +kernel)))
  obtain ⟨comp2, cA2, kA2, f2, -, g2, e2, j2⟩ := Cond.arrayOver_spec hO
  refine ⟨(fun k => ([cX0, cX1, cX2, cX4, cX5, cX6, cX7] : List ClassId).getD k cX0, fun k => ([iX0, iX1, iX2, iX4, iX5, iX6, iX7] : List (Nat → Nat)).getD k iX0), fun k => ([cA0, cA1, cA2, cA0] : List ClassId).getD k cA0, ⟨⟨?_, ?_⟩, ?_, ?_⟩, hO, ?_⟩
  · intro k q hq
    match k, hq with
    | 0, hq => cases hq; exact hX0
    | 1, hq => cases hq; exact hX1
    | 2, hq => cases hq; exact hX2
    | 3, hq => cases hq; exact hX4
    | 4, hq => cases hq; exact hX5
    | 5, hq => cases hq; exact hX6
    | 6, hq => cases hq; exact hX7
    | k + 7, hq => simp [vwCl] at hq
  · intro k q hq
    match k, hq with
    | 0, hq => cases hq; exact ⟨fun n z => ⟨fun k h => (by cases h), kA0, g0, comp0, e0⟩, f0⟩
    | 1, hq => cases hq; exact ⟨fun n z => ⟨fun k h => (by cases h), kA1, g1, comp1, e1⟩, f1⟩
    | 2, hq => cases hq; exact ⟨fun n z => ⟨fun k h => (by cases h), kA2, g2, comp2, e2⟩, kA2, comp2, g2, e2, f2, j2⟩
    | 3, hq => cases hq; exact ⟨fun n z => ⟨fun k h => (by cases h), kA0, g0, comp0, e0⟩, f0⟩
    | k + 4, hq => simp [kTys] at hq
  · exact fun w hw => va_Nw.of (nw_tab (List.all_eq_true.mp nwL_ok w hw)) (hts w (nwL_in w hw))
  · refine ⟨fun w hw => ?_, fun w hw => va_Nc.of (hs _ (kNcs_in w hw)), fun w hw => va_Nw.of (kBad_tab hw) (hts w (kBad_in w hw))⟩
    have h1 := hts _ (kStrs_in _ (List.mem_map.mpr ⟨w, hw, rfl⟩))
    obtain ⟨-, -, -, a, -, -, -, -, -, hev⟩ := Cond.stringRef_spec hX7.2.1 h1
    exact ⟨a, vk_R.of h1 hev⟩
  · intro A hA
    obtain ⟨t, ht, hT⟩ := va_Tof (f := fun k => .int (kHB k)) (A := A) (tm := (Term.static "PinDeck" "HOME_BOARD" "[I")) (ty := .int) (N := 10) (by decide) (hs (Cond.arrayOf (Term.static "PinDeck" "HOME_BOARD" "[I") .int) (by decide +kernel)) (va_eqt (z := 10) (hs (Cond.eq (.length (Term.static "PinDeck" "HOME_BOARD" "[I")) (.int 10)) (by decide +kernel))) (fun j hj => by
      rcases (show j = 0 ∨ j = 1 ∨ j = 2 ∨ j = 3 ∨ j = 4 ∨ j = 5 ∨ j = 6 ∨ j = 7 ∨ j = 8 ∨ j = 9 by omega) with rfl | rfl | rfl | rfl | rfl | rfl | rfl | rfl | rfl | rfl
      · exact va_eqt (z := 20) (hs (Cond.eq (.elem (Term.static "PinDeck" "HOME_BOARD" "[I") (.int 0)) (.int 20)) (by decide +kernel))
      · exact va_eqt (z := 17) (hs (Cond.eq (.elem (Term.static "PinDeck" "HOME_BOARD" "[I") (.int 1)) (.int 17)) (by decide +kernel))
      · exact va_eqt (z := 23) (hs (Cond.eq (.elem (Term.static "PinDeck" "HOME_BOARD" "[I") (.int 2)) (.int 23)) (by decide +kernel))
      · exact va_eqt (z := 14) (hs (Cond.eq (.elem (Term.static "PinDeck" "HOME_BOARD" "[I") (.int 3)) (.int 14)) (by decide +kernel))
      · exact va_eqt (z := 20) (hs (Cond.eq (.elem (Term.static "PinDeck" "HOME_BOARD" "[I") (.int 4)) (.int 20)) (by decide +kernel))
      · exact va_eqt (z := 26) (hs (Cond.eq (.elem (Term.static "PinDeck" "HOME_BOARD" "[I") (.int 5)) (.int 26)) (by decide +kernel))
      · exact va_eqt (z := 11) (hs (Cond.eq (.elem (Term.static "PinDeck" "HOME_BOARD" "[I") (.int 6)) (.int 11)) (by decide +kernel))
      · exact va_eqt (z := 17) (hs (Cond.eq (.elem (Term.static "PinDeck" "HOME_BOARD" "[I") (.int 7)) (.int 17)) (by decide +kernel))
      · exact va_eqt (z := 23) (hs (Cond.eq (.elem (Term.static "PinDeck" "HOME_BOARD" "[I") (.int 8)) (.int 23)) (by decide +kernel))
      · exact va_eqt (z := 29) (hs (Cond.eq (.elem (Term.static "PinDeck" "HOME_BOARD" "[I") (.int 9)) (.int 29)) (by decide +kernel))) hA
    exact ⟨⟨t, va_Zof (hts (.laysStatic "PinDeck" "HOME_BOARD" "[I") (List.mem_of_getElem? (i := 334) (by decide +kernel))) (hts (.initialized "PinDeck") (List.mem_of_getElem? (i := 13) (by decide +kernel))) ht hA, hT⟩, vx_Zqof (hts (.laysStatic Bundle.tN "UNASSIGNED_STACK" Bundle.steD) (List.mem_of_getElem? (i := 229) (by decide +kernel))) (hts (.initialized Bundle.tN) (List.mem_of_getElem? (i := 20) (by decide +kernel))) (hs (Cond.isRef (.static Bundle.tN "UNASSIGNED_STACK" Bundle.steD)) (by decide +kernel)) hA, vx_Zqof (hts (.laysStatic Bundle.tN "SUPPRESSED_SENTINEL" Bundle.listD) (List.mem_of_getElem? (i := 231) (by decide +kernel))) (hts (.initialized Bundle.tN) (List.mem_of_getElem? (i := 20) (by decide +kernel))) (hs (Cond.isRef (.static Bundle.tN "SUPPRESSED_SENTINEL" Bundle.listD)) (by decide +kernel)) hA⟩
