/-! on trial: class and reference -/
theorem slowest_loop {sto dro fou told rolls frm ref : Int32} {le sh tk sr se r : kF} (h : SREL sto dro fou told le sh rolls frm tk sr se r) : ∀ (d k q q' : Nat), k + d = 30 → 1 ≤ k → d < q → d < q' → ∃ a, fn_X7_slowest_2 q se (nI k) = some a ∧ fn_X8_slowest_7 q' ref r (nI k) = some (a, ref) := by
  have h76 := h.se (i := 0) (by omega)
  have hS : SE se := by obtain ⟨M, R, Fm, T, S, -, -, -, -, -, -, hS⟩ := h; exact hS
  intro d
  induction d with
  | zero =>
    intro k q q' hk h1 hq hq'
    obtain ⟨q, rfl⟩ : ∃ z, q = z + 1 := ⟨q - 1, by omega⟩
    obtain ⟨q', rfl⟩ : ∃ z, q' = z + 1 := ⟨q' - 1, by omega⟩
    have hk : k = 30 := by omega
    subst hk
    refine ⟨nI 30, ?_, ?_⟩
    · show (if (30 : Int32) ≤ nI 30 then _ else _) = _
      rw [if_pos (show (30 : Int32) ≤ nI 30 from Int32.le_refl _)]
      rfl
    · show (fn_X8_isStopped r (nI 30)).bind _ = _
      rw [stops_m (by decide), kbs, h76, if_pos (show (90 : Int32) / nI 30 ≤ se 0 from hS.1), if_pos rfl]
  | succ d ih =>
    intro k q q' hk h1 hq hq'
    obtain ⟨q, rfl⟩ : ∃ z, q = z + 1 := ⟨q - 1, by omega⟩
    obtain ⟨q', rfl⟩ : ∃ z, q' = z + 1 := ⟨q' - 1, by omega⟩
    have hx : ¬ nI k < 1 := nI_nlt (b := 1) h1 (by omega)
    have e1 : fn_X7_slowest_2 (q + 1) se (nI k) = (if (30 : Int32) ≤ nI k then fn_X7_slowest_25 se (nI k) else (fn_X6_stops se (nI k)).bind fun o13 => if o13 = 0 then fn_X7_slowest_25 se (nI k) else fn_X7_slowest_2 q se (nI k + 1)) := rfl
    have e2 : fn_X8_slowest_7 (q' + 1) ref r (nI k) = ((fn_X8_isStopped r (nI k)).bind fun o12 => if o12 = 0 then some (nI k, ref) else fn_X8_slowest_7 q' ref r (nI k + 1)) := rfl
    rw [e1, e2, if_neg (show ¬ (30 : Int32) ≤ nI k from ix_ge (n := 30) (by omega) (by omega)), stops_c hx, kbs, stops_m hx, kbs, h76]
    by_cases c : (90 : Int32) / nI k ≤ se 0
    · rw [if_pos c, if_pos rfl, if_pos rfl]
      exact ⟨_, rfl, rfl⟩
    · rw [if_neg c, if_neg (by decide), if_neg (by decide), nI_1]
      exact ih (k + 1) q q' (by omega) (by omega) (by omega) (by omega)
theorem sim_slowest {sto dro fou told rolls frm ref : Int32} {le sh tk sr se r : kF} (h : SREL sto dro fou told le sh rolls frm tk sr se r) : ∃ a, fn_X7_slowest se = some a ∧ fn_X8_slowest ref r = some (a, 0) :=
  slowest_loop h 29 1 4096 4096 (by omega) (by omega) (by omega) (by omega)
theorem mk_1 {P : Nat → Bool} {k : Nat} (hk : k < 10) (h : P k = true) : nI (nmask P k) ||| ((1 : Int32) <<< (nI k &&& 31)) = nI (nmask P (k + 1)) := by
  rw [n_shl1 hk, n_or, nmask, if_pos h]
theorem mk_0 {P : Nat → Bool} {k : Nat} (h : P k = false) : nI (nmask P k) ||| 0 = nI (nmask P (k + 1)) := by
  rw [show (0 : Int32) = nI 0 from rfl, n_or, nmask, h]
  rfl
theorem npop_s (C k : Nat) : npop C (k + 1) = npop C k + (if C.testBit k then 1 else 0) := rfl
theorem pop_1 {C k : Nat} (h : C.testBit k = true) : nI (npop C k) + 1 = nI (npop C (k + 1)) := by
  rw [nI_1, npop_s, if_pos h]
theorem pop_0 {C k : Nat} (h : C.testBit k = false) : nI (npop C k) + 0 = nI (npop C (k + 1)) := by
  rw [Int32.add_zero, npop_s, if_neg (by rw [h]; exact Bool.false_ne_true), Nat.add_zero]
/-- the pins that would be let fall -/
theorem drops_loop {M : Nat} {le r : kF} {x ref : Int32} (h1 : ∀ k, k < 10 → r k = le k) (h2 : TBR M r) (h3 : r 78 = x) (h4 : ∀ k, k < 10 → M.testBit k = true → le k ≠ 4) : ∀ (d k q : Nat), k + d = 10 → d < q → fn_X8_drops_9 q ref r (nI (nmask (fun k => M.testBit k && !decide (le k ≤ x)) k)) (nI k) = some (nI (nmask (fun k => M.testBit k && !decide (le k ≤ x)) 10), ref) := by
  intro d
  induction d with
  | zero =>
    intro k q hk hq
    obtain ⟨q, rfl⟩ : ∃ z, q = z + 1 := ⟨q - 1, by omega⟩
    have hk : k = 10 := by omega
    subst hk
    rfl
  | succ d ih =>
    intro k q hk hq
    obtain ⟨q, rfl⟩ : ∃ z, q = z + 1 := ⟨q - 1, by omega⟩
    have h := ih (k + 1) q (by omega) (by omega)
    rw [← h]
    show (if _ then _ else _) = _
    rw [if_neg (show ¬ (10 : Int32) ≤ nI k from ix_ge (n := 10) (by omega) (by omega)), slips_m (by omega) (h1 k (by omega)) (h2 k (by omega)) h3 (h4 k (by omega)), kbs]
    unfold fn_X8_drops_34
    rw [nI_1]
    cases c : (M.testBit k && !decide (le k ≤ x)) with
    | true => rw [if_pos rfl, if_neg (by decide), mk_1 (P := fun k => M.testBit k && !decide (le k ≤ x)) (by omega) c]
    | false => rw [if_neg Bool.false_ne_true, if_pos rfl, mk_0 (P := fun k => M.testBit k && !decide (le k ≤ x)) c]
theorem sim_drops {sto dro fou told rolls frm ref : Int32} {le sh tk sr se r : kF} (h : SREL sto dro fou told le sh rolls frm tk sr se r) : ∃ a, fn_X7_drops told le se = some a ∧ fn_X8_drops ref r = some (a, 0) := by
  obtain ⟨M, R, Fm, T, S, rfl, hP, hI, hC, hM, hX, hS⟩ := h
  refine ⟨nI (M &&& nmore le (se 2)), ?_, ?_⟩
  · unfold fn_X7_drops
    rw [show fn_X6_settingAt se 2 = some (se 2) from settingAt_c (i := 2) (by omega), kbs]
    unfold fn_X2_dropSet
    rw [moreThan_eq, kbs, n_and, kbs]
  · have e := drops_loop (ref := 0) (fun k hk => (hP.2.1 k hk).1) hP.2.2.1 hX.2.2.2.2.2 hP.2.2.2 10 0 4096 (by omega) (by omega)
    have e2 : nmask (fun k => M.testBit k && !decide (le k ≤ se 2)) 10 = M &&& nmore le (se 2) := by
      refine mask_ext (nmask_lt _ 10) (and_lt hP.1) (fun k hk => ?_)
      rw [nmask_bit, Nat.testBit_and, nmore_bit hk]
      simp [hk]
    rw [e2] at e
    exact e
/-- the game gone on with one ball -/
theorem goes_loop {nsto ndro nfou ntold nrolls nfrm ref x1 x2 : Int32} {nle nsh ntk nsr nse now : kF} : ∀ (d k q q' : Nat) (M R Fm : Nat) (T S : Nat → Nat) (sto dro fou told rolls frm wl wr : Int32) (le sh tk sr se r side was : kF), k + d = 21 → d < q → d < q' → k ≤ R → SRel M R Fm T S sto dro fou told le sh rolls frm tk sr se r →
    ∃ (a sto' dro' fou' told' wl' wr' rolls' frm' : Int32) (le' sh' tk' sr' se' side' was' r' : kF), fn_X7_goesOn_31 q nsto ndro nfou ntold nle nsh nrolls nfrm ntk nsr nse sto dro fou told wl wr le sh rolls frm tk sr se x1 x2 (nI k) = some (0, a, sto', dro', fou', told', wl', wr', le', sh', rolls', frm', tk', sr', se') ∧
      fn_X8_goesOn_35 q' ref now r side was x1 x2 = some (a, ref, r', side', was') := by
  intro d
  have base : ∀ (k q q' : Nat) (M R Fm : Nat) (T S : Nat → Nat) (sto dro fou told rolls frm wl wr : Int32) (le sh tk sr se r side was : kF), k ≤ 21 → Fm = 10 → SRel M R Fm T S sto dro fou told le sh rolls frm tk sr se r →
      ∃ (a sto' dro' fou' told' wl' wr' rolls' frm' : Int32) (le' sh' tk' sr' se' side' was' r' : kF), fn_X7_goesOn_31 (q + 1) nsto ndro nfou ntold nle nsh nrolls nfrm ntk nsr nse sto dro fou told wl wr le sh rolls frm tk sr se x1 x2 (nI k) = some (0, a, sto', dro', fou', told', wl', wr', le', sh', rolls', frm', tk', sr', se') ∧
        fn_X8_goesOn_35 (q' + 1) ref now r side was x1 x2 = some (a, ref, r', side', was') := by
    intro k q q' M R Fm T S sto dro fou told rolls frm wl wr le sh tk sr se r side was hk hF h
    have h' : SREL sto dro fou told le sh rolls frm tk sr se r := ⟨M, R, Fm, T, S, h⟩
    obtain ⟨p, hp, p1, p2⟩ := h'.pts
    obtain ⟨rfl, hP, hI, hC, hM, hX, hS⟩ := h
    subst hF
    have e1 : fn_X8_isOver r = some 1 := by rw [isOver_m (a := 10) (by omega) hM.2.1]; rfl
    refine ⟨nI p, sto, dro, fou, nI M, wl, wr, rolls, frm, le, sh, tk, sr, se, side, was, r, ?_, ?_⟩
    · have e69 : fn_X7_goesOn_69 nsto ndro nfou ntold nle nsh nrolls nfrm ntk nsr nse sto dro fou (nI M) wl wr le sh rolls frm tk sr se = some (0, nI p, sto, dro, fou, nI M, wl, wr, le, sh, rolls, frm, tk, sr, se) := by
        unfold fn_X7_goesOn_69
        rw [p1, kbs]
      show (if (21 : Int32) ≤ nI k then _ else (fn_X4_isOver frm).bind _) = _
      rw [show fn_X4_isOver frm = some 1 by rw [hC.2.1]; rfl, kbs, if_neg (show ¬ (1 : Int32) = 0 by decide), e69]
      split <;> rfl
    · show (fn_X8_isOver r).bind _ = _
      rw [e1, kbs, if_neg (by decide), p2, kbs]
  induction d with
  | zero =>
    intro k q q' M R Fm T S sto dro fou told rolls frm wl wr le sh tk sr se r side was hk hq hq' hR h
    obtain ⟨q, rfl⟩ : ∃ z, q = z + 1 := ⟨q - 1, by omega⟩
    obtain ⟨q', rfl⟩ : ∃ z, q' = z + 1 := ⟨q' - 1, by omega⟩
    refine base k q q' M R Fm T S sto dro fou told rolls frm wl wr le sh tk sr se r side was (by omega) ?_ h
    have hI := h.2.2.1
    have := hI.1
    rcases Nat.lt_or_ge Fm 10 with z | z
    · have := R_le20 hI z; omega
    · omega
  | succ d ih =>
    intro k q q' M R Fm T S sto dro fou told rolls frm wl wr le sh tk sr se r side was hk hq hq' hR h
    obtain ⟨q, rfl⟩ : ∃ z, q = z + 1 := ⟨q - 1, by omega⟩
    obtain ⟨q', rfl⟩ : ∃ z, q' = z + 1 := ⟨q' - 1, by omega⟩
    have hI := h.2.2.1
    have hF10 := hI.1
    rcases Nat.lt_or_ge Fm 10 with z | z
    · obtain ⟨t, M1, F1, S1, wl1, wr1, dro1, fou1, le1, sh1, tk1, sr1, side1, was1, r1, -, k1, k2, k3⟩ := sim_roll (x1 := x1) (x2 := x2) (x4 := 0) (wl := wl) (wr := wr) (side := side) (was := was) h z
      obtain ⟨a, sto', dro', fou', told', wl', wr', rolls', frm', le', sh', tk', sr', se', side', was', r', g1, g2⟩ := ih (k + 1) q q' M1 (R + 1) F1 (tup T R t) S1 sto dro1 fou1 (nI M1) (nI (R + 1)) (nI F1) wl1 wr1 le1 sh1 tk1 sr1 se r1 side1 was1 (by omega) (by omega) (by omega) (by omega) k3
      refine ⟨a, sto', dro', fou', told', wl', wr', rolls', frm', le', sh', tk', sr', se', side', was', r', ?_, ?_⟩
      · rw [← g1]
        have hb := bowl_eq (sto := sto) (dro := dro) (fou := fou) (told := told) (rolls := rolls) (frm := frm) (x1 := x1) (x2 := x2) (x3 := 30) (x4 := 0) (wl := wl) (wr := wr) (le := le) (sh := sh) (tk := tk) (sr := sr) (se := se) (by decide)
        rw [if_pos (show (90 : Int32) / 30 ≤ se 0 from h.2.2.2.2.2.2.1), k1] at hb
        have ho : fn_X4_isOver frm = some 0 := by rw [h.2.2.2.1.2.1, isOver_c hF10, if_neg (by omega)]
        show (if (21 : Int32) ≤ nI k then _ else (fn_X4_isOver frm).bind _) = _
        rw [if_neg (show ¬ (21 : Int32) ≤ nI k from ix_ge (n := 21) (by omega) (by omega)), ho, kbs, if_pos rfl, hb, kbs, nI_1]
      · rw [← g2]
        have ho : fn_X8_isOver r = some 0 := by rw [isOver_m hF10 h.2.2.2.2.1.2.1, if_neg (by omega)]
        show (fn_X8_isOver r).bind _ = _
        rw [ho, kbs, if_pos rfl, k2, kbs]
    · exact base k q q' M R Fm T S sto dro fou told rolls frm wl wr le sh tk sr se r side was (by omega) (by omega) h
theorem sim_goesOn {nsto ndro nfou ntold nrolls nfrm ref tsto tdro tfou ttold trolls tfrm twl twr x1 x2 : Int32} {nle nsh ntk nsr nse now tle tsh ttk tsr tse trial side was : kF} (h : SREL nsto ndro nfou ntold nle nsh nrolls nfrm ntk nsr nse now) :
    ∃ (a sto' dro' fou' told' wl' wr' rolls' frm' : Int32) (le' sh' tk' sr' se' side' was' r' : kF),
      ((¬ ((0 ≤ x1 ∧ x1 ≤ 40) ∧ (-2 ≤ x2 ∧ x2 ≤ 2)) ∧ fn_X7_goesOn nsto ndro nfou ntold nle nsh nrolls nfrm ntk nsr nse tsto tdro tfou ttold twl twr tle tsh trolls tfrm ttk tsr tse x1 x2 = some (1, 0, tsto, tdro, tfou, ttold, twl, twr, tle, tsh, trolls, tfrm, ttk, tsr, tse) ∧ fn_X8_goesOn ref now trial side was x1 x2 = some (0, 1, trial, side, was)) ∨
       (fn_X7_goesOn nsto ndro nfou ntold nle nsh nrolls nfrm ntk nsr nse tsto tdro tfou ttold twl twr tle tsh trolls tfrm ttk tsr tse x1 x2 = some (0, a, sto', dro', fou', told', wl', wr', le', sh', rolls', frm', tk', sr', se') ∧ fn_X8_goesOn ref now trial side was x1 x2 = some (a, 0, r', side', was'))) := by
  unfold fn_X7_goesOn fn_X8_goesOn
  rw [ball_c, kbs, ball_m, kbs]
  by_cases c : (0 ≤ x1 ∧ x1 ≤ 40) ∧ (-2 ≤ x2 ∧ x2 ≤ 2)
  · obtain ⟨le1, sh1, tk1, sr1, se1, e1, h1⟩ := copy_c (sto := tsto) (dro := tdro) (fou := tfou) (told := ttold) (rolls := trolls) (frm := tfrm) (zsto := nsto) (zdro := ndro) (zfou := nfou) (ztold := ntold) (zrolls := nrolls) (zfrm := nfrm) (le := tle) (sh := tsh) (tk := ttk) (sr := tsr) (se := tse) (zle := nle) (zsh := nsh) (ztk := ntk) (zsr := nsr) (zse := nse)
    obtain ⟨r1, e2, h2⟩ := copyState_0 (f := now) (g := trial)
    obtain ⟨M, R, Fm, T, S, h3⟩ := (h1 now h).row h2
    obtain ⟨a, sto', dro', fou', told', wl', wr', rolls', frm', le', sh', tk', sr', se', side', was', r', g1, g2⟩ := goes_loop (nsto := nsto) (ndro := ndro) (nfou := nfou) (ntold := ntold) (nrolls := nrolls) (nfrm := nfrm) (ref := 0) (x1 := x1) (x2 := x2) (nle := nle) (nsh := nsh) (ntk := ntk) (nsr := nsr) (nse := nse) (now := now) 21 0 4096 4096 M R Fm T S nsto ndro nfou ntold nrolls nfrm twl twr le1 sh1 tk1 sr1 se1 r1 side was (by omega) (by omega) (by omega) (by omega) h3
    refine ⟨a, sto', dro', fou', told', wl', wr', rolls', frm', le', sh', tk', sr', se', side', was', r', Or.inr ⟨?_, ?_⟩⟩
    · rw [if_pos c, if_neg (by decide), e1, kbs]
      exact g1
    · rw [if_pos c, if_neg (by decide)]
      unfold fn_X8_goesOn_14
      rw [refused_m, kbs, if_pos (Int32.le_refl _), if_pos rfl, e2, kbs]
      exact g2
  · refine ⟨0, 0, 0, 0, 0, 0, 0, 0, 0, side, side, side, side, side, side, side, side, Or.inl ⟨c, ?_, ?_⟩⟩
    · rw [if_neg c, if_pos rfl]
    · rw [if_neg c, if_pos rfl]
      unfold fn_X8_goesOn_14
      rw [refused_m, kbs, if_neg (show ¬ (1 : Int32) ≤ 0 by decide), if_neg (by decide)]
