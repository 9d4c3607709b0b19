/-! what a ball would do: class and reference -/
theorem b1023 {k : Nat} (hk : k < 10) : Nat.testBit 1023 k = true := by
  rcases (show k = 0 ∨ k = 1 ∨ k = 2 ∨ k = 3 ∨ k = 4 ∨ k = 5 ∨ k = 6 ∨ k = 7 ∨ k = 8 ∨ k = 9 by omega) with e | e | e | e | e | e | e | e | e | e <;> subst e <;> rfl
theorem upSet_c {le : kF} : fn_X2_upSet le = some (nI (nless 1023 (nmore le 3))) := by
  unfold fn_X2_upSet
  rw [moreThan_eq, kbs, show (1023 : Int32) = nI 1023 from rfl, nless_eq (by omega) nmore_lt]
theorem lv3_iff {x : Int32} (h : lvok x) : x ≤ 3 ↔ x ≠ 4 := by
  rcases h with e | e | e | e | e <;> subst e <;> decide
/-- one ball on trial -/
theorem sim_try {nsto ndro nfou ntold nrolls nfrm ttold twl twr x1 x2 : Int32} {nle nsh ntk nsr nse now tle tsh trial side : kF} (h : SREL nsto ndro nfou ntold nle nsh nrolls nfrm ntk nsr nse now) :
    ∃ (M N : Nat) (wl' wr' : Int32) (le' sh' side' r' : kF), fn_X7_takesOnTrial ntold nle nsh nse ttold twl twr tle tsh x1 x2 = some (nI (M &&& N), nI (nless M N), wl', wr', le', sh') ∧ fn_X8_tryBall now trial side x1 x2 = some (nI (npop (M &&& N) 10), r', side') ∧
      M < 1024 ∧ PR le' sh' r' ∧ WR nle wl' wr' le' side' ∧ TBR (nless M N) r' ∧ TBR M now ∧ ∀ k, k < 10 → now k = nle k := by
  obtain ⟨M, R, Fm, T, S, rfl, hP, hI, hC, hM, hX, hS⟩ := h
  obtain ⟨le1, sh1, e1, h1⟩ := copyPins (told := ttold) (ztold := nI M) (le := tle) (sh := tsh) (zle := nle) (zsh := nsh)
  obtain ⟨r1, e2, h2⟩ := copyState_0 (f := now) (g := trial)
  have hP1 : PR le1 sh1 r1 := fun k hk => by
    obtain ⟨a, b, c, d⟩ := hP.2.1 k hk
    rw [(h1 k hk).1, (h1 k hk).2, h2 k (by omega), h2 (10 + k) (by omega)]
    exact ⟨a, b, c, d⟩
  obtain ⟨wl', wr', le', sh', side', r', b1, b2, b3, b4, b5⟩ := sim_ball (wl := twl) (wr := twr) (B := x1) (D := x2) (side := side) hP1
  have hT' : TBR M r' := fun k hk => (b5 (20 + k) (by omega)).trans ((h2 (20 + k) (by omega)).trans (hP.2.2.1 k hk))
  obtain ⟨r2, t1, t2, t3, t4⟩ := sim_tell (M := M) (le := le') (sh := sh') (r := r') (x := nse 1) hP.1 hS.2 b3 hT' ((b5 77 (by omega)).trans ((h2 77 (by omega)).trans hX.2.2.2.2.1))
  have hp := npop_split (M := M) (N := nmore le' (nse 1)) 10 (by omega)
  have e3 : nless M (M &&& nmore le' (nse 1)) = nless M (nmore le' (nse 1)) := by
    refine mask_ext nless_lt nless_lt (fun k hk => ?_)
    rw [nless_bit hk, nless_bit hk, Nat.testBit_and]
    cases M.testBit k <;> simp
  refine ⟨M, nmore le' (nse 1), wl', wr', le', sh', side', r2, ?_, ?_, hP.1, fun k hk => ?_, ?_, t3, hP.2.2.1, fun k hk => (hP.2.1 k hk).1⟩
  · unfold fn_X7_takesOnTrial
    rw [e1, kbs, b1, kbs, show fn_X6_settingAt nse 1 = some (nse 1) from settingAt_c (i := 1) (by omega), kbs, t1, kbs]
  · unfold fn_X8_tryBall
    rw [e2, kbs, b2, kbs, t2, kbs, told_m hP.2.2.1, kbs, told_m t3, kbs, pk_sub (by omega), show npop M 10 - npop (nless M (nmore le' (nse 1))) 10 = npop (M &&& nmore le' (nse 1)) 10 by omega]
  · obtain ⟨a, b, c, d⟩ := b3 k hk
    exact ⟨(t4 k (by omega)).trans a, (t4 (10 + k) (by omega)).trans b, c, d⟩
  · obtain ⟨a, b, f1, f2, f3, f4, f5⟩ := b4
    refine ⟨a, b, f1, f2, f3, f4, fun k hk => ⟨(f5 k hk).1, ?_⟩⟩
    rw [← (h1 k hk).1]
    exact (f5 k hk).2
def P5 (le nle : kF) (k : Nat) : Bool := decide (le k = 4) && !decide (nle k = 4)
def P6 (le : kF) (k : Nat) : Bool := !decide (le k = 4) && !decide (le k ≤ 0)
def P7 (M N : Nat) (le : kF) (k : Nat) : Bool := !decide (le k = 4) && (M.testBit k && !(nless M N).testBit k)
theorem would_loop {M N : Nat} {le nle sh now r side : kF} {ref x3 x4 : Int32} (hP : PR le sh r) (hT : TBR (nless M N) r) (hT0 : TBR M now) (hn : ∀ k, k < 10 → now k = nle k) : ∀ (d k q : Nat), k + d = 10 → d < q →
    fn_X8_would_54 q ref now r side x3 x4 (nI (nmask (P5 le nle) k)) (nI (nmask (P6 le) k)) (nI (npop (nmask (P7 M N le) 10) k)) (nI k) = fn_X8_would_54 1 ref now r side x3 x4 (nI (nmask (P5 le nle) 10)) (nI (nmask (P6 le) 10)) (nI (npop (nmask (P7 M N le) 10) 10)) (nI 10) := by
  intro d
  induction d with
  | zero =>
    intro k q hk hq
    obtain ⟨q, rfl⟩ : ∃ z, q = z + 1 := ⟨q - 1, by omega⟩
    have hk : k = 10 := by omega
    subst hk
    rfl
  | succ d ih =>
    intro k q hk hq
    obtain ⟨q, rfl⟩ : ∃ z, q = z + 1 := ⟨q - 1, by omega⟩
    have hk10 : k < 10 := by omega
    rw [← ih (k + 1) q (by omega) (by omega)]
    have c7 : (nmask (P7 M N le) 10).testBit k = P7 M N le k := by rw [nmask_bit]; simp [hk10]
    have hb1 : ¬ (nI k < 0 ∨ 79 ≤ k) := fun z => z.elim (ix_neg (by omega)) (by omega)
    have hb2 : ¬ (nI (20 + k) < 0 ∨ 79 ≤ 20 + k) := fun z => z.elim (ix_neg (by omega)) (by omega)
    have cl1 : (nI k).toNatClampNeg = k := nI_clamp (by omega)
    have cl2 : (nI (20 + k)).toNatClampNeg = 20 + k := nI_clamp (by omega)
    have e20 : (20 : Int32) + nI k = nI (20 + k) := ix_add 20 k
    show (if (10 : Int32) ≤ nI k then _ else _) = _
    rw [if_neg (show ¬ (10 : Int32) ≤ nI k from ix_ge (n := 10) (by omega) (by omega))]
    unfold fn_X8_would_79 fn_X8_would_108 fn_X8_would_109 fn_X8_would_138 fn_X8_would_139 fn_X8_would_180 fn_X8_would_181
    simp only [ix_add0, e20, cl1, cl2, if_neg hb1, if_neg hb2]
    rw [(hP k hk10).1, hn k hk10, hT k hk10, hT0 k hk10]
    by_cases c4 : le k = 4
    · have p6 : P6 le k = false := by unfold P6; simp [c4]
      have p7 : (nmask (P7 M N le) 10).testBit k = false := by rw [c7]; unfold P7; simp [c4]
      have h10 : ¬ (1 : Int32) = 0 := by decide
      simp only [if_pos c4, if_neg h10]
      rw [mk_0 p6, pop_0 p7, nI_1]
      by_cases n4 : nle k = 4
      · have p5 : P5 le nle k = false := by unfold P5; simp [n4]
        rw [if_pos n4, mk_0 p5]
      · have p5 : P5 le nle k = true := by unfold P5; simp [n4, c4]
        rw [if_neg n4, mk_1 hk10 p5]
    · have p5 : P5 le nle k = false := by unfold P5; simp [c4]
      simp only [if_neg c4, if_pos]
      rw [mk_0 p5]
      have key : ∀ (A B : Int32), A = nI (nmask (P6 le) (k + 1)) → (if nI (if M.testBit k = true then 1 else 0) = 1 then if nI (if (nless M N).testBit k = true then 1 else 0) = 0 then fn_X8_would_54 q ref now r side x3 x4 (nI (nmask (P5 le nle) (k + 1))) A (nI (npop (nmask (P7 M N le) 10) k) + 1) (nI k + 1) else fn_X8_would_54 q ref now r side x3 x4 (nI (nmask (P5 le nle) (k + 1))) A (nI (npop (nmask (P7 M N le) 10) k) + 0) (nI k + 1) else fn_X8_would_54 q ref now r side x3 x4 (nI (nmask (P5 le nle) (k + 1))) A (nI (npop (nmask (P7 M N le) 10) k) + 0) (nI k + 1)) = fn_X8_would_54 q ref now r side x3 x4 (nI (nmask (P5 le nle) (k + 1))) (nI (nmask (P6 le) (k + 1))) (nI (npop (nmask (P7 M N le) 10) (k + 1))) (nI (k + 1)) := by
        intro A B hA
        rw [hA, show nI k + 1 = nI (k + 1) from nI_1 k]
        cases hm : M.testBit k with
        | false =>
          have p7 : (nmask (P7 M N le) 10).testBit k = false := by rw [c7]; unfold P7; simp [hm]
          rw [if_neg (by decide), pop_0 p7]
        | true =>
          rw [if_pos (by decide)]
          cases hn2 : (nless M N).testBit k with
          | false =>
            have p7 : (nmask (P7 M N le) 10).testBit k = true := by rw [c7]; unfold P7; simp [hm, hn2, c4]
            rw [if_pos (by decide), pop_1 p7]
          | true =>
            have p7 : (nmask (P7 M N le) 10).testBit k = false := by rw [c7]; unfold P7; simp [hm, hn2]
            rw [if_neg (by decide), pop_0 p7]
      by_cases c0 : le k ≤ 0
      · have p6 : P6 le k = false := by unfold P6; simp [c0]
        rw [if_pos c0]
        exact key _ 0 (mk_0 p6)
      · have p6 : P6 le k = true := by unfold P6; simp [c0, c4]
        rw [if_neg c0]
        exact key _ 0 (mk_1 hk10 p6)

theorem would_fell {le nle side : kF} {wl wr : Int32} (h : WR nle wl wr le side) : wl ||| wr = nI (nmask (P5 le nle) 10) := by
  obtain ⟨a, b, rfl, rfl, ha, hb, hk⟩ := h
  rw [n_or]
  congr 1
  refine mask_ext (Nat.or_lt_two_pow (n := 10) ha hb) (nmask_lt _ 10) (fun k hk2 => ?_)
  rw [Nat.testBit_or, nmask_bit]
  obtain ⟨-, h1, h2⟩ := hk k hk2
  unfold P5
  by_cases c4 : le k = 4
  · have h3 := h2 c4
    by_cases n4 : nle k = 4
    · have : ¬ (a.testBit k || b.testBit k) = true := fun e => (h3.mp e) n4
      simp only [Bool.not_eq_true] at this
      rw [this]
      simp [n4]
    · rw [h3.mpr n4]
      simp [hk2, c4, n4]
  · obtain ⟨e1, e2, -⟩ := h1 c4
    rw [e1, e2]
    simp [c4]
theorem would_lean {le sh r : kF} (h : PR le sh r) : fn_X2_leaningSet le = some (nI (nmask (P6 le) 10)) := by
  unfold fn_X2_leaningSet
  rw [upSet_c, kbs, moreThan_eq, kbs, n_and]
  congr 2
  refine mask_ext (and_lt nless_lt) (nmask_lt _ 10) (fun k hk => ?_)
  rw [Nat.testBit_and, nless_bit hk, b1023 hk, nmore_bit hk, nmore_bit hk, nmask_bit]
  have h3 := lv3_iff (h k hk).2.2.1
  unfold P6
  by_cases c4 : le k = 4
  · have : ¬ le k ≤ 3 := fun e => (h3.mp e) c4
    simp [c4, this]
  · have : le k ≤ 3 := h3.mpr c4
    simp [c4, this, hk]
theorem would_up {M N : Nat} {le sh r : kF} (hM : M < 1024) (h : PR le sh r) : (M &&& N) &&& nless 1023 (nmore le 3) = nmask (P7 M N le) 10 := by
  refine mask_ext (and_lt (and_lt hM)) (nmask_lt _ 10) (fun k hk => ?_)
  rw [Nat.testBit_and, Nat.testBit_and, nless_bit hk, b1023 hk, nmore_bit hk, nmask_bit]
  have h3 := lv3_iff (h k hk).2.2.1
  unfold P7
  rw [nless_bit hk]
  by_cases c4 : le k = 4
  · have : ¬ le k ≤ 3 := fun e => (h3.mp e) c4
    simp [c4, this]
  · have : le k ≤ 3 := h3.mpr c4
    cases M.testBit k <;> simp [c4, this, hk]
theorem sim_would {nsto ndro nfou ntold nrolls nfrm ref ttold twl twr x1 x2 x3 : Int32} {nle nsh ntk nsr nse now tle tsh trial side : kF} (h : SREL nsto ndro nfou ntold nle nsh nrolls nfrm ntk nsr nse now) :
    ∃ (a ttold' wl' wr' : Int32) (le' sh' side' r' : kF),
      (fn_X7_would ntold nle nsh nse ttold twl twr tle tsh x1 x2 x3 = some (1, 0, ttold', wl', wr', le', sh') ∧ fn_X8_would ref now trial side x1 x2 x3 = some (0, 1, r', side')) ∨
      (fn_X7_would ntold nle nsh nse ttold twl twr tle tsh x1 x2 x3 = some (0, a, ttold', wl', wr', le', sh') ∧ fn_X8_would ref now trial side x1 x2 x3 = some (a, 0, r', side')) := by
  have hbad : fn_X8_would_25 ref now trial side x1 x2 x3 = some (0, 1, trial, side) := by
    unfold fn_X8_would_25 fn_X8_would_26
    rw [refused_m, kbs, if_neg (show ¬ (1 : Int32) ≤ 0 by decide), if_neg (by decide)]
  unfold fn_X7_would fn_X8_would
  rw [ball_c, kbs, ball_m, kbs]
  by_cases c : (0 ≤ x1 ∧ x1 ≤ 40) ∧ (-2 ≤ x2 ∧ x2 ≤ 2)
  · obtain ⟨M, N, wl', wr', le', sh', side', r', t1, t2, hM, hP, hW, hT, hT0, hn⟩ := sim_try (ttold := ttold) (twl := twl) (twr := twr) (x1 := x1) (x2 := x2) (tle := tle) (tsh := tsh) (trial := trial) (side := side) h
    rw [if_pos c, if_neg (by decide), if_neg (by decide), t1, kbs, in_0_3, kbs]
    by_cases cx : 0 ≤ x3 ∧ x3 ≤ 3
    · rw [if_pos cx, if_neg (show ¬ (1 : Int32) = 0 by decide)]
      have hw := would_loop (sh := sh') (ref := 0) (x3 := x3) (x4 := nI (npop (M &&& N) 10)) (side := side') hP hT hT0 hn 10 0 4096 (by omega) (by omega)
      have hw2 : fn_X8_would_26 ref now trial side x1 x2 x3 0 = fn_X8_would_54 1 0 now r' side' x3 (nI (npop (M &&& N) 10)) (nI (nmask (P5 le' nle) 10)) (nI (nmask (P6 le') 10)) (nI (npop (nmask (P7 M N le') 10) 10)) (nI 10) := by
        unfold fn_X8_would_26
        rw [refused_m, kbs, if_pos (Int32.le_refl _), if_pos rfl, t2, kbs]
        exact hw
      rw [hw2]
      obtain ⟨j, hj, rfl⟩ := nat_of (n := 3) (by omega) cx
      rcases (show j = 0 ∨ j = 1 ∨ j = 2 ∨ j = 3 by omega) with e | e | e | e <;> subst e
      · refine ⟨nI (nmask (P5 le' nle) 10), nI (nless M N), wl', wr', le', sh', side', r', Or.inr ⟨?_, rfl⟩⟩
        rw [if_pos (show nI 0 = (0 : Int32) from rfl)]
        unfold fn_X2_fellSet
        rw [kbs, would_fell hW]
      · refine ⟨nI (nmask (P6 le') 10), nI (nless M N), wl', wr', le', sh', side', r', Or.inr ⟨?_, rfl⟩⟩
        rw [if_neg (show ¬ nI 1 = (0 : Int32) by decide), if_pos (show nI 1 = (1 : Int32) from rfl), would_lean hP, kbs]
      · refine ⟨nI (npop (M &&& N) 10), nI (nless M N), wl', wr', le', sh', side', r', Or.inr ⟨?_, rfl⟩⟩
        rw [if_neg (show ¬ nI 2 = (0 : Int32) by decide), if_neg (show ¬ nI 2 = (1 : Int32) by decide), if_pos (show nI 2 = (2 : Int32) from rfl), bitCount_eq (and_lt hM), kbs]
      · refine ⟨nI (npop (nmask (P7 M N le') 10) 10), nI (nless M N), wl', wr', le', sh', side', r', Or.inr ⟨?_, rfl⟩⟩
        rw [if_neg (show ¬ nI 3 = (0 : Int32) by decide), if_neg (show ¬ nI 3 = (1 : Int32) by decide), if_neg (show ¬ nI 3 = (2 : Int32) by decide), if_pos (show nI 3 = (3 : Int32) from rfl), upSet_c, kbs, n_and, would_up hM hP, bitCount_eq (nmask_lt _ 10), kbs]
    · have n0 : ¬ x3 = 0 := fun e => cx (by rw [e]; decide)
      have n1 : ¬ x3 = 1 := fun e => cx (by rw [e]; decide)
      have n2 : ¬ x3 = 2 := fun e => cx (by rw [e]; decide)
      have n3 : ¬ x3 = 3 := fun e => cx (by rw [e]; decide)
      rw [if_neg n0, if_neg n1, if_neg n2, if_neg n3, if_neg cx, if_pos rfl, hbad]
      exact ⟨0, nI (nless M N), wl', wr', le', sh', side, trial, Or.inl ⟨rfl, rfl⟩⟩
  · rw [if_neg c, if_pos rfl, if_pos rfl, hbad]
    exact ⟨0, ttold, twl, twr, tle, tsh, side, trial, Or.inl ⟨rfl, rfl⟩⟩
/-- the best board -/
theorem best_loop {nsto ndro nfou ntold nrolls nfrm ref x1 : Int32} {nle nsh ntk nsr nse now : kF} (h : SREL nsto ndro nfou ntold nle nsh nrolls nfrm ntk nsr nse now) : ∀ (d k q q' : Nat) (x2 x3 ttold twl twr : Int32) (tle tsh trial side : kF), k + d = 41 → d < q → d < q' →
    ∃ (a ttold' wl' wr' : Int32) (le' sh' side' r' : kF), fn_X7_bestBoard_25 q ntold nle nsh nse ttold twl twr tle tsh x1 x2 x3 (nI k) = some (0, a, ttold', wl', wr', le', sh') ∧ fn_X8_bestBoard_40 q' ref now trial side x1 x2 x3 (nI k) = some (a, ref, r', side') := by
  intro d
  induction d with
  | zero =>
    intro k q q' x2 x3 ttold twl twr tle tsh trial side hk hq hq'
    obtain ⟨q, rfl⟩ : ∃ z, q = z + 1 := ⟨q - 1, by omega⟩
    obtain ⟨q', rfl⟩ : ∃ z, q' = z + 1 := ⟨q' - 1, by omega⟩
    have hk : k = 41 := by omega
    subst hk
    exact ⟨x2, _, _, _, _, _, _, _, rfl, rfl⟩
  | succ d ih =>
    intro k q q' x2 x3 ttold twl twr tle tsh trial side hk hq hq'
    obtain ⟨q, rfl⟩ : ∃ z, q = z + 1 := ⟨q - 1, by omega⟩
    obtain ⟨q', rfl⟩ : ∃ z, q' = z + 1 := ⟨q' - 1, by omega⟩
    obtain ⟨M, N, wl', wr', le', sh', side', r', t1, t2, hM, -⟩ := sim_try (ttold := ttold) (twl := twl) (twr := twr) (x1 := nI k) (x2 := x1) (tle := tle) (tsh := tsh) (trial := trial) (side := side) h
    have n40 : ¬ (40 : Int32) < nI k := nI_nlt (a := 40) (by omega) (by omega)
    have e1 : ∀ b c, fn_X7_bestBoard_56 (fn_X7_bestBoard_25 q) ntold nle nsh nse (nI (nless M N)) wl' wr' le' sh' x1 b c (nI k) = fn_X7_bestBoard_25 q ntold nle nsh nse (nI (nless M N)) wl' wr' le' sh' x1 b c (nI (k + 1)) := fun b c => by unfold fn_X7_bestBoard_56; rw [nI_1]
    have e2 : ∀ b c, fn_X8_bestBoard_81 (fn_X8_bestBoard_40 q') ref now r' side' x1 b (nI k) c = fn_X8_bestBoard_40 q' ref now r' side' x1 b c (nI (k + 1)) := fun b c => by unfold fn_X8_bestBoard_81; rw [nI_1]
    have f1 : fn_X7_bestBoard_25 (q + 1) ntold nle nsh nse ttold twl twr tle tsh x1 x2 x3 (nI k) = if nI (npop (M &&& N) 10) ≤ x3 then fn_X7_bestBoard_56 (fn_X7_bestBoard_25 q) ntold nle nsh nse (nI (nless M N)) wl' wr' le' sh' x1 x2 x3 (nI k) else fn_X7_bestBoard_56 (fn_X7_bestBoard_25 q) ntold nle nsh nse (nI (nless M N)) wl' wr' le' sh' x1 (nI k) (nI (npop (M &&& N) 10)) (nI k) := by
      show (if _ then _ else _) = _
      rw [if_neg n40, t1, kbs, bitCount_eq (and_lt hM), kbs]
    have f2 : fn_X8_bestBoard_40 (q' + 1) ref now trial side x1 x2 x3 (nI k) = if nI (npop (M &&& N) 10) ≤ x3 then fn_X8_bestBoard_68 (fn_X8_bestBoard_40 q') ref now r' side' x1 x3 (nI k) (nI (npop (M &&& N) 10)) x2 else fn_X8_bestBoard_68 (fn_X8_bestBoard_40 q') ref now r' side' x1 x3 (nI k) (nI (npop (M &&& N) 10)) (nI k) := by
      show (if _ then _ else _) = _
      rw [if_neg n40, t2, kbs]
    rw [f1, f2]
    unfold fn_X8_bestBoard_68
    by_cases c : nI (npop (M &&& N) 10) ≤ x3
    · rw [if_pos c, if_pos c, if_pos c, e1, e2]
      exact ih (k + 1) q q' _ _ _ _ _ _ _ _ _ (by omega) (by omega) (by omega)
    · rw [if_neg c, if_neg c, if_neg c, e1, e2]
      exact ih (k + 1) q q' _ _ _ _ _ _ _ _ _ (by omega) (by omega) (by omega)
theorem sim_best {nsto ndro nfou ntold nrolls nfrm ref ttold twl twr x1 : Int32} {nle nsh ntk nsr nse now tle tsh trial side : kF} (h : SREL nsto ndro nfou ntold nle nsh nrolls nfrm ntk nsr nse now) :
    ∃ (a ttold' wl' wr' : Int32) (le' sh' side' r' : kF),
      (fn_X7_bestBoard ntold nle nsh nse ttold twl twr tle tsh x1 = some (1, 0, ttold', wl', wr', le', sh') ∧ fn_X8_bestBoard ref now trial side x1 = some (0, 1, r', side')) ∨
      (fn_X7_bestBoard ntold nle nsh nse ttold twl twr tle tsh x1 = some (0, a, ttold', wl', wr', le', sh') ∧ fn_X8_bestBoard ref now trial side x1 = some (a, 0, r', side')) := by
  unfold fn_X7_bestBoard fn_X8_bestBoard
  rw [ball_c, kbs, in_m2, kbs]
  by_cases c : -2 ≤ x1 ∧ x1 ≤ 2
  · obtain ⟨M, N, wl', wr', le', sh', side', r', t1, t2, hM, -⟩ := sim_try (ttold := ttold) (twl := twl) (twr := twr) (x1 := nI 0) (x2 := x1) (tle := tle) (tsh := tsh) (trial := trial) (side := side) h
    obtain ⟨a, ttold2, wl2, wr2, le2, sh2, side2, r2, g1, g2⟩ := best_loop (ref := 0) (x1 := x1) h 40 1 4095 4096 0 (nI (npop (M &&& N) 10)) (nI (nless M N)) wl' wr' le' sh' r' side' (by omega) (by omega) (by omega)
    refine ⟨a, ttold2, wl2, wr2, le2, sh2, side2, r2, Or.inr ⟨?_, ?_⟩⟩
    · rw [if_pos (⟨by decide, c⟩ : ((0 : Int32) ≤ 0 ∧ (0 : Int32) ≤ 40) ∧ -2 ≤ x1 ∧ x1 ≤ 2), if_neg (by decide), ← g1]
      show (if (40 : Int32) < 0 then _ else (fn_X7_takesOnTrial ntold nle nsh nse ttold twl twr tle tsh (nI 0) x1).bind _) = _
      have hlt := npop_le (M &&& N) 10
      rw [if_neg (by decide), t1, kbs, bitCount_eq (and_lt hM), kbs, if_neg (show ¬ nI (npop (M &&& N) 10) ≤ -1 from fun e => Int32.not_le.mpr (show (-1 : Int32) < 0 by decide) (Int32.le_trans (nI_pos' (by omega)) e))]
      unfold fn_X7_bestBoard_56
      rfl
    · rw [if_pos c, if_neg (by decide)]
      unfold fn_X8_bestBoard_20
      rw [refused_m, kbs, if_pos (Int32.le_refl _), if_pos rfl, show fn_X8_tryBall now trial side 0 x1 = _ from t2, kbs]
      exact g2
  · have hc : ¬ (((0 : Int32) ≤ 0 ∧ (0 : Int32) ≤ 40) ∧ -2 ≤ x1 ∧ x1 ≤ 2) := fun e => c e.2
    refine ⟨0, ttold, twl, twr, tle, tsh, side, trial, Or.inl ⟨?_, ?_⟩⟩
    · rw [if_neg hc, if_pos rfl]
    · rw [if_neg c, if_pos rfl]
      unfold fn_X8_bestBoard_20
      rw [refused_m, kbs, if_neg (show ¬ (1 : Int32) ≤ 0 by decide), if_neg (by decide)]
