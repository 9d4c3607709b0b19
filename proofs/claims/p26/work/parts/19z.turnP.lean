/-! turns and the simulation: class and reference -/
theorem lcg_nat (z : Int64) : ∃ n : Nat, n < 2 ^ 31 ∧ ((z.toUInt64 >>> (((33 : Int32)).toInt64.toUInt64 &&& Int64.toUInt64 63)).toInt64).toInt32 = nI n := by
  have e : (((33 : Int32)).toInt64.toUInt64 &&& Int64.toUInt64 63) = 33 := by decide
  refine ⟨z.toUInt64.toNat / 2 ^ 33, ?_, ?_⟩
  · have := z.toUInt64.toNat_lt
    omega
  · rw [e]
    apply Int32.toBitVec_inj.mp
    rw [Int64.toBitVec_toInt32, BitVec.signExtend_eq_setWidth_of_le _ (by omega)]
    apply BitVec.eq_of_toNat_eq
    rw [BitVec.toNat_setWidth]
    have e2 : (z.toUInt64 >>> 33).toNat = z.toUInt64.toNat / 2 ^ 33 := by
      rw [UInt64.toNat_shiftRight, Nat.shiftRight_eq_div_pow]
      rfl
    show (z.toUInt64 >>> 33).toNat % 2 ^ 32 = (z.toUInt64.toNat / 2 ^ 33) % 2 ^ 32
    rw [e2]
theorem d5 {m : Nat} (h : m < 5) : -2 ≤ nI m - 2 ∧ nI m - 2 ≤ 2 := by
  have : ∀ m : Fin 5, -2 ≤ nI m.val - 2 ∧ nI m.val - 2 ≤ 2 := by decide +kernel
  exact this ⟨m, h⟩
theorem frm_lt {a : Nat} (ha : a ≤ 10) (h : ¬ a = 10) : nI a < (10 : Int32) := nI_lt (b := 10) (by omega) (by omega)
theorem isOver_m {r : kF} {a : Nat} (ha : a ≤ 10) (h : r 52 = nI a) : fn_X8_isOver r = some (if a = 10 then 1 else 0) := by
  unfold fn_X8_isOver
  rw [h]
  by_cases c : a = 10
  · rw [if_pos ((nI_eq10 (by omega)).mpr c), if_pos c]; rfl
  · rw [if_neg (fun e => c ((nI_eq10 (by omega)).mp e)), if_neg c]; rfl
/-- a roll on trial -/
theorem sim_tryRoll {sto dro fou told rolls frm x1 x2 x3 x4 wl wr : Int32} {le sh tk sr se r side was : kF} (h : SREL sto dro fou told le sh rolls frm tk sr se r) (hb : (0 ≤ x1 ∧ x1 ≤ 40) ∧ (-2 ≤ x2 ∧ x2 ≤ 2)) (hs : 1 ≤ x3 ∧ x3 ≤ 30) :
    ∃ (a b sto' dro' fou' told' wl' wr' rolls' frm' : Int32) (le' sh' tk' sr' side' was' r' : kF), fn_X6_tryRoll sto dro fou told wl wr le sh rolls frm tk sr se x1 x2 x3 x4 = some (b, sto', dro', fou', told', wl', wr', le', sh', rolls', frm', tk', sr') ∧
      ((frm = 10 ∧ b = 0 ∧ r' = r ∧ side' = side ∧ was' = was ∧ fn_X8_isOver r = some 1) ∨ (frm < 10 ∧ b = 1 ∧ fn_X8_isOver r = some 0 ∧ fn_X8_throwOn side was r x1 x2 x3 x4 = some (a, side', was', r'))) ∧ SREL sto' dro' fou' told' le' sh' rolls' frm' tk' sr' se r' := by
  obtain ⟨f, hf, rfl, h52⟩ := h.over
  unfold fn_X6_tryRoll
  rw [ball_c, kbs, if_pos hb, if_neg (by decide), speed_c, kbs, if_pos hs, if_neg (by decide), isOver_c hf, kbs, isOver_m hf h52]
  by_cases c : f = 10
  · rw [if_pos c, if_neg (by decide)]
    exact ⟨0, _, _, _, _, _, _, _, _, _, _, _, _, _, side, was, r, rfl, Or.inl ⟨by rw [c]; rfl, rfl, rfl, rfl, rfl, rfl⟩, h⟩
  · rw [if_neg c, if_pos rfl]
    obtain ⟨a, sto', dro', fou', told', wl', wr', rolls', frm', le', sh', tk', sr', side', was', r', k1, k2, k3⟩ := sim_bowl (x1 := x1) (x2 := x2) (x3 := x3) (x4 := x4) (wl := wl) (wr := wr) (side := side) (was := was) h (frm_lt hf c) (Int32.not_lt.mpr hs.1)
    refine ⟨a, 1, sto', dro', fou', told', wl', wr', rolls', frm', le', sh', tk', sr', side', was', r', ?_, Or.inr ⟨frm_lt hf c, rfl, rfl, k2⟩, k3⟩
    unfold fn_X6_tryRoll_30
    rw [if_neg (by decide), k1, kbs]
    rfl
theorem sim_turn {sto dro fou told rolls frm x wl wr : Int32} {le sh tk sr se r side was : kF} (h : SREL sto dro fou told le sh rolls frm tk sr se r) {n : Nat} (hn : n < 2 ^ 31) (hx : x = nI n) :
    ∃ (sto' dro' fou' told' wl' wr' rolls' frm' : Int32) (le' sh' tk' sr' se' side' was' r' : kF), fn_X7_takeTurn sto dro fou told wl wr le sh rolls frm tk sr se x = some (sto', dro', fou', told', wl', wr', le', sh', rolls', frm', tk', sr', se') ∧
      fn_X8_turn r side was x = some (r', side', was') ∧ SREL sto' dro' fou' told' le' sh' rolls' frm' tk' sr' se' r' := by
  subst hx
  have d8 : nI n / (8 : Int32) = nI (n / 8) := pk_div (d := 8) hn (by omega) (by omega)
  have r8 : nI n - nI (n / 8) * (8 : Int32) = nI (n % 8) := by rw [← d8]; exact pk_rem (d := 8) hn (by omega) (by omega)
  have ha : n / 8 < 2 ^ 31 := by omega
  have dd : ∀ d : Nat, 0 < d → d < 2 ^ 31 → nI (n / 8) / nI d = nI (n / 8 / d) := fun d h0 h1 => pk_div ha h0 h1
  have hdl : ∀ d : Nat, n / 8 / d < 2 ^ 31 := fun d => Nat.lt_of_le_of_lt (Nat.div_le_self _ _) ha
  have rr : ∀ d : Nat, 0 < d → d < 2 ^ 31 → nI (n / 8) - nI (n / 8) / nI d * nI d = nI (n / 8 % d) := fun d h0 h1 => pk_rem ha h0 h1
  have rr2 : ∀ d d2 : Nat, 0 < d → d < 2 ^ 31 → nI (n / 8 / d2) - nI (n / 8 / d2) / nI d * nI d = nI (n / 8 / d2 % d) := fun d d2 h0 h1 => pk_rem (hdl d2) h0 h1
  have e10 : nI (n / 8) - nI (n / 8) / (10 : Int32) * (10 : Int32) = nI (n / 8 % 10) := rr 10 (by omega) (by omega)
  have e16 : nI (n / 8) / (16 : Int32) = nI (n / 8 / 16) := dd 16 (by omega) (by omega)
  have e4 : nI (n / 8 / 16) - nI (n / 8 / 16) / (4 : Int32) * (4 : Int32) = nI (n / 8 / 16 % 4) := rr2 4 16 (by omega) (by omega)
  have e2 : nI (n / 8) - nI (n / 8) / (2 : Int32) * (2 : Int32) = nI (n / 8 % 2) := rr 2 (by omega) (by omega)
  have f2 : nI (n / 8) / (2 : Int32) = nI (n / 8 / 2) := dd 2 (by omega) (by omega)
  have f4 : nI (n / 8 / 2) - nI (n / 8 / 2) / (4 : Int32) * (4 : Int32) = nI (n / 8 / 2 % 4) := rr2 4 2 (by omega) (by omega)
  have g21 : nI (n / 8) - nI (n / 8) / (21 : Int32) * (21 : Int32) = nI (n / 8 % 21) := rr 21 (by omega) (by omega)
  have g32 : nI (n / 8) / (32 : Int32) = nI (n / 8 / 32) := dd 32 (by omega) (by omega)
  have g5 : nI (n / 8 / 32) - nI (n / 8 / 32) / (5 : Int32) * (5 : Int32) = nI (n / 8 / 32 % 5) := rr2 5 32 (by omega) (by omega)
  have g256 : nI (n / 8) / (256 : Int32) = nI (n / 8 / 256) := dd 256 (by omega) (by omega)
  have g30 : nI (n / 8 / 256) - nI (n / 8 / 256) / (30 : Int32) * (30 : Int32) = nI (n / 8 / 256 % 30) := rr2 30 256 (by omega) (by omega)
  unfold fn_X7_takeTurn fn_X8_turn
  rw [d8, r8]
  by_cases c0 : n % 8 = 0
  · rw [c0, if_pos (show nI 0 = (0 : Int32) from rfl), if_pos (show nI 0 = (0 : Int32) from rfl), e10, e16, e4, ix_add0, if_neg (nI_in (N := 79) (by omega) (by omega)), nI_clamp (by omega)]
    have hk : n / 8 % 10 < 10 := Nat.mod_lt _ (by omega)
    have hv : 0 ≤ nI (n / 8 / 16 % 4) ∧ nI (n / 8 / 16 % 4) ≤ 3 := ⟨nI_pos' (by omega), nI_le (b := 3) (by omega) (by omega)⟩
    have hl := h.lv hk
    unfold fn_X6_tryTouch
    rw [lean3_c, kbs, if_pos hv, if_neg (by decide), isUp_c hk, kbs, hl.1]
    by_cases c4 : le (n / 8 % 10) = 4
    · rw [if_pos c4, if_pos ((le4_iff hl.2.2.1).mpr c4), if_pos rfl]
      exact ⟨_, _, _, _, _, _, _, _, _, _, _, _, _, side, was, r, rfl, rfl, h⟩
    · have c4' : ¬ (4 : Int32) ≤ le (n / 8 % 10) := fun e => c4 ((le4_iff hl.2.2.1).mp e)
      rw [if_neg c4, if_neg c4', if_neg (by decide), touchOn_m hk, kbs]
      unfold fn_X6_tryTouch_23
      rw [if_neg (by decide), makeLean_c hk c4', kbs]
      exact ⟨_, _, _, _, _, _, _, _, _, _, _, _, _, side, was, _, rfl, rfl, h.touch hk hv⟩
  · rw [if_neg (fun e => c0 ((nI_eq0 (by omega)).mp e)), if_neg (fun e => c0 ((nI_eq0 (by omega)).mp e))]
    by_cases c1 : n % 8 = 1
    · rw [c1, if_pos (show nI 1 = (1 : Int32) from rfl), if_pos (show nI 1 = (1 : Int32) from rfl), e2, f2, f4, show (77 : Int32) = nI 77 from rfl, show (1 : Int32) + nI (n / 8 % 2) = nI (1 + n / 8 % 2) from ix_add 1 _, ix_add, if_neg (nI_in (N := 79) (by omega) (by omega)), nI_clamp (by omega)]
      have hi : 1 + n / 8 % 2 < 3 := by omega
      have hv : 0 ≤ nI (n / 8 / 2 % 4) ∧ nI (n / 8 / 2 % 4) ≤ 3 := ⟨nI_pos' (by omega), nI_le (b := 3) (by omega) (by omega)⟩
      unfold fn_X6_trySet
      rw [setting_k hi, kbs, if_neg (by decide), value_c, kbs, if_neg (show ¬ nI (1 + n / 8 % 2) = 0 from fun e => by have := (nI_eq0 (by omega)).mp e; omega), if_pos hv, if_neg (by decide)]
      unfold fn_X6_trySet_20
      rw [if_neg (by decide), change_c hi, kbs]
      refine ⟨_, _, _, _, _, _, _, _, _, _, _, _, _, side, was, _, rfl, rfl, ?_⟩
      have := h.set (i := 1 + n / 8 % 2) (v := nI (n / 8 / 2 % 4)) hi (by rw [if_neg (by omega)]; exact hv)
      rwa [show 76 + (1 + n / 8 % 2) = 77 + n / 8 % 2 by omega] at this
    · have n1 : ¬ nI (n % 8) = 1 := fun e => c1 ((nI_eq1 (by omega)).mp e)
      rw [if_neg n1, if_neg n1, g21, g32, g5, g256, g30, show (10 : Int32) = nI 10 from rfl, ix_add, show (1 : Int32) + nI (n / 8 / 256 % 30) = nI (1 + n / 8 / 256 % 30) from ix_add 1 _]
      have hb : (0 ≤ nI (10 + n / 8 % 21) ∧ nI (10 + n / 8 % 21) ≤ 40) ∧ (-2 ≤ nI (n / 8 / 32 % 5) - 2 ∧ nI (n / 8 / 32 % 5) - 2 ≤ 2) := ⟨⟨nI_pos' (by omega), nI_le (b := 40) (by omega) (by omega)⟩, d5 (Nat.mod_lt _ (by omega))⟩
      have hs : 1 ≤ nI (1 + n / 8 / 256 % 30) ∧ nI (1 + n / 8 / 256 % 30) ≤ 30 := ⟨nI_le (a := 1) (by omega) (by omega), nI_le (b := 30) (by omega) (by omega)⟩
      have key : ∀ foul : Int32, ∃ (sto' dro' fou' told' wl' wr' rolls' frm' : Int32) (le' sh' tk' sr' se' side' was' r' : kF), fn_X7_takeTurn_123 sto dro fou told wl wr le sh rolls frm tk sr se (nI (10 + n / 8 % 21)) (nI (n / 8 / 32 % 5) - 2) (nI (1 + n / 8 / 256 % 30)) foul = some (sto', dro', fou', told', wl', wr', le', sh', rolls', frm', tk', sr', se') ∧
          ((fn_X8_isOver r).bind fun o78 => if o78 = 0 then fn_X8_turn_130 r side was (nI (10 + n / 8 % 21)) (nI (n / 8 / 32 % 5) - 2) (nI (1 + n / 8 / 256 % 30)) foul else fn_X8_turn_134 r side was) = some (r', side', was') ∧ SREL sto' dro' fou' told' le' sh' rolls' frm' tk' sr' se' r' := by
        intro foul
        obtain ⟨a, b, sto', dro', fou', told', wl', wr', rolls', frm', le', sh', tk', sr', side', was', r', k1, k2, k3⟩ := sim_tryRoll (x4 := foul) (wl := wl) (wr := wr) (side := side) (was := was) h hb hs
        refine ⟨sto', dro', fou', told', wl', wr', rolls', frm', le', sh', tk', sr', se, side', was', r', ?_, ?_, k3⟩
        · unfold fn_X7_takeTurn_123
          rw [k1, kbs]
          rfl
        · rcases k2 with ⟨-, -, rfl, rfl, rfl, k4⟩ | ⟨-, -, k4, k5⟩
          · rw [k4, kbs, if_neg (by decide)]
            rfl
          · rw [k4, kbs, if_pos rfl]
            unfold fn_X8_turn_130
            rw [k5, kbs]
            rfl
      by_cases cf : nI (n / 8) / 8192 - nI (n / 8) / 8192 / 16 * 16 = 0
      · simp only [if_pos cf]
        exact key 1
      · simp only [if_neg cf]
        exact key 0

/-- the turns of a simulation, one by one -/
theorem sim_turns {nsto ndro nfou ntold nrolls nfrm ref : Int32} {nle nsh ntk nsr nse now : kF} {N : Nat} (hN : N < 2 ^ 31) : ∀ (d k q q' : Nat) (z : Int64) (sto dro fou told rolls frm wl wr : Int32) (le sh tk sr se r side was : kF), k + d = N → d < q → d < q' → SREL sto dro fou told le sh rolls frm tk sr se r →
    ∃ (a sto' dro' fou' told' wl' wr' rolls' frm' : Int32) (le' sh' tk' sr' se' side' was' r' : kF), fn_X7_simulate_39 q nsto ndro nfou ntold nle nsh nrolls nfrm ntk nsr nse sto dro fou told wl wr le sh rolls frm tk sr se (nI N) z (nI k) = some (0, a, sto', dro', fou', told', wl', wr', le', sh', rolls', frm', tk', sr', se') ∧
      fn_X8_simulate_45 q' ref now r side was (nI N) z (nI k) = some (a, ref, r', side', was') ∧ SREL sto' dro' fou' told' le' sh' rolls' frm' tk' sr' se' r' := by
  intro d
  induction d with
  | zero =>
    intro k q q' z sto dro fou told rolls frm wl wr le sh tk sr se r side was hk hq hq' h
    obtain ⟨q, rfl⟩ : ∃ z, q = z + 1 := ⟨q - 1, by omega⟩
    obtain ⟨q', rfl⟩ : ∃ z, q' = z + 1 := ⟨q' - 1, by omega⟩
    have hk : k = N := by omega
    subst hk
    obtain ⟨p, hp, p1, p2⟩ := h.pts
    have h51 : r 51 = rolls := by
      obtain ⟨M, R, Fm, T, S, e1, hP, hI, hC, hM, -⟩ := h
      rw [hM.1, hC.1]
    refine ⟨1000 * rolls + nI p, sto, dro, fou, told, wl, wr, rolls, frm, le, sh, tk, sr, se, side, was, r, ?_, ?_, h⟩
    · show (if nI k ≤ nI k then _ else _) = _
      rw [if_pos (Int32.le_refl _)]
      show (fn_X4_allPoints rolls frm tk sr).bind _ = _
      rw [p1, kbs]
    · show (if nI k ≤ nI k then _ else _) = _
      rw [if_pos (Int32.le_refl _), p2, kbs, h51]
  | succ d ih =>
    intro k q q' z sto dro fou told rolls frm wl wr le sh tk sr se r side was hk hq hq' h
    obtain ⟨q, rfl⟩ : ∃ z, q = z + 1 := ⟨q - 1, by omega⟩
    obtain ⟨q', rfl⟩ : ∃ z, q' = z + 1 := ⟨q' - 1, by omega⟩
    obtain ⟨n, hn, hx⟩ := lcg_nat (z * 6364136223846793005 + 1442695040888963407)
    obtain ⟨sto1, dro1, fou1, told1, wl1, wr1, rolls1, frm1, le1, sh1, tk1, sr1, se1, side1, was1, r1, k1, k2, k3⟩ := sim_turn (wl := wl) (wr := wr) (side := side) (was := was) h hn hx
    obtain ⟨a, sto', dro', fou', told', wl', wr', rolls', frm', le', sh', tk', sr', se', side', was', r', g1, g2, g3⟩ := ih (k + 1) q q' (z * 6364136223846793005 + 1442695040888963407) sto1 dro1 fou1 told1 rolls1 frm1 wl1 wr1 le1 sh1 tk1 sr1 se1 r1 side1 was1 (by omega) (by omega) (by omega) k3
    refine ⟨a, sto', dro', fou', told', wl', wr', rolls', frm', le', sh', tk', sr', se', side', was', r', ?_, ?_, g3⟩
    · rw [← g1]
      show (if nI N ≤ nI k then _ else _) = _
      rw [if_neg (nI_ge (by omega) hN), k1, kbs, nI_1]
    · rw [← g2]
      show (if nI N ≤ nI k then _ else _) = _
      rw [if_neg (nI_ge (by omega) hN), k2, kbs, nI_1]
/-- simulate -/
theorem sim_simulate {nsto ndro nfou ntold nrolls nfrm ref tsto tdro tfou ttold trolls tfrm twl twr x3 : Int32} {x1 : Int64} {nle nsh ntk nsr nse now tle tsh ttk tsr tse trial side was : kF} (h : SREL nsto ndro nfou ntold nle nsh nrolls nfrm ntk nsr nse now) :
    ∃ (a sto' dro' fou' told' wl' wr' rolls' frm' : Int32) (le' sh' tk' sr' se' side' was' r' : kF),
      ((¬ (1 ≤ x3 ∧ x3 ≤ 60) ∧ fn_X7_simulate nsto ndro nfou ntold nle nsh nrolls nfrm ntk nsr nse tsto tdro tfou ttold twl twr tle tsh trolls tfrm ttk tsr tse x1 x3 = some (1, 0, tsto, tdro, tfou, ttold, twl, twr, tle, tsh, trolls, tfrm, ttk, tsr, tse) ∧ fn_X8_simulate ref now trial side was x1 x3 = some (0, 1, trial, side, was)) ∨
       ((1 ≤ x3 ∧ x3 ≤ 60) ∧ fn_X7_simulate nsto ndro nfou ntold nle nsh nrolls nfrm ntk nsr nse tsto tdro tfou ttold twl twr tle tsh trolls tfrm ttk tsr tse x1 x3 = some (0, a, sto', dro', fou', told', wl', wr', le', sh', rolls', frm', tk', sr', se') ∧ fn_X8_simulate ref now trial side was x1 x3 = some (a, 0, r', side', was') ∧ SREL sto' dro' fou' told' le' sh' rolls' frm' tk' sr' se' r')) := by
  unfold fn_X7_simulate fn_X8_simulate
  rw [in_1_60, kbs]
  by_cases c : 1 ≤ x3 ∧ x3 ≤ 60
  · obtain ⟨N, hN, rfl⟩ := nat_of (n := 60) (by omega) (⟨Int32.le_trans (by decide) c.1, c.2⟩ : 0 ≤ x3 ∧ x3 ≤ nI 60)
    obtain ⟨le1, sh1, tk1, sr1, se1, e1, h1⟩ := copy_c (sto := tsto) (dro := tdro) (fou := tfou) (told := ttold) (rolls := trolls) (frm := tfrm) (zsto := nsto) (zdro := ndro) (zfou := nfou) (ztold := ntold) (zrolls := nrolls) (zfrm := nfrm) (le := tle) (sh := tsh) (tk := ttk) (sr := tsr) (se := tse) (zle := nle) (zsh := nsh) (ztk := ntk) (zsr := nsr) (zse := nse)
    obtain ⟨r1, e2, h2⟩ := copyState_0 (f := now) (g := trial)
    obtain ⟨a, sto', dro', fou', told', wl', wr', rolls', frm', le', sh', tk', sr', se', side', was', r', g1, g2, g3⟩ := sim_turns (nsto := nsto) (ndro := ndro) (nfou := nfou) (ntold := ntold) (nrolls := nrolls) (nfrm := nfrm) (ref := 0) (nle := nle) (nsh := nsh) (ntk := ntk) (nsr := nsr) (nse := nse) (now := now) (N := N) (by omega) N 0 4096 4096 x1 nsto ndro nfou ntold nrolls nfrm twl twr le1 sh1 tk1 sr1 se1 r1 side was (by omega) (by omega) (by omega) ((h1 now h).row h2)
    refine ⟨a, sto', dro', fou', told', wl', wr', rolls', frm', le', sh', tk', sr', se', side', was', r', Or.inr ⟨c, ?_, ?_, g3⟩⟩
    · rw [if_neg (Int32.not_lt.mpr c.1), if_pos c.2, e1, kbs]
      exact g1
    · rw [if_pos c, if_neg (by decide)]
      unfold fn_X8_simulate_18
      rw [refused_m, kbs, if_pos (Int32.le_refl _), if_pos rfl, e2, kbs]
      exact g2
  · refine ⟨0, 0, 0, 0, 0, 0, 0, 0, 0, side, side, side, side, side, side, side, side, Or.inl ⟨c, ?_, ?_⟩⟩
    · by_cases c1 : x3 < 1
      · rw [if_pos c1]; rfl
      · rw [if_neg c1, if_neg (fun e => c ⟨Int32.not_lt.mp c1, e⟩)]; rfl
    · rw [if_neg c, if_pos rfl]
      unfold fn_X8_simulate_18
      rw [refused_m, kbs, if_neg (show ¬ (1 : Int32) ≤ 0 by decide), if_neg (by decide)]
