/-! scripts: class and reference -/
def CmdR (sto dro fou told wl wr : Int32) (le sh : kF) (rolls frm : Int32) (tk sr se r side was : kF) (n : Nat) : Prop := ∃ (code sto' dro' fou' told' wl' wr' rolls' frm' : Int32) (le' sh' tk' sr' se' side' was' r' : kF), fn_X3_succeeds sto dro fou told wl wr le sh rolls frm tk sr se (nI n) = some (code, sto', dro', fou', told', wl', wr', le', sh', rolls', frm', tk', sr', se') ∧ fn_X8_command r side was (nI (n / 10000)) (nI (n % 10000)) = some (code, r', side', was') ∧ (code = 0 ∨ (code = 1 ∧ SREL sto' dro' fou' told' le' sh' rolls' frm' tk' sr' se' r'))
section CM
variable {sto dro fou told wl wr rolls frm : Int32} {le sh tk sr se r side was : kF} {n : Nat}
theorem CmdR.fail (h1 : fn_X3_succeeds sto dro fou told wl wr le sh rolls frm tk sr se (nI n) = some (0, sto, dro, fou, told, wl, wr, le, sh, rolls, frm, tk, sr, se)) (h2 : fn_X8_command r side was (nI (n / 10000)) (nI (n % 10000)) = some (0, r, side, was)) : CmdR sto dro fou told wl wr le sh rolls frm tk sr se r side was n := ⟨0, sto, dro, fou, told, wl, wr, rolls, frm, le, sh, tk, sr, se, side, was, r, h1, h2, Or.inl rfl⟩
theorem CmdR.same (h : SREL sto dro fou told le sh rolls frm tk sr se r) (h1 : fn_X3_succeeds sto dro fou told wl wr le sh rolls frm tk sr se (nI n) = some (1, sto, dro, fou, told, wl, wr, le, sh, rolls, frm, tk, sr, se)) (h2 : fn_X8_command r side was (nI (n / 10000)) (nI (n % 10000)) = some (1, r, side, was)) : CmdR sto dro fou told wl wr le sh rolls frm tk sr se r side was n := ⟨1, sto, dro, fou, told, wl, wr, rolls, frm, le, sh, tk, sr, se, side, was, r, h1, h2, Or.inr ⟨rfl, h⟩⟩
theorem dg_q (m d : Nat) (hm : m < 2 ^ 31) (h0 : 0 < d) (hd : d < 2 ^ 31) : nI m / nI d = nI (m / d) := pk_div hm h0 hd
theorem dg_r (m d : Nat) (hm : m < 2 ^ 31) (h0 : 0 < d) (hd : d < 2 ^ 31) : nI m - nI (m / d) * nI d = nI (m % d) := by rw [← pk_rem hm h0 hd, pk_div hm h0 hd]
theorem dg_rr (m d : Nat) (hm : m < 2 ^ 31) (h0 : 0 < d) (hd : d < 2 ^ 31) : nI m - nI m / nI d * nI d = nI (m % d) := pk_rem hm h0 hd
theorem dg (hn : n < 100000) : nI n / (10000 : Int32) = nI (n / 10000) ∧ nI n / (1000 : Int32) = nI (n / 1000) ∧ nI n / (100 : Int32) = nI (n / 100) ∧ nI n / (10 : Int32) = nI (n / 10) ∧
    nI n - nI (n / 10) * (10 : Int32) = nI (n % 10) ∧ nI (n / 1000) - nI (n / 1000) / (10 : Int32) * (10 : Int32) = nI (n / 1000 % 10) ∧ nI (n / 100) - nI (n / 100) / (10 : Int32) * (10 : Int32) = nI (n / 100 % 10) ∧ nI (n / 10) - nI (n / 10) / (10 : Int32) * (10 : Int32) = nI (n / 10 % 10) :=
  ⟨dg_q n 10000 (by omega) (by omega) (by omega), dg_q n 1000 (by omega) (by omega) (by omega), dg_q n 100 (by omega) (by omega) (by omega), dg_q n 10 (by omega) (by omega) (by omega), dg_r n 10 (by omega) (by omega) (by omega), dg_rr (n / 1000) 10 (by omega) (by omega) (by omega), dg_rr (n / 100) 10 (by omega) (by omega) (by omega), dg_rr (n / 10) 10 (by omega) (by omega) (by omega)⟩
theorem dm (n : Nat) : nI (n % 10000) / (1000 : Int32) = nI (n / 1000 % 10) ∧ nI (n % 10000) / (100 : Int32) = nI (n % 10000 / 100) ∧ nI (n % 10000) / (10 : Int32) = nI (n % 10000 / 10) ∧
    nI (n % 10000) - nI (n % 10000 / 10) * (10 : Int32) = nI (n % 10) ∧ nI (n % 10000) - nI (n % 10000 / 100) * (100 : Int32) = nI (n % 100) ∧ nI (n % 10000) - nI (n / 1000 % 10) * (1000 : Int32) = nI (n % 1000) ∧
    nI (n % 10000 / 100) - nI (n % 10000 / 100) / (10 : Int32) * (10 : Int32) = nI (n / 100 % 10) ∧ nI (n % 10000 / 10) - nI (n % 10000 / 10) / (10 : Int32) * (10 : Int32) = nI (n / 10 % 10) ∧ nI (n % 10000 / 10) - nI (n % 10000 / 10) / (100 : Int32) * (100 : Int32) = nI (n / 10 % 100) := by
  have e3 : n % 10000 / 1000 = n / 1000 % 10 := by omega
  refine ⟨?_, dg_q _ 100 (by omega) (by omega) (by omega), dg_q _ 10 (by omega) (by omega) (by omega), ?_, ?_, ?_, ?_, ?_, ?_⟩
  · rw [← e3]; exact dg_q _ 1000 (by omega) (by omega) (by omega)
  · rw [show n % 10 = n % 10000 % 10 by omega]; exact dg_r _ 10 (by omega) (by omega) (by omega)
  · rw [show n % 100 = n % 10000 % 100 by omega]; exact dg_r _ 100 (by omega) (by omega) (by omega)
  · rw [← e3, show n % 1000 = n % 10000 % 1000 by omega]; exact dg_r _ 1000 (by omega) (by omega) (by omega)
  · rw [show n / 100 % 10 = n % 10000 / 100 % 10 by omega]; exact dg_rr _ 10 (by omega) (by omega) (by omega)
  · rw [show n / 10 % 10 = n % 10000 / 10 % 10 by omega]; exact dg_rr _ 10 (by omega) (by omega) (by omega)
  · rw [show n / 10 % 100 = n % 10000 / 10 % 100 by omega]; exact dg_rr _ 100 (by omega) (by omega) (by omega)
theorem cmd_5 (hn : n < 100000) (e : n / 10000 = 5) (h : SREL sto dro fou told le sh rolls frm tk sr se r) : CmdR sto dro fou told wl wr le sh rolls frm tk sr se r side was n := by
  obtain ⟨c1, c2, c3, c4, c5, c6, c7, c8⟩ := dg hn
  obtain ⟨m1, m2, m3, m4, m5, m6, m7, m8, m9⟩ := dm n
  have hc : fn_X3_succeeds sto dro fou told wl wr le sh rolls frm tk sr se (nI n) = if nI n = (50000 : Int32) then (fn_X3_begins told le sh rolls frm tk sr).bind fun o208 => if o208.1 = 0 then fn_X3_succeeds_218 sto dro fou o208.2.1 wl wr o208.2.2.1 o208.2.2.2.1 o208.2.2.2.2.1 o208.2.2.2.2.2 tk sr se else fn_X3_succeeds_219 sto dro fou o208.2.1 wl wr o208.2.2.1 o208.2.2.2.1 o208.2.2.2.2.1 o208.2.2.2.2.2 tk sr se (1 : Int32) else fn_X3_succeeds_218 sto dro fou told wl wr le sh rolls frm tk sr se := by
    unfold fn_X3_succeeds
    simp only [c1, c2, c3, c4, c5, c6, c7, c8]
    rw [e, if_neg (show ¬ nI 5 = (1 : Int32) by decide), if_neg (show ¬ nI 5 = (2 : Int32) by decide), if_neg (show ¬ nI 5 = (3 : Int32) by decide), if_neg (show ¬ nI 5 = (4 : Int32) by decide), if_pos (show nI 5 = (5 : Int32) from rfl)]
  have hm : fn_X8_command r side was (nI (n / 10000)) (nI (n % 10000)) = if nI (n % 10000) = 0 then (fn_X8_beginOn r).bind fun o244 => if o244.1 < 0 then fn_X8_command_254 o244.2 side was else fn_X8_command_255 o244.2 side was (1 : Int32) else fn_X8_command_254 r side was := by
    unfold fn_X8_command
    simp only [m1, m2, m3, m4, m5, m6, m7, m8, m9]
    rw [e, if_neg (show ¬ nI 5 = (1 : Int32) by decide), if_neg (show ¬ nI 5 = (2 : Int32) by decide), if_neg (show ¬ nI 5 = (3 : Int32) by decide), if_neg (show ¬ nI 5 = (4 : Int32) by decide), if_pos (show nI 5 = (5 : Int32) from rfl)]
  by_cases c : n = 50000
  · obtain ⟨p, le', sh', r', hp, b1, b2, b3⟩ := sim_begin h
    refine ⟨1, sto, dro, fou, 1023, wl, wr, 0, 0, le', sh', tk, sr, se, side, was, r', ?_, ?_, Or.inr ⟨rfl, b3⟩⟩
    · rw [hc, if_pos (by rw [c]; rfl)]
      unfold fn_X3_begins
      rw [b1, kbs, kbs]
      rfl
    · rw [hm, if_pos (by rw [c]; rfl), b2, kbs, if_neg (ix_neg (by omega))]
      rfl
  · refine CmdR.fail ?_ ?_
    · rw [hc, if_neg (show ¬ nI n = (50000 : Int32) from fun z => c ((nI_eq (b := 50000) (by omega) (by omega)).mp z))]
      rfl
    · rw [hm, if_neg (fun z => by have := (nI_eq0 (by omega)).mp z; omega)]
      rfl
theorem cmd_1 (hn : n < 100000) (e : n / 10000 = 1) (h : SREL sto dro fou told le sh rolls frm tk sr se r) : CmdR sto dro fou told wl wr le sh rolls frm tk sr se r side was n := by
  obtain ⟨c1, c2, c3, c4, c5, c6, c7, c8⟩ := dg hn
  obtain ⟨m1, m2, m3, m4, m5, m6, m7, m8, m9⟩ := dm n
  have e10 : (10 : Int32) * nI (n / 1000 % 10) + nI (n / 100 % 10) = nI (n % 10000 / 100) := by
    rw [show (10 : Int32) = nI 10 from rfl, pk_mul, ix_add]
    congr 1
    omega
  have hc : fn_X3_succeeds sto dro fou told wl wr le sh rolls frm tk sr se (nI n) = if nI (n % 10) = 0 then (fn_X6_tryRoll sto dro fou told wl wr le sh rolls frm tk sr se (nI (n % 10000 / 100)) (nI (n / 10 % 10) - 2) 30 0).bind fun o107 => if o107.1 = 0 then fn_X3_succeeds_117 o107.2.1 o107.2.2.1 o107.2.2.2.1 o107.2.2.2.2.1 o107.2.2.2.2.2.1 o107.2.2.2.2.2.2.1 o107.2.2.2.2.2.2.2.1 o107.2.2.2.2.2.2.2.2.1 o107.2.2.2.2.2.2.2.2.2.1 o107.2.2.2.2.2.2.2.2.2.2.1 o107.2.2.2.2.2.2.2.2.2.2.2.1 o107.2.2.2.2.2.2.2.2.2.2.2.2 se else fn_X3_succeeds_118 o107.2.1 o107.2.2.1 o107.2.2.2.1 o107.2.2.2.2.1 o107.2.2.2.2.2.1 o107.2.2.2.2.2.2.1 o107.2.2.2.2.2.2.2.1 o107.2.2.2.2.2.2.2.2.1 o107.2.2.2.2.2.2.2.2.2.1 o107.2.2.2.2.2.2.2.2.2.2.1 o107.2.2.2.2.2.2.2.2.2.2.2.1 o107.2.2.2.2.2.2.2.2.2.2.2.2 se (1 : Int32) else fn_X3_succeeds_117 sto dro fou told wl wr le sh rolls frm tk sr se := by
    unfold fn_X3_succeeds
    simp only [c1, c2, c3, c4, c5, c6, c7, c8]
    rw [e, if_pos (show nI 1 = (1 : Int32) from rfl)]
    rw [e10]
  have hm : fn_X8_command r side was (nI (n / 10000)) (nI (n % 10000)) = if nI (n % 10) = 0 then (fn_X8_isBall (nI (n % 10000 / 100)) (nI (n / 10 % 10) - 2)).bind fun o99 => if o99 = 0 then fn_X8_command_144 r side was else (fn_X8_isOver r).bind fun o109 => if o109 = 0 then fn_X8_command_134 r side was (nI (n % 10000 / 100)) (nI (n / 10 % 10) - 2) 0 else fn_X8_command_144 r side was else fn_X8_command_144 r side was := by
    unfold fn_X8_command
    simp only [m1, m2, m3, m4, m5, m6, m7, m8, m9]
    rw [e, if_pos (show nI 1 = (1 : Int32) from rfl)]
    simp only [if_neg (show ¬ nI 1 = (2 : Int32) by decide)]
  by_cases c : n % 10 = 0
  · rw [if_pos ((nI_eq0 (by omega)).mpr c)] at hc hm
    by_cases cb : (0 ≤ nI (n % 10000 / 100) ∧ nI (n % 10000 / 100) ≤ 40) ∧ (-2 ≤ nI (n / 10 % 10) - 2 ∧ nI (n / 10 % 10) - 2 ≤ 2)
    · obtain ⟨f, hf, hfe, h52⟩ := h.over
      unfold fn_X6_tryRoll at hc
      rw [ball_c, kbs, if_pos cb, if_neg (by decide), speed_c, kbs, if_pos (show (1 : Int32) ≤ 30 ∧ (30 : Int32) ≤ 30 by decide), if_neg (by decide), hfe, isOver_c hf, kbs] at hc
      rw [ball_m, kbs, if_pos cb, if_neg (by decide), isOver_m hf h52, kbs] at hm
      by_cases c10 : f = 10
      · rw [if_pos c10, if_neg (by decide)] at hc hm
        refine CmdR.fail ?_ hm
        rw [← hfe] at hc
        exact hc
      · rw [if_neg c10, if_pos rfl] at hc hm
        rw [← hfe] at hc
        obtain ⟨M, R, Fm, T, S, h3⟩ := h
        have hFf : Fm = f := (nI_eq (by have := h3.2.2.1.1; omega) (by omega)).mp (h3.2.2.2.1.2.1.symm.trans hfe)
        obtain ⟨t, M1, F1, S1, wl1, wr1, dro1, fou1, le1, sh1, tk1, sr1, side1, was1, r1, ht, k1, k2, k3⟩ := sim_roll (x1 := nI (n % 10000 / 100)) (x2 := nI (n / 10 % 10) - 2) (x4 := 0) (wl := wl) (wr := wr) (side := side) (was := was) h3 (by omega)
        have hb := bowl_eq (sto := sto) (dro := dro) (fou := fou) (told := told) (rolls := rolls) (frm := frm) (x1 := nI (n % 10000 / 100)) (x2 := nI (n / 10 % 10) - 2) (x3 := 30) (x4 := 0) (wl := wl) (wr := wr) (le := le) (sh := sh) (tk := tk) (sr := sr) (se := se) (by decide)
        rw [if_pos (show (90 : Int32) / 30 ≤ se 0 from h3.2.2.2.2.2.2.1), k1] at hb
        unfold fn_X6_tryRoll_30 at hc
        rw [if_neg (by decide), hb, kbs] at hc
        unfold fn_X8_command_134 at hm
        rw [k2, kbs, if_neg (ix_neg (by omega))] at hm
        exact ⟨1, _, _, _, _, _, _, _, _, _, _, _, _, _, _, _, _, hc, hm, Or.inr ⟨rfl, M1, _, F1, _, S1, k3⟩⟩
    · unfold fn_X6_tryRoll at hc
      rw [ball_c, kbs, if_neg cb, if_pos rfl] at hc
      rw [ball_m, kbs, if_neg cb, if_pos rfl] at hm
      exact CmdR.fail hc hm
  · rw [if_neg (fun z => c ((nI_eq0 (by omega)).mp z))] at hc hm
    exact CmdR.fail hc hm
theorem cmd_2 (hn : n < 100000) (e : n / 10000 = 2) (h : SREL sto dro fou told le sh rolls frm tk sr se r) : CmdR sto dro fou told wl wr le sh rolls frm tk sr se r side was n := by
  obtain ⟨c1, c2, c3, c4, c5, c6, c7, c8⟩ := dg hn
  obtain ⟨m1, m2, m3, m4, m5, m6, m7, m8, m9⟩ := dm n
  have e10 : (10 : Int32) * nI (n / 1000 % 10) + nI (n / 100 % 10) = nI (n % 10000 / 100) := by
    rw [show (10 : Int32) = nI 10 from rfl, pk_mul, ix_add]
    congr 1
    omega
  have hc : fn_X3_succeeds sto dro fou told wl wr le sh rolls frm tk sr se (nI n) = if nI (n % 10) = 0 then (fn_X6_tryRoll sto dro fou told wl wr le sh rolls frm tk sr se (nI (n % 10000 / 100)) (nI (n / 10 % 10) - 2) 30 1).bind fun o138 => if o138.1 = 0 then fn_X3_succeeds_148 o138.2.1 o138.2.2.1 o138.2.2.2.1 o138.2.2.2.2.1 o138.2.2.2.2.2.1 o138.2.2.2.2.2.2.1 o138.2.2.2.2.2.2.2.1 o138.2.2.2.2.2.2.2.2.1 o138.2.2.2.2.2.2.2.2.2.1 o138.2.2.2.2.2.2.2.2.2.2.1 o138.2.2.2.2.2.2.2.2.2.2.2.1 o138.2.2.2.2.2.2.2.2.2.2.2.2 se else fn_X3_succeeds_149 o138.2.1 o138.2.2.1 o138.2.2.2.1 o138.2.2.2.2.1 o138.2.2.2.2.2.1 o138.2.2.2.2.2.2.1 o138.2.2.2.2.2.2.2.1 o138.2.2.2.2.2.2.2.2.1 o138.2.2.2.2.2.2.2.2.2.1 o138.2.2.2.2.2.2.2.2.2.2.1 o138.2.2.2.2.2.2.2.2.2.2.2.1 o138.2.2.2.2.2.2.2.2.2.2.2.2 se (1 : Int32) else fn_X3_succeeds_148 sto dro fou told wl wr le sh rolls frm tk sr se := by
    unfold fn_X3_succeeds
    simp only [c1, c2, c3, c4, c5, c6, c7, c8]
    rw [e, if_neg (show ¬ nI 2 = (1 : Int32) by decide), if_pos (show nI 2 = (2 : Int32) from rfl)]
    rw [e10]
  have hm : fn_X8_command r side was (nI (n / 10000)) (nI (n % 10000)) = if nI (n % 10) = 0 then (fn_X8_isBall (nI (n % 10000 / 100)) (nI (n / 10 % 10) - 2)).bind fun o99 => if o99 = 0 then fn_X8_command_144 r side was else (fn_X8_isOver r).bind fun o109 => if o109 = 0 then fn_X8_command_134 r side was (nI (n % 10000 / 100)) (nI (n / 10 % 10) - 2) 1 else fn_X8_command_144 r side was else fn_X8_command_144 r side was := by
    unfold fn_X8_command
    simp only [m1, m2, m3, m4, m5, m6, m7, m8, m9]
    rw [e, if_neg (show ¬ nI 2 = (1 : Int32) by decide), if_pos (show nI 2 = (2 : Int32) from rfl)]
    simp only [if_pos (show nI 2 = (2 : Int32) from rfl)]
  by_cases c : n % 10 = 0
  · rw [if_pos ((nI_eq0 (by omega)).mpr c)] at hc hm
    by_cases cb : (0 ≤ nI (n % 10000 / 100) ∧ nI (n % 10000 / 100) ≤ 40) ∧ (-2 ≤ nI (n / 10 % 10) - 2 ∧ nI (n / 10 % 10) - 2 ≤ 2)
    · obtain ⟨f, hf, hfe, h52⟩ := h.over
      unfold fn_X6_tryRoll at hc
      rw [ball_c, kbs, if_pos cb, if_neg (by decide), speed_c, kbs, if_pos (show (1 : Int32) ≤ 30 ∧ (30 : Int32) ≤ 30 by decide), if_neg (by decide), hfe, isOver_c hf, kbs] at hc
      rw [ball_m, kbs, if_pos cb, if_neg (by decide), isOver_m hf h52, kbs] at hm
      by_cases c10 : f = 10
      · rw [if_pos c10, if_neg (by decide)] at hc hm
        refine CmdR.fail ?_ hm
        rw [← hfe] at hc
        exact hc
      · rw [if_neg c10, if_pos rfl] at hc hm
        rw [← hfe] at hc
        obtain ⟨M, R, Fm, T, S, h3⟩ := h
        have hFf : Fm = f := (nI_eq (by have := h3.2.2.1.1; omega) (by omega)).mp (h3.2.2.2.1.2.1.symm.trans hfe)
        obtain ⟨t, M1, F1, S1, wl1, wr1, dro1, fou1, le1, sh1, tk1, sr1, side1, was1, r1, ht, k1, k2, k3⟩ := sim_roll (x1 := nI (n % 10000 / 100)) (x2 := nI (n / 10 % 10) - 2) (x4 := 1) (wl := wl) (wr := wr) (side := side) (was := was) h3 (by omega)
        have hb := bowl_eq (sto := sto) (dro := dro) (fou := fou) (told := told) (rolls := rolls) (frm := frm) (x1 := nI (n % 10000 / 100)) (x2 := nI (n / 10 % 10) - 2) (x3 := 30) (x4 := 1) (wl := wl) (wr := wr) (le := le) (sh := sh) (tk := tk) (sr := sr) (se := se) (by decide)
        rw [if_pos (show (90 : Int32) / 30 ≤ se 0 from h3.2.2.2.2.2.2.1), k1] at hb
        unfold fn_X6_tryRoll_30 at hc
        rw [if_neg (by decide), hb, kbs] at hc
        unfold fn_X8_command_134 at hm
        rw [k2, kbs, if_neg (ix_neg (by omega))] at hm
        exact ⟨1, _, _, _, _, _, _, _, _, _, _, _, _, _, _, _, _, hc, hm, Or.inr ⟨rfl, M1, _, F1, _, S1, k3⟩⟩
    · unfold fn_X6_tryRoll at hc
      rw [ball_c, kbs, if_neg cb, if_pos rfl] at hc
      rw [ball_m, kbs, if_neg cb, if_pos rfl] at hm
      exact CmdR.fail hc hm
  · rw [if_neg (fun z => c ((nI_eq0 (by omega)).mp z))] at hc hm
    exact CmdR.fail hc hm
theorem cmd_3 (hn : n < 100000) (e : n / 10000 = 3) (h : SREL sto dro fou told le sh rolls frm tk sr se r) : CmdR sto dro fou told wl wr le sh rolls frm tk sr se r side was n := by
  obtain ⟨c1, c2, c3, c4, c5, c6, c7, c8⟩ := dg hn
  obtain ⟨m1, m2, m3, m4, m5, m6, m7, m8, m9⟩ := dm n
  have hc : fn_X3_succeeds sto dro fou told wl wr le sh rolls frm tk sr se (nI n) = if nI (n / 10 % 10) = 0 then if nI (n % 10) = 0 then (fn_X6_tryTouch le (nI (n / 1000 % 10)) (nI (n / 100 % 10))).bind fun o163 => if o163.1 = 0 then fn_X3_succeeds_173 sto dro fou told wl wr o163.2 sh rolls frm tk sr se else fn_X3_succeeds_174 sto dro fou told wl wr o163.2 sh rolls frm tk sr se (1 : Int32) else fn_X3_succeeds_173 sto dro fou told wl wr le sh rolls frm tk sr se else fn_X3_succeeds_173 sto dro fou told wl wr le sh rolls frm tk sr se := by
    unfold fn_X3_succeeds
    simp only [c1, c2, c3, c4, c5, c6, c7, c8]
    rw [e, if_neg (show ¬ nI 3 = (1 : Int32) by decide), if_neg (show ¬ nI 3 = (2 : Int32) by decide), if_pos (show nI 3 = (3 : Int32) from rfl)]
  have hm : fn_X8_command r side was (nI (n / 10000)) (nI (n % 10000)) = if nI (n % 100) = 0 then (fn_X8_in (nI (n / 100 % 10)).toInt64 0 3).bind fun o158 => if o158 = 0 then fn_X8_command_193 r side was else if ((0 : Int32) + nI (n / 1000 % 10)) < 0 ∨ 79 ≤ ((0 : Int32) + nI (n / 1000 % 10)).toNatClampNeg then none else if (r (((0 : Int32) + nI (n / 1000 % 10)).toNatClampNeg)) = (4 : Int32) then fn_X8_command_193 r side was else (fn_X8_touchOn r (nI (n / 1000 % 10)) (nI (n / 100 % 10))).bind fun o183 => if o183.1 < 0 then fn_X8_command_193 o183.2 side was else fn_X8_command_194 o183.2 side was (1 : Int32) else fn_X8_command_193 r side was := by
    unfold fn_X8_command
    simp only [m1, m2, m3, m4, m5, m6, m7, m8, m9]
    rw [e, if_neg (show ¬ nI 3 = (1 : Int32) by decide), if_neg (show ¬ nI 3 = (2 : Int32) by decide), if_pos (show nI 3 = (3 : Int32) from rfl)]
  by_cases cc : n / 10 % 10 = 0 ∧ n % 10 = 0
  · rw [if_pos ((nI_eq0 (by omega)).mpr cc.1), if_pos ((nI_eq0 (by omega)).mpr cc.2)] at hc
    rw [if_pos ((nI_eq0 (by omega)).mpr (show n % 100 = 0 by omega)), in_0_3, kbs] at hm
    have hk : n / 1000 % 10 < 10 := Nat.mod_lt _ (by omega)
    have hl := h.lv hk
    unfold fn_X6_tryTouch at hc
    rw [lean3_c, kbs] at hc
    by_cases cv : 0 ≤ nI (n / 100 % 10) ∧ nI (n / 100 % 10) ≤ 3
    · rw [if_pos cv, if_neg (show ¬ (1 : Int32) = 0 by decide), isUp_c hk, kbs] at hc
      rw [if_pos cv, if_neg (show ¬ (1 : Int32) = 0 by decide), ix_add0, if_neg (nI_in (N := 79) (by omega) (by omega)), nI_clamp (by omega), hl.1] at hm
      by_cases c4 : le (n / 1000 % 10) = 4
      · rw [if_pos ((le4_iff hl.2.2.1).mpr c4), if_pos rfl] at hc
        rw [if_pos c4] at hm
        exact CmdR.fail hc hm
      · have c4' : ¬ (4 : Int32) ≤ le (n / 1000 % 10) := fun e => c4 ((le4_iff hl.2.2.1).mp e)
        rw [if_neg c4', if_neg (show ¬ (1 : Int32) = 0 by decide)] at hc
        unfold fn_X6_tryTouch_23 at hc
        rw [if_neg (show ¬ (1 : Int32) = 0 by decide), makeLean_c hk c4', kbs] at hc
        have h0 : ¬ le (n / 1000 % 10) < 0 := by rcases hl.2.2.1 with z | z | z | z | z <;> rw [z] <;> decide
        rw [if_neg c4, touchOn_m hk, kbs, hl.1, if_neg h0] at hm
        exact ⟨1, _, _, _, _, _, _, _, _, _, _, _, _, _, _, _, _, hc, hm, Or.inr ⟨rfl, h.touch hk cv⟩⟩
    · rw [if_neg cv, if_pos rfl] at hc hm
      exact CmdR.fail hc hm
  · rw [if_neg (fun z => cc (by have := (nI_eq0 (by omega)).mp z; omega))] at hm
    refine CmdR.fail ?_ hm
    rw [hc]
    by_cases c1 : n / 10 % 10 = 0
    · rw [if_pos ((nI_eq0 (by omega)).mpr c1), if_neg (fun z => cc ⟨c1, (nI_eq0 (by omega)).mp z⟩)]
      rfl
    · rw [if_neg (fun z => c1 ((nI_eq0 (by omega)).mp z))]
      rfl
theorem cmd_4 (hn : n < 100000) (e : n / 10000 = 4) (h : SREL sto dro fou told le sh rolls frm tk sr se r) : CmdR sto dro fou told wl wr le sh rolls frm tk sr se r side was n := by
  obtain ⟨c1, c2, c3, c4, c5, c6, c7, c8⟩ := dg hn
  obtain ⟨m1, m2, m3, m4, m5, m6, m7, m8, m9⟩ := dm n
  have e10 : (10 : Int32) * nI (n / 100 % 10) + nI (n / 10 % 10) = nI (n / 10 % 100) := by
    rw [show (10 : Int32) = nI 10 from rfl, pk_mul, ix_add]
    congr 1
    omega
  have hc : fn_X3_succeeds sto dro fou told wl wr le sh rolls frm tk sr se (nI n) = if nI (n % 10) = 0 then (fn_X6_trySet se (nI (n / 1000 % 10)) (nI (n / 10 % 100))).bind fun o189 => if o189.1 = 0 then fn_X3_succeeds_199 sto dro fou told wl wr le sh rolls frm tk sr o189.2 else fn_X3_succeeds_200 sto dro fou told wl wr le sh rolls frm tk sr o189.2 (1 : Int32) else fn_X3_succeeds_199 sto dro fou told wl wr le sh rolls frm tk sr se := by
    unfold fn_X3_succeeds
    simp only [c1, c2, c3, c4, c5, c6, c7, c8]
    rw [e, if_neg (show ¬ nI 4 = (1 : Int32) by decide), if_neg (show ¬ nI 4 = (2 : Int32) by decide), if_neg (show ¬ nI 4 = (3 : Int32) by decide), if_pos (show nI 4 = (4 : Int32) from rfl)]
    rw [e10]
  have hm : fn_X8_command r side was (nI (n / 10000)) (nI (n % 10000)) = if 0 < nI (n % 10) then fn_X8_command_216 r side was else (fn_X8_isSetting (nI (n / 1000 % 10)) (nI (n / 10 % 100))).bind fun o210 => if o210 = 0 then fn_X8_command_216 r side was else if ((76 : Int32) + nI (n / 1000 % 10)) < 0 ∨ 79 ≤ ((76 : Int32) + nI (n / 1000 % 10)).toNatClampNeg then none else some ((1 : Int32), (upd r (((76 : Int32) + nI (n / 1000 % 10)).toNatClampNeg) (nI (n / 10 % 100))), side, was) := by
    unfold fn_X8_command
    simp only [m1, m2, m3, m4, m5, m6, m7, m8, m9]
    rw [e, if_neg (show ¬ nI 4 = (1 : Int32) by decide), if_neg (show ¬ nI 4 = (2 : Int32) by decide), if_neg (show ¬ nI 4 = (3 : Int32) by decide), if_pos (show nI 4 = (4 : Int32) from rfl)]
  by_cases c : n % 10 = 0
  · rw [if_pos ((nI_eq0 (by omega)).mpr c)] at hc
    rw [if_neg (show ¬ 0 < nI (n % 10) from nI_nlt (b := 0) (a := n % 10) |> fun f => by rw [c]; decide)] at hm
    unfold fn_X6_trySet at hc
    rw [setting_c, kbs] at hc
    by_cases ci : 0 ≤ nI (n / 1000 % 10) ∧ nI (n / 1000 % 10) ≤ 2
    · rw [if_pos ci, if_neg (show ¬ (1 : Int32) = 0 by decide), value_c, kbs] at hc
      have hi : n / 1000 % 10 < 3 := by
        have := (nI_leI (by omega) (by omega)).mp (show nI (n / 1000 % 10) ≤ nI 2 from ci.2)
        omega
      have hz : nI (n / 1000 % 10) = 0 ↔ n / 1000 % 10 = 0 := nI_eq0 (by omega)
      by_cases cv : (if n / 1000 % 10 = 0 then 3 ≤ nI (n / 10 % 100) ∧ nI (n / 10 % 100) ≤ 90 else 0 ≤ nI (n / 10 % 100) ∧ nI (n / 10 % 100) ≤ 3)
      · have v1 : (if nI (n / 1000 % 10) = 0 then (if 3 ≤ nI (n / 10 % 100) ∧ nI (n / 10 % 100) ≤ 90 then (1 : Int32) else 0) else if 0 ≤ nI (n / 10 % 100) ∧ nI (n / 10 % 100) ≤ 3 then 1 else 0) = 1 := by
          by_cases c0 : n / 1000 % 10 = 0
          · rw [if_pos c0] at cv; rw [if_pos (hz.mpr c0), if_pos cv]
          · rw [if_neg c0] at cv; rw [if_neg (fun z => c0 (hz.mp z)), if_pos cv]
        have v2 : (if nI (n / 1000 % 10) = 0 then 3 ≤ nI (n / 10 % 100) ∧ nI (n / 10 % 100) ≤ 90 else 0 ≤ nI (n / 10 % 100) ∧ nI (n / 10 % 100) ≤ 3) := by
          by_cases c0 : n / 1000 % 10 = 0
          · rw [if_pos c0] at cv; rw [if_pos (hz.mpr c0)]; exact cv
          · rw [if_neg c0] at cv; rw [if_neg (fun z => c0 (hz.mp z))]; exact cv
        rw [v1, if_neg (show ¬ (1 : Int32) = 0 by decide)] at hc
        unfold fn_X6_trySet_20 at hc
        rw [if_neg (show ¬ (1 : Int32) = 0 by decide), change_c hi, kbs] at hc
        rw [(setting_m _ _).trans (congrArg some (if_pos ⟨ci, v2⟩)), kbs, if_neg (show ¬ (1 : Int32) = 0 by decide), show (76 : Int32) = nI 76 from rfl, ix_add, if_neg (nI_in (N := 79) (by omega) (by omega)), nI_clamp (by omega)] at hm
        exact ⟨1, _, _, _, _, _, _, _, _, _, _, _, _, _, _, _, _, hc, hm, Or.inr ⟨rfl, h.set hi cv⟩⟩
      · have v1 : (if nI (n / 1000 % 10) = 0 then (if 3 ≤ nI (n / 10 % 100) ∧ nI (n / 10 % 100) ≤ 90 then (1 : Int32) else 0) else if 0 ≤ nI (n / 10 % 100) ∧ nI (n / 10 % 100) ≤ 3 then 1 else 0) = 0 := by
          by_cases c0 : n / 1000 % 10 = 0
          · rw [if_pos c0] at cv; rw [if_pos (hz.mpr c0), if_neg cv]
          · rw [if_neg c0] at cv; rw [if_neg (fun z => c0 (hz.mp z)), if_neg cv]
        have v2 : ¬ (if nI (n / 1000 % 10) = 0 then 3 ≤ nI (n / 10 % 100) ∧ nI (n / 10 % 100) ≤ 90 else 0 ≤ nI (n / 10 % 100) ∧ nI (n / 10 % 100) ≤ 3) := by
          by_cases c0 : n / 1000 % 10 = 0
          · rw [if_pos c0] at cv; rw [if_pos (hz.mpr c0)]; exact cv
          · rw [if_neg c0] at cv; rw [if_neg (fun z => c0 (hz.mp z))]; exact cv
        rw [v1, if_pos rfl] at hc
        rw [(setting_m _ _).trans (congrArg some (if_neg (fun z => v2 z.2))), kbs, if_pos rfl] at hm
        exact CmdR.fail hc hm
    · rw [if_neg ci, if_pos rfl] at hc
      rw [(setting_m _ _).trans (congrArg some (if_neg (fun z => ci z.1))), kbs, if_pos rfl] at hm
      exact CmdR.fail hc hm
  · rw [if_neg (fun z => c ((nI_eq0 (by omega)).mp z))] at hc
    rw [if_pos (show (0 : Int32) < nI (n % 10) from nI_lt (a := 0) (by omega) (by omega))] at hm
    exact CmdR.fail hc hm
theorem cmd_6 (hn : n < 100000) (e : n / 10000 = 6) (h : SREL sto dro fou told le sh rolls frm tk sr se r) : CmdR sto dro fou told wl wr le sh rolls frm tk sr se r side was n := by
  obtain ⟨c1, c2, c3, c4, c5, c6, c7, c8⟩ := dg hn
  obtain ⟨m1, m2, m3, m4, m5, m6, m7, m8, m9⟩ := dm n
  have e10 : (10 : Int32) * nI (n / 10 % 10) + nI (n % 10) = nI (n % 100) := by
    rw [show (10 : Int32) = nI 10 from rfl, pk_mul, ix_add]
    congr 1
    omega
  have hc : fn_X3_succeeds sto dro fou told wl wr le sh rolls frm tk sr se (nI n) = if nI (n / 1000 % 10) = 0 then if nI (n / 100 % 10) = 0 then (fn_X2_toldSet told).bind fun o232 => (fn_J6_bitCount_0f7a4 o232).bind fun o235 => if nI (n % 100) < o235 then fn_X3_succeeds_253 sto dro fou told wl wr le sh rolls frm tk sr se else fn_X3_succeeds_254 sto dro fou told wl wr le sh rolls frm tk sr se (1 : Int32) else fn_X3_succeeds_253 sto dro fou told wl wr le sh rolls frm tk sr se else fn_X3_succeeds_253 sto dro fou told wl wr le sh rolls frm tk sr se := by
    unfold fn_X3_succeeds
    simp only [c1, c2, c3, c4, c5, c6, c7, c8]
    rw [e, if_neg (show ¬ nI 6 = (1 : Int32) by decide), if_neg (show ¬ nI 6 = (2 : Int32) by decide), if_neg (show ¬ nI 6 = (3 : Int32) by decide), if_neg (show ¬ nI 6 = (4 : Int32) by decide), if_neg (show ¬ nI 6 = (5 : Int32) by decide), if_pos (show nI 6 = (6 : Int32) from rfl)]
    rw [e10]
  have hm : fn_X8_command r side was (nI (n / 10000)) (nI (n % 10000)) = if (100 : Int32) ≤ nI (n % 10000) then fn_X8_command_277 r side was else (fn_X8_toldOf r).bind fun o266 => if nI (n % 10000) < o266 then fn_X8_command_277 r side was else fn_X8_command_278 r side was (1 : Int32) := by
    unfold fn_X8_command
    simp only [m1, m2, m3, m4, m5, m6, m7, m8, m9]
    rw [e, if_neg (show ¬ nI 6 = (1 : Int32) by decide), if_neg (show ¬ nI 6 = (2 : Int32) by decide), if_neg (show ¬ nI 6 = (3 : Int32) by decide), if_neg (show ¬ nI 6 = (4 : Int32) by decide), if_neg (show ¬ nI 6 = (5 : Int32) by decide), if_pos (show nI 6 = (6 : Int32) from rfl)]
  by_cases cc : n / 1000 % 10 = 0 ∧ n / 100 % 10 = 0
  · rw [if_pos ((nI_eq0 (by omega)).mpr cc.1), if_pos ((nI_eq0 (by omega)).mpr cc.2)] at hc
    have en : n % 10000 = n % 100 := by omega
    rw [en, if_neg (show ¬ (100 : Int32) ≤ nI (n % 100) from ix_ge (n := 100) (by omega) (by omega))] at hm
    have ht : ∃ t, fn_J6_bitCount_0f7a4 told = some t ∧ fn_X8_toldOf r = some t := by
      obtain ⟨M, R, Fm, T, S, rfl, hP, -⟩ := h
      exact ⟨_, bitCount_eq hP.1, told_m hP.2.2.1⟩
    obtain ⟨t, t1, t2⟩ := ht
    unfold fn_X2_toldSet at hc
    rw [kbs, t1, kbs] at hc
    rw [t2, kbs] at hm
    rw [← en] at hm
    by_cases cl : nI (n % 100) < t
    · rw [if_pos cl] at hc
      rw [en, if_pos cl, ← en] at hm
      exact CmdR.fail hc hm
    · rw [if_neg cl] at hc
      rw [en, if_neg cl, ← en] at hm
      exact CmdR.same h hc hm
  · rw [if_pos (show (100 : Int32) ≤ nI (n % 10000) from nI_le (a := 100) (by omega) (by omega))] at hm
    refine CmdR.fail ?_ hm
    rw [hc]
    by_cases c1 : n / 1000 % 10 = 0
    · rw [if_pos ((nI_eq0 (by omega)).mpr c1), if_neg (fun z => cc ⟨c1, (nI_eq0 (by omega)).mp z⟩)]
      rfl
    · rw [if_neg (fun z => c1 ((nI_eq0 (by omega)).mp z))]
      rfl
theorem cmd_7 (hn : n < 100000) (e : n / 10000 = 7) (h : SREL sto dro fou told le sh rolls frm tk sr se r) : CmdR sto dro fou told wl wr le sh rolls frm tk sr se r side was n := by
  obtain ⟨c1, c2, c3, c4, c5, c6, c7, c8⟩ := dg hn
  obtain ⟨m1, m2, m3, m4, m5, m6, m7, m8, m9⟩ := dm n
  have hc : fn_X3_succeeds sto dro fou told wl wr le sh rolls frm tk sr se (nI n) = if nI (n / 10 % 10) = 0 then if nI (n % 10) = 0 then (fn_X2_leaningOf le (nI (n / 1000 % 10))).bind fun o270 => if o270 = nI (n / 100 % 10) then fn_X3_succeeds_282 sto dro fou told wl wr le sh rolls frm tk sr se (1 : Int32) else fn_X3_succeeds_281 sto dro fou told wl wr le sh rolls frm tk sr se else fn_X3_succeeds_281 sto dro fou told wl wr le sh rolls frm tk sr se else fn_X3_succeeds_281 sto dro fou told wl wr le sh rolls frm tk sr se := by
    unfold fn_X3_succeeds
    simp only [c1, c2, c3, c4, c5, c6, c7, c8]
    rw [e, if_neg (show ¬ nI 7 = (1 : Int32) by decide), if_neg (show ¬ nI 7 = (2 : Int32) by decide), if_neg (show ¬ nI 7 = (3 : Int32) by decide), if_neg (show ¬ nI 7 = (4 : Int32) by decide), if_neg (show ¬ nI 7 = (5 : Int32) by decide), if_neg (show ¬ nI 7 = (6 : Int32) by decide), if_pos (show nI 7 = (7 : Int32) from rfl)]
  have hm : fn_X8_command r side was (nI (n / 10000)) (nI (n % 10000)) = if nI (n % 100) = 0 then if (4 : Int32) < nI (n / 100 % 10) then fn_X8_command_307 r side was else if ((0 : Int32) + nI (n / 1000 % 10)) < 0 ∨ 79 ≤ ((0 : Int32) + nI (n / 1000 % 10)).toNatClampNeg then none else if (r (((0 : Int32) + nI (n / 1000 % 10)).toNatClampNeg)) = nI (n / 100 % 10) then fn_X8_command_308 r side was (1 : Int32) else fn_X8_command_307 r side was else fn_X8_command_307 r side was := by
    unfold fn_X8_command
    simp only [m1, m2, m3, m4, m5, m6, m7, m8, m9]
    rw [e, if_neg (show ¬ nI 7 = (1 : Int32) by decide), if_neg (show ¬ nI 7 = (2 : Int32) by decide), if_neg (show ¬ nI 7 = (3 : Int32) by decide), if_neg (show ¬ nI 7 = (4 : Int32) by decide), if_neg (show ¬ nI 7 = (5 : Int32) by decide), if_neg (show ¬ nI 7 = (6 : Int32) by decide), if_pos (show nI 7 = (7 : Int32) from rfl)]
  by_cases cc : n / 10 % 10 = 0 ∧ n % 10 = 0
  · have hk : n / 1000 % 10 < 10 := Nat.mod_lt _ (by omega)
    have hl := h.lv hk
    rw [if_pos ((nI_eq0 (by omega)).mpr cc.1), if_pos ((nI_eq0 (by omega)).mpr cc.2), leaning_c hk, kbs] at hc
    rw [if_pos ((nI_eq0 (by omega)).mpr (show n % 100 = 0 by omega)), ix_add0, if_neg (nI_in (N := 79) (by omega) (by omega)), nI_clamp (by omega), hl.1] at hm
    by_cases cl : le (n / 1000 % 10) = nI (n / 100 % 10)
    · have h4 : ¬ (4 : Int32) < nI (n / 100 % 10) := by rw [← cl]; rcases hl.2.2.1 with z | z | z | z | z <;> rw [z] <;> decide
      rw [if_pos cl] at hc
      rw [if_neg h4, if_pos cl] at hm
      exact CmdR.same h hc hm
    · rw [if_neg cl] at hc
      rw [if_neg cl] at hm
      refine CmdR.fail hc ?_
      rw [hm]
      split <;> rfl
  · rw [if_neg (fun z => cc (by have := (nI_eq0 (by omega)).mp z; omega))] at hm
    refine CmdR.fail ?_ hm
    rw [hc]
    by_cases c1 : n / 10 % 10 = 0
    · rw [if_pos ((nI_eq0 (by omega)).mpr c1), if_neg (fun z => cc ⟨c1, (nI_eq0 (by omega)).mp z⟩)]
      rfl
    · rw [if_neg (fun z => c1 ((nI_eq0 (by omega)).mp z))]
      rfl
theorem cmd_8 (hn : n < 100000) (e : n / 10000 = 8) (h : SREL sto dro fou told le sh rolls frm tk sr se r) : CmdR sto dro fou told wl wr le sh rolls frm tk sr se r side was n := by
  obtain ⟨c1, c2, c3, c4, c5, c6, c7, c8⟩ := dg hn
  obtain ⟨m1, m2, m3, m4, m5, m6, m7, m8, m9⟩ := dm n
  have e10 : (100 : Int32) * nI (n / 100 % 10) + (10 : Int32) * nI (n / 10 % 10) + nI (n % 10) = nI (n % 1000) := by
    rw [show (10 : Int32) = nI 10 from rfl, show (100 : Int32) = nI 100 from rfl, pk_mul, pk_mul, ix_add, ix_add]
    congr 1
    omega
  have hc : fn_X3_succeeds sto dro fou told wl wr le sh rolls frm tk sr se (nI n) = if nI (n / 1000 % 10) = 0 then (fn_X4_allPoints rolls frm tk sr).bind fun o291 => if o291 < nI (n % 1000) then fn_X3_succeeds_314 sto dro fou told wl wr le sh rolls frm tk sr se else fn_X3_succeeds_315 sto dro fou told wl wr le sh rolls frm tk sr se (1 : Int32) else fn_X3_succeeds_314 sto dro fou told wl wr le sh rolls frm tk sr se := by
    unfold fn_X3_succeeds
    simp only [c1, c2, c3, c4, c5, c6, c7, c8]
    rw [e, if_neg (show ¬ nI 8 = (1 : Int32) by decide), if_neg (show ¬ nI 8 = (2 : Int32) by decide), if_neg (show ¬ nI 8 = (3 : Int32) by decide), if_neg (show ¬ nI 8 = (4 : Int32) by decide), if_neg (show ¬ nI 8 = (5 : Int32) by decide), if_neg (show ¬ nI 8 = (6 : Int32) by decide), if_neg (show ¬ nI 8 = (7 : Int32) by decide), if_pos (show nI 8 = (8 : Int32) from rfl)]
    rw [e10]
  have hm : fn_X8_command r side was (nI (n / 10000)) (nI (n % 10000)) = if (1000 : Int32) ≤ nI (n % 10000) then fn_X8_command_331 r side was else (fn_X8_points r).bind fun o320 => if o320 < nI (n % 10000) then fn_X8_command_331 r side was else fn_X8_command_332 r side was (1 : Int32) := by
    unfold fn_X8_command
    simp only [m1, m2, m3, m4, m5, m6, m7, m8, m9]
    rw [e, if_neg (show ¬ nI 8 = (1 : Int32) by decide), if_neg (show ¬ nI 8 = (2 : Int32) by decide), if_neg (show ¬ nI 8 = (3 : Int32) by decide), if_neg (show ¬ nI 8 = (4 : Int32) by decide), if_neg (show ¬ nI 8 = (5 : Int32) by decide), if_neg (show ¬ nI 8 = (6 : Int32) by decide), if_neg (show ¬ nI 8 = (7 : Int32) by decide), if_pos (show nI 8 = (8 : Int32) from rfl)]
  by_cases cc : n / 1000 % 10 = 0
  · obtain ⟨p, hp, p1, p2⟩ := h.pts
    rw [if_pos ((nI_eq0 (by omega)).mpr cc), p1, kbs] at hc
    rw [if_neg (show ¬ (1000 : Int32) ≤ nI (n % 10000) from ix_ge (n := 1000) (by omega) (by omega)), p2, kbs] at hm
    have en : n % 1000 = n % 10000 := by omega
    rw [en] at hc
    by_cases cl : nI p < nI (n % 10000)
    · rw [if_pos cl] at hc hm
      exact CmdR.fail hc hm
    · rw [if_neg cl] at hc hm
      exact CmdR.same h hc hm
  · rw [if_pos (show (1000 : Int32) ≤ nI (n % 10000) from nI_le (a := 1000) (by omega) (by omega))] at hm
    rw [if_neg (fun z => cc ((nI_eq0 (by omega)).mp z))] at hc
    exact CmdR.fail hc hm
theorem cmd_9 (hn : n < 100000) (e : n / 10000 = 9) (h : SREL sto dro fou told le sh rolls frm tk sr se r) : CmdR sto dro fou told wl wr le sh rolls frm tk sr se r side was n := by
  obtain ⟨c1, c2, c3, c4, c5, c6, c7, c8⟩ := dg hn
  obtain ⟨m1, m2, m3, m4, m5, m6, m7, m8, m9⟩ := dm n
  have hc : fn_X3_succeeds sto dro fou told wl wr le sh rolls frm tk sr se (nI n) = if nI (n / 100 % 10) = 0 then if nI (n / 10 % 10) = 0 then (fn_X4_markOf rolls frm tk sr (nI (n / 1000 % 10))).bind fun o330 => if o330 = nI (n % 10) then fn_X3_succeeds_343 sto dro fou told wl wr le sh rolls frm tk sr se (1 : Int32) else fn_X3_succeeds_342 sto dro fou told wl wr le sh rolls frm tk sr se else fn_X3_succeeds_342 sto dro fou told wl wr le sh rolls frm tk sr se else fn_X3_succeeds_342 sto dro fou told wl wr le sh rolls frm tk sr se := by
    unfold fn_X3_succeeds
    simp only [c1, c2, c3, c4, c5, c6, c7, c8]
    rw [e, if_neg (show ¬ nI 9 = (1 : Int32) by decide), if_neg (show ¬ nI 9 = (2 : Int32) by decide), if_neg (show ¬ nI 9 = (3 : Int32) by decide), if_neg (show ¬ nI 9 = (4 : Int32) by decide), if_neg (show ¬ nI 9 = (5 : Int32) by decide), if_neg (show ¬ nI 9 = (6 : Int32) by decide), if_neg (show ¬ nI 9 = (7 : Int32) by decide), if_neg (show ¬ nI 9 = (8 : Int32) by decide), if_pos (show nI 9 = (9 : Int32) from rfl)]
  have hm : fn_X8_command r side was (nI (n / 10000)) (nI (n % 10000)) = if (3 : Int32) ≤ nI (n % 1000) then fn_X8_command_362 r side was else (fn_X8_markOf r (nI (n / 1000 % 10))).bind fun o347 => if o347 = nI (n % 1000) then fn_X8_command_363 r side was (1 : Int32) else fn_X8_command_362 r side was := by
    unfold fn_X8_command
    simp only [m1, m2, m3, m4, m5, m6, m7, m8, m9]
    rw [e, if_neg (show ¬ nI 9 = (1 : Int32) by decide), if_neg (show ¬ nI 9 = (2 : Int32) by decide), if_neg (show ¬ nI 9 = (3 : Int32) by decide), if_neg (show ¬ nI 9 = (4 : Int32) by decide), if_neg (show ¬ nI 9 = (5 : Int32) by decide), if_neg (show ¬ nI 9 = (6 : Int32) by decide), if_neg (show ¬ nI 9 = (7 : Int32) by decide), if_neg (show ¬ nI 9 = (8 : Int32) by decide), if_pos (show nI 9 = (9 : Int32) from rfl)]
  by_cases cc : n / 100 % 10 = 0 ∧ n / 10 % 10 = 0
  · have en : n % 1000 = n % 10 := by omega
    have hmk : ∃ t : Nat, t ≤ 2 ∧ fn_X4_markOf rolls frm tk sr (nI (n / 1000 % 10)) = some (nI t) ∧ fn_X8_markOf r (nI (n / 1000 % 10)) = some (nI t) := by
      obtain ⟨M, R, Fm, T, S, -, hP, hI, hC, hM, -⟩ := h
      exact ⟨_, nmk_le, markOf_c hI hC (Nat.mod_lt _ (by omega)), markOf_m hI hM (Nat.mod_lt _ (by omega))⟩
    obtain ⟨t, ht, t1, t2⟩ := hmk
    rw [if_pos ((nI_eq0 (by omega)).mpr cc.1), if_pos ((nI_eq0 (by omega)).mpr cc.2), t1, kbs] at hc
    rw [en, t2, kbs] at hm
    by_cases cl : nI t = nI (n % 10)
    · have h3 : ¬ (3 : Int32) ≤ nI (n % 10) := by rw [← cl]; exact ix_ge (n := 3) (by omega) (by omega)
      rw [if_pos cl] at hc
      rw [if_neg h3, if_pos cl] at hm
      exact CmdR.same h hc hm
    · rw [if_neg cl] at hc
      rw [if_neg cl] at hm
      refine CmdR.fail hc ?_
      rw [hm]
      split <;> rfl
  · rw [if_pos (show (3 : Int32) ≤ nI (n % 1000) from nI_le (a := 3) (by omega) (by omega))] at hm
    refine CmdR.fail ?_ hm
    rw [hc]
    by_cases c1 : n / 100 % 10 = 0
    · rw [if_pos ((nI_eq0 (by omega)).mpr c1), if_neg (fun z => cc ⟨c1, (nI_eq0 (by omega)).mp z⟩)]
      rfl
    · rw [if_neg (fun z => c1 ((nI_eq0 (by omega)).mp z))]
      rfl
theorem cmd_0 (hn : n < 100000) (e : n / 10000 = 0) : CmdR sto dro fou told wl wr le sh rolls frm tk sr se r side was n := by
  obtain ⟨c1, c2, c3, c4, c5, c6, c7, c8⟩ := dg hn
  obtain ⟨m1, m2, m3, m4, m5, m6, m7, m8, m9⟩ := dm n
  refine CmdR.fail ?_ ?_
  · unfold fn_X3_succeeds
    simp only [c1]
    rw [e, if_neg (show ¬ nI 0 = (1 : Int32) by decide), if_neg (show ¬ nI 0 = (2 : Int32) by decide), if_neg (show ¬ nI 0 = (3 : Int32) by decide), if_neg (show ¬ nI 0 = (4 : Int32) by decide), if_neg (show ¬ nI 0 = (5 : Int32) by decide), if_neg (show ¬ nI 0 = (6 : Int32) by decide), if_neg (show ¬ nI 0 = (7 : Int32) by decide), if_neg (show ¬ nI 0 = (8 : Int32) by decide), if_neg (show ¬ nI 0 = (9 : Int32) by decide)]
  · unfold fn_X8_command
    rw [e, if_neg (show ¬ nI 0 = (1 : Int32) by decide), if_neg (show ¬ nI 0 = (2 : Int32) by decide), if_neg (show ¬ nI 0 = (3 : Int32) by decide), if_neg (show ¬ nI 0 = (4 : Int32) by decide), if_neg (show ¬ nI 0 = (5 : Int32) by decide), if_neg (show ¬ nI 0 = (6 : Int32) by decide), if_neg (show ¬ nI 0 = (7 : Int32) by decide), if_neg (show ¬ nI 0 = (8 : Int32) by decide), if_neg (show ¬ nI 0 = (9 : Int32) by decide)]
theorem sim_cmd (hn : n < 100000) (h : SREL sto dro fou told le sh rolls frm tk sr se r) : CmdR sto dro fou told wl wr le sh rolls frm tk sr se r side was n := by
  rcases (show n / 10000 = 0 ∨ n / 10000 = 1 ∨ n / 10000 = 2 ∨ n / 10000 = 3 ∨ n / 10000 = 4 ∨ n / 10000 = 5 ∨ n / 10000 = 6 ∨ n / 10000 = 7 ∨ n / 10000 = 8 ∨ n / 10000 = 9 by omega) with e | e | e | e | e | e | e | e | e | e
  · exact cmd_0 hn e
  · exact cmd_1 hn e h
  · exact cmd_2 hn e h
  · exact cmd_3 hn e h
  · exact cmd_4 hn e h
  · exact cmd_5 hn e h
  · exact cmd_6 hn e h
  · exact cmd_7 hn e h
  · exact cmd_8 hn e h
  · exact cmd_9 hn e h
end CM
